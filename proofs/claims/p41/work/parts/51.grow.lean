/-! ===== contracts that add cells; rows over builders and strings of the law's own ===== -/
abbrev gQt : Type := gE → Option gV → gS → Prop
def gQrG (E : gE) (Q : gQt) : Array Value → State → Outcome → State → Prop := fun _ st oc t => ∃ (E2 : gE) (rv : Option gV) (σ' : gS), gMore E E2 ∧ Q E2 rv σ' ∧ oc = .returned (rv.map (gc E2)) ∧ gI E2 σ' t ∧ va_F (gA E) st t
def gCtG (E : gE) (M : gMt) (D n : Nat) (as : List gV) (σ : gS) (Q : gQt) : Prop :=
  vx_Met (gL E) M.1 [Cond.code M.1 M.2.1 M.2.2.1 M.2.2.2] (gRm D n) (va_Pc (as.map (gc E)) (gI E σ)) (gQrG E Q) gQxN n (6 * n) (gA E)
def gEndG (X : gM) (E : gE) (n : Nat) (Q : gQt) : Prop :=
  X.2.2.2.2.2.2.2.2.2.2 = vx_MQ X.2.2.2.2.2.2.2.1 (gQrG E Q) gQxN X.2.2.2.2.2.2.1 X.2.2.2.2.1 n (6 * n) (gA E)
theorem gCtG_of {E : gE} {M : gMt} {D n : Nat} {as : List gV} {σ : gS} {R : gQt} (L : List (Option gV)) (hy : plainName M.1.cls = true) (h1 : as.all (fun v => gC1 (some v)) = true) (hL : L = as.map some ++ List.replicate (M.2.2.1 - as.length) none) (hlen : as.length ≤ M.2.2.1)
    (body : ∀ X : gM, gK X E M D n → X.2.2.2.2.2.2.2.2.1.name = M.1.name → gEndG X E n R → gWX X E 0 0 0 L [] σ) : gCtG E M D n as σ R := by
  have h1' : ∀ v ∈ as, gC1 (some v) = true := List.all_eq_true.mp h1
  refine vx_ofW (ws' := []) (cc := M.2.1) (maxL := M.2.2.1) (ret := M.2.2.2) hy rfl ?_
  intro p e s m args below meth c s₁ B hml hxt hv
  obtain ⟨rfl, hN, hP⟩ := hv
  have hb := body (p, gL E, e, gRm D n, s, m, (as.map (gc E)).toArray, below, meth, c, vx_MQ below (gQrG E R) gQxN (as.map (gc E)).toArray s n (6 * n) (gA E)) ⟨B.exec, B.bytes, hml, findClass_of_methodNamed B.named, hN, B.notSynchronized, rfl, B.returns, hxt, rfl⟩ (name_of_methodNamed B.named B.method).1 rfl
  have hsl := gSl (E := E) as h1'
  have hl := lv_entry (as.map (gc E)) (n := M.2.2.1) (by rw [hsl]; exact hlen)
  rw [lg_entry_eq]
  refine hb s.heap [] _ hP va_S.rf ?_
  have e1 : L.length = M.2.2.1 := by rw [hL]; simp; omega
  rw [e1, hL, gEntry as 0 _ h1']
  exact hl
section GG
variable {X : gM} {E E2 : gE} {M : gMt} {D n cells slots pc : Nat} {L : List (Option gV)} {st : List gV} {σ σ' : gS} {R : gQt}
theorem gEndG_ret {s : State} {rv : Option gV} {H : Heap} {locs : List Loc} {args : Array Value} {v : Option Value} (hm : gMore E E2) (hv : v = rv.map (gc E2)) (hR : R E2 rv σ) (hN : gN E2 s s.heap) (hP : va_P (gD E2) gCl (gW E2 σ) H) (hS : va_S (gA E2) s.heap H locs) : ∀ t : State, t.heap = H → s.WarmedH t.vm → gQrG E R args s (.returned v) t := by
  intro t ht hW
  subst hv
  have hA : gA E2 = gA E := by unfold gA; rw [gMore_B hm]
  refine ⟨E2, rv, σ, hm, hR, rfl, ⟨?_, by rw [ht]; exact hP⟩, ?_⟩
  · rw [ht]
    exact gN_moved hN hW hS.1 hS.2.1
  · rw [hA] at hS
    exact hS.F ht
theorem x_vretG (K : gK X E2 M D n) (hm : gMore E E2)  (hE : gEndG X E n R) (hr : M.2.2.2 = none) (d : decode M.2.1 pc = .ok (.return_, 1)) (hc : cells ≤ n) (hs : slots ≤ 6 * n) (hR : R E2 (none) σ) : gWX X E2 cells slots pc L [] σ := by
  intro H locs ls hP hS hl
  unfold gW_
  rw [hE]
  refine vx_ret (W.widen hc hs ?_)
  have hA : gA E2 = gA E := by unfold gA; rw [gMore_B hm]
  have hS2 := hS
  rw [hA] at hS2
  exact W.vret K.1 K.2.1 (K.2.2.2.2.2.2.2.1.trans hr) (gEndG_ret (rv := none) hm rfl hR K.2.2.2.2.1 hP hS) hS2.2.2 d K.2.2.2.2.2.1
theorem x_iretG (K : gK X E2 M D n) (hm : gMore E E2) {z : Int} (hE : gEndG X E n R) (hr : M.2.2.2 = some .int) (d : decode M.2.1 pc = .ok (.ireturn, 1)) (hc : cells ≤ n) (hs : slots ≤ 6 * n) (hR : R E2 (some (iv z)) σ) : gWX X E2 cells slots pc L [iv z] σ := by
  intro H locs ls hP hS hl
  unfold gW_
  rw [hE]
  refine vx_ret (W.widen hc hs ?_)
  have hA : gA E2 = gA E := by unfold gA; rw [gMore_B hm]
  have hS2 := hS
  rw [hA] at hS2
  exact W.iret K.1 K.2.1 (K.2.2.2.2.2.2.2.1.trans hr) (gEndG_ret (rv := some (iv z)) hm rfl hR K.2.2.2.2.1 hP hS) hS2.2.2 d K.2.2.2.2.2.1
theorem x_aretG (K : gK X E2 M D n) (hm : gMore E E2) {q : Nat} {cn : String} (hE : gEndG X E n R) (hr : M.2.2.2 = some (.object cn)) (d : decode M.2.1 pc = .ok (.areturn, 1)) (hc : cells ≤ n) (hs : slots ≤ 6 * n) (hR : R E2 (some (.inl (.ref q))) σ) : gWX X E2 cells slots pc L [.inl (.ref q)] σ := by
  intro H locs ls hP hS hl
  unfold gW_
  rw [hE]
  refine vx_ret (W.widen hc hs ?_)
  have hA : gA E2 = gA E := by unfold gA; rw [gMore_B hm]
  have hS2 := hS
  rw [hA] at hS2
  exact W.aret (rt := .object cn) K.1 K.2.1 (K.2.2.2.2.2.2.2.1.trans hr) (Or.inl ⟨cn, rfl⟩) (Or.inr ⟨_, rfl⟩) (gEndG_ret (rv := some (.inl (.ref q))) hm rfl hR K.2.2.2.2.1 hP hS) hS2.2.2 d K.2.2.2.2.2.1
theorem x_aretAG (K : gK X E2 M D n) (hm : gMore E E2) {q : Nat} {ft : FieldType} (hE : gEndG X E n R) (hr : M.2.2.2 = some (.array ft)) (d : decode M.2.1 pc = .ok (.areturn, 1)) (hc : cells ≤ n) (hs : slots ≤ 6 * n) (hR : R E2 (some (.inl (.ref q))) σ) : gWX X E2 cells slots pc L [.inl (.ref q)] σ := by
  intro H locs ls hP hS hl
  unfold gW_
  rw [hE]
  refine vx_ret (W.widen hc hs ?_)
  have hA : gA E2 = gA E := by unfold gA; rw [gMore_B hm]
  have hS2 := hS
  rw [hA] at hS2
  exact W.aret (rt := .array ft) K.1 K.2.1 (K.2.2.2.2.2.2.2.1.trans hr) (Or.inr ⟨ft, rfl⟩) (Or.inr ⟨_, rfl⟩) (gEndG_ret (rv := some (.inl (.ref q))) hm rfl hR K.2.2.2.2.1 hP hS) hS2.2.2 d K.2.2.2.2.2.1
theorem x_aretcA (K : gK X E M D n) {q : Nat} {ft : FieldType} (hE : gEnd X E n (.inl (some (.inl (.ref q)))) σ') (hr : M.2.2.2 = some (.array ft)) (d : decode M.2.1 pc = .ok (.areturn, 1)) (hc : cells ≤ n) (hs : slots ≤ 6 * n) (hσ : σ = σ') : gWX X E cells slots pc L [.inl (.ref q)] σ := by
  subst hσ
  intro H locs ls hP hS hl
  unfold gW_
  rw [hE]
  refine vx_ret (W.widen hc hs ?_)
  exact W.aret (rt := .array ft) K.1 K.2.1 (K.2.2.2.2.2.2.2.1.trans hr) (Or.inr ⟨ft, rfl⟩) (Or.inr ⟨_, rfl⟩) (gEnd_ret rfl K.2.2.2.2.1 hP hS) hS.2.2 d K.2.2.2.2.2.1
def gRunG (X : gM) (E : gE) (H : Heap) (locs : List Loc) (cells slots n' pc : Nat) (ls : Array Slot) (st0 rest : List Value) (R : gQt) : Prop :=
  vx_Run X.1 X.2.1 X.2.2.1 X.2.2.2.1 X.2.2.2.2.1 X.2.2.2.2.2.1 X.2.2.2.2.2.2.1 X.2.2.2.2.2.2.2.1 X.2.2.2.2.2.2.2.2.1 X.2.2.2.2.2.2.2.2.2.1 H locs cells slots n' (6 * n') (F0 X.2.2.2.2.2.1 pc ls st0) rest (gQrG E R #[]) gQxN (gA E)
theorem gRunSG (K : gK X E M D n) {N : gMt} {d n' idx : Nat} {as : List gV} {H : Heap} {locs : List Loc} {ls : Array Slot} (hc : gCtG E N d n' as σ R) (hm : gMth N as.length) (hi : Cond.static N.1 ∈ lw_tbl) (hl : gLk M.1.cls idx N.1) (hf : gFit D d n cells slots n') (hL : ls.size = M.2.2.1) (hst : gCats st ≤ 8) (hP : va_P (gD E) gCl (gW E σ) H) (hS : va_S (gA E) X.2.2.2.2.1.heap H locs) (dd : decode M.2.1 pc = .ok (.invokestatic idx, 3)) :
    gRunG X E H locs cells slots n' pc ls ((as.map (gc E)).reverse ++ st.map (gc E)) (st.map (gc E)) R := by
  have hN := K.2.2.2.2.1
  have hR := K.2.2.2.2.2.2.2.2.2
  have h40 : 8 + (N.2.2.1 + 11) + 64 * d ≤ 64 * D := by have h1 := hm.2.2.2.2; have h2 := hf.1; omega
  unfold gCtG at hc
  rw [← K.2.2.2.2.2.2.1] at hc
  have S : CallFix X.1 X.2.2.2.2.2.1 X.2.2.2.2.2.2.2.2.2.1 M.2.1 M.2.2.1 X.2.2.2.2.1 X.2.2.2.2.2.2.1 [] M.1.cls := ⟨K.1, K.2.1, K.2.2.1, K.2.2.2.1, fun w h => by cases h⟩
  have hp : PreS X.2.2.2.2.1 H (va_Pc (List.map (gc E) as) (gI E σ)) (as.map (gc E)) := ⟨gPc_blind, gPc_at K hP hS⟩
  have hW : 2 * (F0 X.2.2.2.2.2.1 pc ls ((as.map (gc E)).reverse ++ st.map (gc E))).monitorRoom + ((st.map (gc E)).map fun v => v.category).sum ≤ 8 := lv_room (Nat.le_trans (gCats_le st) hst)
  have hr : cells + n' ≤ X.2.2.2.1.cells ∧ slots + 6 * n' ≤ X.2.2.2.1.slots := by rw [hR]; exact hf.2
  rcases hl with hl | ⟨host, hl⟩
  · exact vx_runS (As := as.map (gc E)) (rest := st.map (gc E)) S hc ⟨⟨rfl, rfl, by rw [hR]; exact hf.1, by rw [hR]; exact h40, gPay K hm, List.mem_singleton.mpr rfl, gN_word hN hm.1 rfl _, gN_word hN hm.2.1 rfl _, hm.2.2.1, gLen hm, gN_word hN hl rfl _⟩, gN_word hN hi rfl _⟩ hp rfl (by rw [List.length_map]) hL rfl hW dd hr
  · exact vx_runSN (As := as.map (gc E)) (rest := st.map (gc E)) S hc ⟨⟨⟨rfl, rfl, by rw [hR]; exact hf.1, by rw [hR]; exact h40, gPay K hm, List.mem_singleton.mpr rfl⟩, gN_word hN hm.1 rfl _, gN_word hN hm.2.1 rfl _, hm.2.2.1, gLen hm, gN_any hN hl rfl _⟩, gN_word hN hi rfl _, trivial⟩ hp rfl (by rw [List.length_map]) hL rfl hW dd hr
theorem gRunUG (K : gK X E M D n) {N : gMt} {d n' idx b : Nat} {x : MethodName} {C : String} {v : gV} {as : List gV} {H : Heap} {locs : List Loc} {ls : Array Slot} (hc : gCtG E N d n' (v :: as) σ R) (hm : gMth N as.length) (hi : gMthU E C x N) (hv : gc E v = .ref b) (hk : gRcv X E σ C b) (hl : Cond.methodLink M.1.cls idx x ∈ lw_tbl) (hf : gFit D d n cells slots n') (hL : ls.size = M.2.2.1) (hst : gCats st ≤ 8) (hP : va_P (gD E) gCl (gW E σ) H) (hS : va_S (gA E) X.2.2.2.2.1.heap H locs) (dd : decode M.2.1 pc = .ok (.invokevirtual idx, 3)) :
    gRunG X E H locs cells slots n' pc ls ((as.map (gc E)).reverse ++ .ref b :: st.map (gc E)) (st.map (gc E)) R := by
  have hN := K.2.2.2.2.1
  have hR := K.2.2.2.2.2.2.2.2.2
  have h40 : 8 + (N.2.2.1 + 11) + 64 * d ≤ 64 * D := by have h1 := hm.2.2.2.2; have h2 := hf.1; omega
  unfold gCtG at hc
  rw [← K.2.2.2.2.2.2.1, List.map_cons, hv] at hc
  have hW : 2 * (F0 X.2.2.2.2.2.1 pc ls ((as.map (gc E)).reverse ++ .ref b :: st.map (gc E))).monitorRoom + ((st.map (gc E)).map fun v => v.category).sum ≤ 8 := lv_room (Nat.le_trans (gCats_le st) hst)
  have hr : cells + n' ≤ X.2.2.2.1.cells ∧ slots + 6 * n' ≤ X.2.2.2.1.slots := by rw [hR]; exact hf.2
  obtain ⟨cellB, hcB, hoB, hclB⟩ := hk H locs hP hS
  have hxd : x.desc = N.1.desc := by rw [hi.2.2.2]
  intro T hT Z
  refine gx_run (y := N.1) (Pc := va_Pc (.ref b :: as.map (gc E)) (gI E σ)) hT (gx_callU Z K.1 K.2.2.2.1 (gN_word hN hl rfl _) (gN_any hN hi.1 rfl _) (va_Decl.of (args := #[]) (by rw [← hi.2.2.2]; exact gN_word hN hi.2.2.1 rfl _) (by rw [← hi.2.2.2]; exact gN_word hN hm.1 rfl _)) hm.2.2.1 (hi.2.1 _ _ hN _) (gN_word hN hi.2.2.1 rfl _)
    (vx_back (bytes := N.2.1) (maxL := N.2.2.1) (ret := N.2.2.2) hc gPc_blind rfl rfl (by rw [hR]; exact hf.1) (by rw [hR]; exact h40) (gPay K hm) (List.mem_singleton.mpr rfl) (fun a' U hW => word_at hW (Or.inl rfl) (gN_word hN hm.2.1 rfl #[])))
    (by rw [hT]; exact hcB) hoB hclB rfl (hL.trans K.2.2.1.symm) (argsL := as.map (gc E)) (rest := st.map (gc E)) (fun sig h => by rw [List.length_map]; exact gLen hm sig (by rw [← hxd]; exact h)) rfl hW (by rw [K.2.1]; exact dd)
    (fun vm₁ hW₁ => ⟨hr.1, hr.2, gPc_at K hP hS (T.setVm vm₁) hT hW₁⟩))
theorem gRunIG (K : gK X E M D n) {N : gMt} {d n' idx b : Nat} {C : String} {v : gV} {as : List gV} {H : Heap} {locs : List Loc} {ls : Array Slot} (hc : gCtG E N d n' (v :: as) σ R) (hm : gMth N as.length) (hi : gMthS M.1.cls N) (hv : gc E v = .ref b) (hk : gRcv X E σ C b) (hat : ∃ cC, ClassAt X.2.2.2.2.1 C cC) (hl : Cond.methodLink M.1.cls idx N.1 ∈ lw_tbl) (hf : gFit D d n cells slots n') (hL : ls.size = M.2.2.1) (hst : gCats st ≤ 8) (hP : va_P (gD E) gCl (gW E σ) H) (hS : va_S (gA E) X.2.2.2.2.1.heap H locs) (dd : decode M.2.1 pc = .ok (.invokespecial idx, 3)) :
    gRunG X E H locs cells slots n' pc ls ((as.map (gc E)).reverse ++ .ref b :: st.map (gc E)) (st.map (gc E)) R := by
  have hN := K.2.2.2.2.1
  have hR := K.2.2.2.2.2.2.2.2.2
  have h40 : 8 + (N.2.2.1 + 11) + 64 * d ≤ 64 * D := by have h1 := hm.2.2.2.2; have h2 := hf.1; omega
  unfold gCtG at hc
  rw [← K.2.2.2.2.2.2.1, List.map_cons, hv] at hc
  have hW : 2 * (F0 X.2.2.2.2.2.1 pc ls ((as.map (gc E)).reverse ++ .ref b :: st.map (gc E))).monitorRoom + ((st.map (gc E)).map fun v => v.category).sum ≤ 8 := lv_room (Nat.le_trans (gCats_le st) hst)
  have hr : cells + n' ≤ X.2.2.2.1.cells ∧ slots + 6 * n' ≤ X.2.2.2.1.slots := by rw [hR]; exact hf.2
  obtain ⟨cellB, hcB, hoB, hclB⟩ := hk H locs hP hS
  obtain ⟨cC, hfc, kB, hkB, -⟩ := hat
  cases hfc.symm.trans hclB
  intro T hT Z
  refine gx_run (y := N.1) (Pc := va_Pc (.ref b :: as.map (gc E)) (gI E σ)) hT (gx_callSU Z K.1 (bytes := N.2.1) (maxL := N.2.2.1) (ret := N.2.2.2) K.2.2.2.1 (gN_word hN hl rfl _) (gN_any hN hi.1 rfl _) (gN_any hN hi.2.1 rfl _) (gN_word hN hi.2.2.1 rfl _) (gN_word hN hm.1 rfl _) hi.2.2.2
    (vx_back (bytes := N.2.1) (maxL := N.2.2.1) (ret := N.2.2.2) hc gPc_blind rfl rfl (by rw [hR]; exact hf.1) (by rw [hR]; exact h40) (gPay K hm) (List.mem_singleton.mpr rfl) (fun a' U hW => word_at hW (Or.inl rfl) (gN_word hN hm.2.1 rfl #[])))
    (by rw [hT]; exact hcB) hoB hkB rfl (hL.trans K.2.2.1.symm) (argsL := as.map (gc E)) (rest := st.map (gc E)) (fun sig h => by rw [List.length_map]; exact gLen hm sig h) rfl hW (by rw [K.2.1]; exact dd)
    (fun vm₁ hW₁ => ⟨hr.1, hr.2, gPc_at K hP hS (T.setVm vm₁) hT hW₁⟩))
theorem gRunY (K : gK X E M D n) {N : gMt} {d n' idx a : Nat} {as : List gV} {o : gO} {H : Heap} {locs : List Loc} {ls : Array Slot} (hc : gCt E N d n' (.inl (.ref a) :: as) σ o σ') (hm : gMth N as.length) (hi : gMthI N) (hk : gRcv X E σ N.1.cls a) (hl : gLk M.1.cls idx N.1) (hf : gFit D d n cells slots n') (hL : ls.size = M.2.2.1) (hst : gCats st ≤ 8) (hP : va_P (gD E) gCl (gW E σ) H) (hS : va_S (gA E) X.2.2.2.2.1.heap H locs) (dd : decode M.2.1 pc = .ok (.invokevirtual idx, 3)) :
    gRun X E H locs cells slots n' pc ls ((as.map (gc E)).reverse ++ .ref a :: st.map (gc E)) (st.map (gc E)) σ o σ' := by
  have hN := K.2.2.2.2.1
  have hR := K.2.2.2.2.2.2.2.2.2
  have h40 : 8 + (N.2.2.1 + 11) + 64 * d ≤ 64 * D := by have h1 := hm.2.2.2.2; have h2 := hf.1; omega
  unfold gCt at hc
  rw [← K.2.2.2.2.2.2.1] at hc
  have S : CallFix X.1 X.2.2.2.2.2.1 X.2.2.2.2.2.2.2.2.2.1 M.2.1 M.2.2.1 X.2.2.2.2.1 X.2.2.2.2.2.2.1 [] M.1.cls := ⟨K.1, K.2.1, K.2.2.1, K.2.2.2.1, fun w h => by cases h⟩
  have hp : PreV X.2.2.2.2.1 H N.1.cls a (va_Pc (List.map (gc E) (.inl (.ref a) :: as)) (gI E σ)) (as.map (gc E)) := ⟨gPc_blind, hk H locs hP hS, gPc_at K hP hS⟩
  have hW : 2 * (F0 X.2.2.2.2.2.1 pc ls ((as.map (gc E)).reverse ++ .ref a :: st.map (gc E))).monitorRoom + ((st.map (gc E)).map fun v => v.category).sum ≤ 8 := lv_room (Nat.le_trans (gCats_le st) hst)
  have hr : cells + n' ≤ X.2.2.2.1.cells ∧ slots + 6 * n' ≤ X.2.2.2.1.slots := by rw [hR]; exact hf.2
  rcases hl with hl | ⟨host, hl⟩
  · exact vx_runV S hc ⟨⟨rfl, rfl, by rw [hR]; exact hf.1, by rw [hR]; exact h40, gPay K hm, List.mem_singleton.mpr rfl, gN_word hN hm.1 rfl _, gN_word hN hm.2.1 rfl _, hm.2.2.1, gLen hm, gN_word hN hl rfl _⟩, gN_word hN hi.1 rfl _, gN_word hN hi.2 rfl _⟩ hp rfl (by rw [List.length_map]) hL rfl hW dd hr
  · exact vx_runVN S hc ⟨⟨⟨rfl, rfl, by rw [hR]; exact hf.1, by rw [hR]; exact h40, gPay K hm, List.mem_singleton.mpr rfl⟩, gN_word hN hm.1 rfl _, gN_word hN hm.2.1 rfl _, hm.2.2.1, gLen hm, gN_any hN hl rfl _⟩, gN_word hN hi.1 rfl _, gN_word hN hi.2 rfl _⟩ hp rfl (by rw [List.length_map]) hL rfl hW dd hr
theorem gRunYG (K : gK X E M D n) {N : gMt} {d n' idx a : Nat} {as : List gV} {H : Heap} {locs : List Loc} {ls : Array Slot} (hc : gCtG E N d n' (.inl (.ref a) :: as) σ R) (hm : gMth N as.length) (hi : gMthI N) (hk : gRcv X E σ N.1.cls a) (hl : gLk M.1.cls idx N.1) (hf : gFit D d n cells slots n') (hL : ls.size = M.2.2.1) (hst : gCats st ≤ 8) (hP : va_P (gD E) gCl (gW E σ) H) (hS : va_S (gA E) X.2.2.2.2.1.heap H locs) (dd : decode M.2.1 pc = .ok (.invokevirtual idx, 3)) :
    gRunG X E H locs cells slots n' pc ls ((as.map (gc E)).reverse ++ .ref a :: st.map (gc E)) (st.map (gc E)) R := by
  have hN := K.2.2.2.2.1
  have hR := K.2.2.2.2.2.2.2.2.2
  have h40 : 8 + (N.2.2.1 + 11) + 64 * d ≤ 64 * D := by have h1 := hm.2.2.2.2; have h2 := hf.1; omega
  unfold gCtG at hc
  rw [← K.2.2.2.2.2.2.1] at hc
  have S : CallFix X.1 X.2.2.2.2.2.1 X.2.2.2.2.2.2.2.2.2.1 M.2.1 M.2.2.1 X.2.2.2.2.1 X.2.2.2.2.2.2.1 [] M.1.cls := ⟨K.1, K.2.1, K.2.2.1, K.2.2.2.1, fun w h => by cases h⟩
  have hp : PreV X.2.2.2.2.1 H N.1.cls a (va_Pc (List.map (gc E) (.inl (.ref a) :: as)) (gI E σ)) (as.map (gc E)) := ⟨gPc_blind, hk H locs hP hS, gPc_at K hP hS⟩
  have hW : 2 * (F0 X.2.2.2.2.2.1 pc ls ((as.map (gc E)).reverse ++ .ref a :: st.map (gc E))).monitorRoom + ((st.map (gc E)).map fun v => v.category).sum ≤ 8 := lv_room (Nat.le_trans (gCats_le st) hst)
  have hr : cells + n' ≤ X.2.2.2.1.cells ∧ slots + 6 * n' ≤ X.2.2.2.1.slots := by rw [hR]; exact hf.2
  rcases hl with hl | ⟨host, hl⟩
  · exact vx_runV S hc ⟨⟨rfl, rfl, by rw [hR]; exact hf.1, by rw [hR]; exact h40, gPay K hm, List.mem_singleton.mpr rfl, gN_word hN hm.1 rfl _, gN_word hN hm.2.1 rfl _, hm.2.2.1, gLen hm, gN_word hN hl rfl _⟩, gN_word hN hi.1 rfl _, gN_word hN hi.2 rfl _⟩ hp rfl (by rw [List.length_map]) hL rfl hW dd hr
  · exact vx_runVN S hc ⟨⟨⟨rfl, rfl, by rw [hR]; exact hf.1, by rw [hR]; exact h40, gPay K hm, List.mem_singleton.mpr rfl⟩, gN_word hN hm.1 rfl _, gN_word hN hm.2.1 rfl _, hm.2.2.1, gLen hm, gN_any hN hl rfl _⟩, gN_word hN hi.1 rfl _, gN_word hN hi.2 rfl _⟩ hp rfl (by rw [List.length_map]) hL rfl hW dd hr
theorem gx_callI {p : Program} {l : Launch} {e : Env} {R : Room} {s : State} {m : MethodId} {args : Array Value} {below : List Frame} {meth : Method} {c : Code} {T : State} {locs : List Loc} {cells slots : Nat} (X : Stand p l e R s m args below meth c T locs cells slots) (hexec : p.tables.exec = Jvm.exec) {own : String} {index : Nat} {y : MethodName} {bytes : ByteArray} {maxL : Nat}
    (hown : s.vm.findClass own = some m.cls) (hy1 : y.name = "<init>") (hlink : (Cond.methodLink own index y).before args s = true) (hinst : (Cond.instanceMethod y).before args s = true)
    (hcode : (Cond.code y bytes maxL none).before args s = true) (hy : y.cls ≠ "java/lang/invoke/MethodHandle" ∧ y.cls ≠ "java/lang/invoke/VarHandle")
    {W9 : Nat} {Pre : Pt → Array Value → Prop} {Post : Pt → Array Value → Option Value → Pt → Prop} {PostX : Pt → Array Value → Addr → Pt → Prop} (hK : vx_Back l R p e below s args y 3 W9 Pre Post PostX)
    {g : JFrame} (hg : g.method = m) (hsize : g.locals.size = c.maxLocals) {b : Addr} {argsL rest : List Value} (hlen : ∀ sig, parseMethodDescriptor y.desc = some sig → argsL.length = sig.parameters.length)
    (hstack : g.stack = argsL.reverse ++ .ref b :: rest) (hW : 2 * g.monitorRoom + (rest.map fun v => v.category).sum ≤ W9) (hdg : decode c.code g.pc = .ok (.invokespecial index, 3))
    (hpre : ∀ vm₁, s.WarmedH vm₁ → Pre ⟨T.setVm vm₁, locs, cells, slots⟩ (Value.ref b :: argsL).toArray) :
    (∃ (v : Option Value) (vm₁ : Vm) (B : Pt), s.WarmedH vm₁ ∧ Stand p l e R s m args below meth c B.U B.locs B.cells B.slots ∧ Post ⟨T.setVm vm₁, locs, cells, slots⟩ (Value.ref b :: argsL).toArray v B ∧
      ∀ target, Steps p.tables e below (B.U.setTop { g with pc := g.pc + 3, stack := v.toList ++ rest }) target → Steps p.tables e below (T.setTop g) target) ∨
    (∃ (q : Addr) (vm₁ : Vm) (B : Pt), s.WarmedH vm₁ ∧ Stand p l e R s m args below meth c B.U B.locs B.cells B.slots ∧ PostX ⟨T.setVm vm₁, locs, cells, slots⟩ (Value.ref b :: argsL).toArray q B ∧
      Steps p.tables e below (T.setTop g) ((B.U.setTop { g with stack := rest }).pushFrame (.throwing q))) := by
  subst hg
  have hpl : e.platform.magicAccessors = ({} : Platform).magicAccessors := by rw [X.admits.platform]
  obtain ⟨mk, methM, cM, kP, vm₁, hnamed, hmethM, hcodeM, -, hlocalsM, -, hkP, -, hW₁, hstep₁⟩ := Steps.initColdArgs (e := e) X.here hexec X.warmed hpl hown hy1 hy hlink hinst hcode (f := g) rfl hlen hstack hdg
  have X₁ := X.noted hW₁
  rcases hK g.method meth c ⟨T.setVm vm₁, locs, cells, slots⟩ { g with stack := rest } (.invokespecial index) mk (Value.ref b :: argsL).toArray X₁ rfl hsize hdg hW (X₁.named hnamed) (hpre vm₁ X₁.warmed) with ⟨v, B, X', hpost, hsteps⟩ | ⟨q, B, X', hpost, hsteps⟩
  · exact Or.inl ⟨v, vm₁, B, X₁.warmed, X', hpost, fun target h => hstep₁ _ fun acts => by rw [doInvoke_state]; exact hsteps.trans h⟩
  · exact Or.inr ⟨q, vm₁, B, X₁.warmed, X', hpost, hstep₁ _ fun acts => by rw [doInvoke_state]; exact hsteps⟩
theorem gRunCG (K : gK X E M D n) {N : gMt} {d n' idx b : Nat} {v : gV} {as : List gV} {H : Heap} {locs : List Loc} {ls : Array Slot} (hc : gCtG E N d n' (v :: as) σ R) (hm : gMth N as.length) (hi : Cond.instanceMethod N.1 ∈ lw_tbl) (hin : N.1.name = "<init>" ∧ N.2.2.2 = none) (hv : gc E v = .ref b) (hl : Cond.methodLink M.1.cls idx N.1 ∈ lw_tbl) (hf : gFit D d n cells slots n') (hL : ls.size = M.2.2.1) (hst : gCats st ≤ 8) (hP : va_P (gD E) gCl (gW E σ) H) (hS : va_S (gA E) X.2.2.2.2.1.heap H locs) (dd : decode M.2.1 pc = .ok (.invokespecial idx, 3)) :
    gRunG X E H locs cells slots n' pc ls ((as.map (gc E)).reverse ++ .ref b :: st.map (gc E)) (st.map (gc E)) R := by
  have hN := K.2.2.2.2.1
  have hR := K.2.2.2.2.2.2.2.2.2
  have h40 : 8 + (N.2.2.1 + 11) + 64 * d ≤ 64 * D := by have h1 := hm.2.2.2.2; have h2 := hf.1; omega
  unfold gCtG at hc
  rw [← K.2.2.2.2.2.2.1, List.map_cons, hv] at hc
  have hW : 2 * (F0 X.2.2.2.2.2.1 pc ls ((as.map (gc E)).reverse ++ .ref b :: st.map (gc E))).monitorRoom + ((st.map (gc E)).map fun v => v.category).sum ≤ 8 := lv_room (Nat.le_trans (gCats_le st) hst)
  have hr : cells + n' ≤ X.2.2.2.1.cells ∧ slots + 6 * n' ≤ X.2.2.2.1.slots := by rw [hR]; exact hf.2
  intro T hT Z
  refine gx_run (y := N.1) (Pc := va_Pc (.ref b :: as.map (gc E)) (gI E σ)) hT (gx_callI Z K.1 (bytes := N.2.1) (maxL := N.2.2.1) K.2.2.2.1 hin.1 (gN_word hN hl rfl _) (gN_word hN hi rfl _) (by rw [← hin.2]; exact gN_word hN hm.1 rfl _) hm.2.2.1
    (vx_back (bytes := N.2.1) (maxL := N.2.2.1) (ret := N.2.2.2) hc gPc_blind rfl rfl (by rw [hR]; exact hf.1) (by rw [hR]; exact h40) (gPay K hm) (List.mem_singleton.mpr rfl) (fun a' U hW => word_at hW (Or.inl rfl) (gN_word hN hm.2.1 rfl #[])))
    rfl (hL.trans K.2.2.1.symm) (argsL := as.map (gc E)) (rest := st.map (gc E)) (fun sig h => by rw [List.length_map]; exact gLen hm sig h) rfl hW (by rw [K.2.1]; exact dd)
    (fun vm₁ hW₁ => ⟨hr.1, hr.2, gPc_at K hP hS (T.setVm vm₁) hT hW₁⟩))
theorem gK_more (K : gK X E M D n) (hm : gMore E E2) (hx : gXok E2) : gK X E2 M D n := by
  obtain ⟨a1, a2, a3, a4, ⟨⟨b1, b2, b3, b4, -⟩, b6, b7, b8⟩, a6, a7, a8⟩ := K
  obtain ⟨m1, m2, m3, m4, m5, -⟩ := hm
  have hB : gB E2 = gB E := by unfold gB; rw [m2]
  refine ⟨a1, a2, a3, a4, ⟨⟨by rw [m2, m3]; exact b1, by rw [m2, m3]; exact b2, ?_, by rw [m1]; exact b4, hx⟩, by rw [m2]; exact b6, by rw [hB]; exact b7, by rw [hB, m2]; exact b8⟩, a6, by rw [m1]; exact a7, a8⟩
  have e : gTys E2 = gTys E := by unfold gTys; rw [m5]
  rw [m4, m2, e]
  exact b3
theorem gBackG (K : gK X E M D n) {n' : Nat} {H : Heap} {locs : List Loc} {ls : Array Slot} {st0 : List Value} (hr : gRunG X E H locs cells slots n' pc ls st0 (st.map (gc E)) R) (hS : va_S (gA E) X.2.2.2.2.1.heap H locs) (hl : lv_has ls L.length (gAsc E 0 L)) (kk : ∀ E2 rv σ', gMore E E2 → R E2 rv σ' → gK X E2 M D n → gWX X E2 (cells + n') (slots + 6 * n') (pc + 3) L (rv.toList ++ st) σ') : gW_ X H locs cells slots (F0 X.2.2.2.2.2.1 pc ls st0) := by
  intro T hT Z
  rcases hr T hT Z with ⟨v, st₀, t, T', L9, h0, X', hL, e1, e2, ⟨E2, rv, σ', hm, hR, hv, hI, hF⟩, stp⟩ | ⟨q, st₀, t, T', L9, C, ce, h0, X', hL, e1, e2, hx, -⟩
  · cases hv
    obtain ⟨k1, k2, k3⟩ := vx_keep (A1 := gA E) h0 e1 hS (fun _ _ h => h) (fun _ h => h) hL hF
    have hA : gA E2 = gA E := by unfold gA; rw [gMore_B hm]
    obtain ⟨t2, a1, b1⟩ := kk E2 rv σ' hm hR (gK_more K hm hI.1.1.2.2.2.2) T'.heap (locs ++ L9) ls (by rw [e1]; exact hI.2) (by rw [hA]; exact k3) (by rw [gAsc_more hm]; exact hl) T' rfl X'
    refine ⟨t2, stp t2 ?_, b1⟩
    have e9 : List.map (gc E2) (rv.toList ++ st) = (rv.map (gc E2)).toList ++ st.map (gc E) := by rw [List.map_append, gMap_more hm st]; cases rv <;> rfl
    rw [e9] at a1
    exact a1
  · cases hx
theorem x_callY0G (K : gK X E M D n) {N : gMt} {d n' idx a : Nat} (hc : gCtG E N d n' (.inl (.ref a) :: []) σ R) (hm : gMth N 0) (hi : gMthI N) (hk : gRcv X E σ N.1.cls a) (hl : gLk M.1.cls idx N.1) (hf : gFit D d n cells slots n') (hL : L.length = M.2.2.1) (hst : gCats st ≤ 8) (dd : decode M.2.1 pc = .ok (.invokevirtual idx, 3)) (kk : ∀ E2 rv σ', gMore E E2 → R E2 rv σ' → gK X E2 M D n → gWX X E2 (cells + n') (slots + 6 * n') (pc + 3) L (rv.toList ++ st) σ') : gWX X E cells slots pc L (.inl (.ref a) :: st) σ :=
  fun H locs ls hP hS hlv => gBackG (L := L) (st := st) K (gRunYG K (as := []) hc hm hi hk hl hf (hlv.1.trans hL) hst hP hS dd) hS hlv kk
theorem x_callUx0G (K : gK X E M D n) {N : gMt} {d n' idx a : Nat} (hc : gCtG E N d n' (.inl (.ref a) :: []) σ R) (hm : gMth N 0) {x : MethodName} {C : String} (hi : gMthU E C x N) (hk : gRcv X E σ C a) (hl : Cond.methodLink M.1.cls idx x ∈ lw_tbl) (hf : gFit D d n cells slots n') (hL : L.length = M.2.2.1) (hst : gCats st ≤ 8) (dd : decode M.2.1 pc = .ok (.invokevirtual idx, 3)) (kk : ∀ E2 rv σ', gMore E E2 → R E2 rv σ' → gK X E2 M D n → gWX X E2 (cells + n') (slots + 6 * n') (pc + 3) L (rv.toList ++ st) σ') : gWX X E cells slots pc L (.inl (.ref a) :: st) σ :=
  fun H locs ls hP hS hlv => gBackG (L := L) (st := st) K (gRunUG K (v := .inl (.ref a)) (as := []) hc hm hi rfl hk hl hf (hlv.1.trans hL) hst hP hS dd) hS hlv kk
theorem x_callIx0G (K : gK X E M D n) {N : gMt} {d n' idx a : Nat} (hc : gCtG E N d n' (.inl (.ref a) :: []) σ R) (hm : gMth N 0) {C : String} (hi : gMthS M.1.cls N) (hk : gRcv X E σ C a) (hat : ∃ cC, ClassAt X.2.2.2.2.1 C cC) (hl : Cond.methodLink M.1.cls idx N.1 ∈ lw_tbl) (hf : gFit D d n cells slots n') (hL : L.length = M.2.2.1) (hst : gCats st ≤ 8) (dd : decode M.2.1 pc = .ok (.invokespecial idx, 3)) (kk : ∀ E2 rv σ', gMore E E2 → R E2 rv σ' → gK X E2 M D n → gWX X E2 (cells + n') (slots + 6 * n') (pc + 3) L (rv.toList ++ st) σ') : gWX X E cells slots pc L (.inl (.ref a) :: st) σ :=
  fun H locs ls hP hS hlv => gBackG (L := L) (st := st) K (gRunIG K (v := .inl (.ref a)) (C := C) (as := []) hc hm hi rfl hk hat hl hf (hlv.1.trans hL) hst hP hS dd) hS hlv kk
theorem x_callY0 (K : gK X E M D n) {N : gMt} {d n' idx a : Nat} {r : gV} (hc : gCt E N d n' (.inl (.ref a) :: []) σ (.inl (some r)) σ') (hm : gMth N 0) (hi : gMthI N) (hk : gRcv X E σ N.1.cls a) (hl : gLk M.1.cls idx N.1) (hf : gFit D d n cells slots n') (hL : L.length = M.2.2.1) (hst : gCats st ≤ 8) (dd : decode M.2.1 pc = .ok (.invokevirtual idx, 3)) (kk : gWX X E (cells + n') (slots + 6 * n') (pc + 3) L (r :: st) σ') : gWX X E cells slots pc L (.inl (.ref a) :: st) σ :=
  fun H locs ls hP hS hlv => gBack (L := L) (st := st) (gRunY K (as := []) hc hm hi hk hl hf (hlv.1.trans hL) hst hP hS dd) hS hlv kk
theorem x_callUx0 (K : gK X E M D n) {N : gMt} {d n' idx a : Nat} {r : gV} (hc : gCt E N d n' (.inl (.ref a) :: []) σ (.inl (some r)) σ') (hm : gMth N 0) {x : MethodName} {C : String} (hi : gMthU E C x N) (hk : gRcv X E σ C a) (hl : Cond.methodLink M.1.cls idx x ∈ lw_tbl) (hf : gFit D d n cells slots n') (hL : L.length = M.2.2.1) (hst : gCats st ≤ 8) (dd : decode M.2.1 pc = .ok (.invokevirtual idx, 3)) (kk : gWX X E (cells + n') (slots + 6 * n') (pc + 3) L (r :: st) σ') : gWX X E cells slots pc L (.inl (.ref a) :: st) σ :=
  fun H locs ls hP hS hlv => gBack (L := L) (st := st) (gRunU K (v := .inl (.ref a)) (as := []) hc hm hi rfl hk hl hf (hlv.1.trans hL) hst hP hS dd) hS hlv kk
theorem x_callIx0 (K : gK X E M D n) {N : gMt} {d n' idx a : Nat} {r : gV} (hc : gCt E N d n' (.inl (.ref a) :: []) σ (.inl (some r)) σ') (hm : gMth N 0) {C : String} (hi : gMthS M.1.cls N) (hk : gRcv X E σ C a) (hat : ∃ cC, ClassAt X.2.2.2.2.1 C cC) (hl : Cond.methodLink M.1.cls idx N.1 ∈ lw_tbl) (hf : gFit D d n cells slots n') (hL : L.length = M.2.2.1) (hst : gCats st ≤ 8) (dd : decode M.2.1 pc = .ok (.invokespecial idx, 3)) (kk : gWX X E (cells + n') (slots + 6 * n') (pc + 3) L (r :: st) σ') : gWX X E cells slots pc L (.inl (.ref a) :: st) σ :=
  fun H locs ls hP hS hlv => gBack (L := L) (st := st) (gRunI K (v := .inl (.ref a)) (C := C) (as := []) hc hm hi rfl hk hat hl hf (hlv.1.trans hL) hst hP hS dd) hS hlv kk
theorem x_callY0v (K : gK X E M D n) {N : gMt} {d n' idx a : Nat} (hc : gCt E N d n' (.inl (.ref a) :: []) σ (.inl none) σ') (hm : gMth N 0) (hi : gMthI N) (hk : gRcv X E σ N.1.cls a) (hl : gLk M.1.cls idx N.1) (hf : gFit D d n cells slots n') (hL : L.length = M.2.2.1) (hst : gCats st ≤ 8) (dd : decode M.2.1 pc = .ok (.invokevirtual idx, 3)) (kk : gWX X E (cells + n') (slots + 6 * n') (pc + 3) L st σ') : gWX X E cells slots pc L (.inl (.ref a) :: st) σ :=
  fun H locs ls hP hS hlv => gBack (L := L) (st := st) (gRunY K (as := []) hc hm hi hk hl hf (hlv.1.trans hL) hst hP hS dd) hS hlv kk
theorem x_callUx0v (K : gK X E M D n) {N : gMt} {d n' idx a : Nat} (hc : gCt E N d n' (.inl (.ref a) :: []) σ (.inl none) σ') (hm : gMth N 0) {x : MethodName} {C : String} (hi : gMthU E C x N) (hk : gRcv X E σ C a) (hl : Cond.methodLink M.1.cls idx x ∈ lw_tbl) (hf : gFit D d n cells slots n') (hL : L.length = M.2.2.1) (hst : gCats st ≤ 8) (dd : decode M.2.1 pc = .ok (.invokevirtual idx, 3)) (kk : gWX X E (cells + n') (slots + 6 * n') (pc + 3) L st σ') : gWX X E cells slots pc L (.inl (.ref a) :: st) σ :=
  fun H locs ls hP hS hlv => gBack (L := L) (st := st) (gRunU K (v := .inl (.ref a)) (as := []) hc hm hi rfl hk hl hf (hlv.1.trans hL) hst hP hS dd) hS hlv kk
theorem x_callIx0v (K : gK X E M D n) {N : gMt} {d n' idx a : Nat} (hc : gCt E N d n' (.inl (.ref a) :: []) σ (.inl none) σ') (hm : gMth N 0) {C : String} (hi : gMthS M.1.cls N) (hk : gRcv X E σ C a) (hat : ∃ cC, ClassAt X.2.2.2.2.1 C cC) (hl : Cond.methodLink M.1.cls idx N.1 ∈ lw_tbl) (hf : gFit D d n cells slots n') (hL : L.length = M.2.2.1) (hst : gCats st ≤ 8) (dd : decode M.2.1 pc = .ok (.invokespecial idx, 3)) (kk : gWX X E (cells + n') (slots + 6 * n') (pc + 3) L st σ') : gWX X E cells slots pc L (.inl (.ref a) :: st) σ :=
  fun H locs ls hP hS hlv => gBack (L := L) (st := st) (gRunI K (v := .inl (.ref a)) (C := C) (as := []) hc hm hi rfl hk hat hl hf (hlv.1.trans hL) hst hP hS dd) hS hlv kk
theorem x_callC0G (K : gK X E M D n) {N : gMt} {d n' idx a : Nat} (hc : gCtG E N d n' (.inl (.ref a) :: []) σ R) (hm : gMth N 0) (hi : Cond.instanceMethod N.1 ∈ lw_tbl) (hin : N.1.name = "<init>" ∧ N.2.2.2 = none) (hl : Cond.methodLink M.1.cls idx N.1 ∈ lw_tbl) (hf : gFit D d n cells slots n') (hL : L.length = M.2.2.1) (hst : gCats st ≤ 8) (dd : decode M.2.1 pc = .ok (.invokespecial idx, 3)) (kk : ∀ E2 rv σ', gMore E E2 → R E2 rv σ' → gK X E2 M D n → gWX X E2 (cells + n') (slots + 6 * n') (pc + 3) L (rv.toList ++ st) σ') : gWX X E cells slots pc L (.inl (.ref a) :: st) σ :=
  fun H locs ls hP hS hlv => gBackG (L := L) (st := st) K (gRunCG K (v := .inl (.ref a)) (as := []) hc hm hi hin rfl hl hf (hlv.1.trans hL) hst hP hS dd) hS hlv kk
theorem x_callY1G (K : gK X E M D n) {N : gMt} {d n' idx a : Nat} {v1 : gV} (hc : gCtG E N d n' (.inl (.ref a) :: [v1]) σ R) (hm : gMth N 1) (hi : gMthI N) (hk : gRcv X E σ N.1.cls a) (hl : gLk M.1.cls idx N.1) (hf : gFit D d n cells slots n') (hL : L.length = M.2.2.1) (hst : gCats st ≤ 8) (dd : decode M.2.1 pc = .ok (.invokevirtual idx, 3)) (kk : ∀ E2 rv σ', gMore E E2 → R E2 rv σ' → gK X E2 M D n → gWX X E2 (cells + n') (slots + 6 * n') (pc + 3) L (rv.toList ++ st) σ') : gWX X E cells slots pc L (v1 :: .inl (.ref a) :: st) σ :=
  fun H locs ls hP hS hlv => gBackG (L := L) (st := st) K (gRunYG K (as := [v1]) hc hm hi hk hl hf (hlv.1.trans hL) hst hP hS dd) hS hlv kk
theorem x_callUx1G (K : gK X E M D n) {N : gMt} {d n' idx a : Nat} {v1 : gV} (hc : gCtG E N d n' (.inl (.ref a) :: [v1]) σ R) (hm : gMth N 1) {x : MethodName} {C : String} (hi : gMthU E C x N) (hk : gRcv X E σ C a) (hl : Cond.methodLink M.1.cls idx x ∈ lw_tbl) (hf : gFit D d n cells slots n') (hL : L.length = M.2.2.1) (hst : gCats st ≤ 8) (dd : decode M.2.1 pc = .ok (.invokevirtual idx, 3)) (kk : ∀ E2 rv σ', gMore E E2 → R E2 rv σ' → gK X E2 M D n → gWX X E2 (cells + n') (slots + 6 * n') (pc + 3) L (rv.toList ++ st) σ') : gWX X E cells slots pc L (v1 :: .inl (.ref a) :: st) σ :=
  fun H locs ls hP hS hlv => gBackG (L := L) (st := st) K (gRunUG K (v := .inl (.ref a)) (as := [v1]) hc hm hi rfl hk hl hf (hlv.1.trans hL) hst hP hS dd) hS hlv kk
theorem x_callIx1G (K : gK X E M D n) {N : gMt} {d n' idx a : Nat} {v1 : gV} (hc : gCtG E N d n' (.inl (.ref a) :: [v1]) σ R) (hm : gMth N 1) {C : String} (hi : gMthS M.1.cls N) (hk : gRcv X E σ C a) (hat : ∃ cC, ClassAt X.2.2.2.2.1 C cC) (hl : Cond.methodLink M.1.cls idx N.1 ∈ lw_tbl) (hf : gFit D d n cells slots n') (hL : L.length = M.2.2.1) (hst : gCats st ≤ 8) (dd : decode M.2.1 pc = .ok (.invokespecial idx, 3)) (kk : ∀ E2 rv σ', gMore E E2 → R E2 rv σ' → gK X E2 M D n → gWX X E2 (cells + n') (slots + 6 * n') (pc + 3) L (rv.toList ++ st) σ') : gWX X E cells slots pc L (v1 :: .inl (.ref a) :: st) σ :=
  fun H locs ls hP hS hlv => gBackG (L := L) (st := st) K (gRunIG K (v := .inl (.ref a)) (C := C) (as := [v1]) hc hm hi rfl hk hat hl hf (hlv.1.trans hL) hst hP hS dd) hS hlv kk
theorem x_callY1 (K : gK X E M D n) {N : gMt} {d n' idx a : Nat} {v1 : gV} {r : gV} (hc : gCt E N d n' (.inl (.ref a) :: [v1]) σ (.inl (some r)) σ') (hm : gMth N 1) (hi : gMthI N) (hk : gRcv X E σ N.1.cls a) (hl : gLk M.1.cls idx N.1) (hf : gFit D d n cells slots n') (hL : L.length = M.2.2.1) (hst : gCats st ≤ 8) (dd : decode M.2.1 pc = .ok (.invokevirtual idx, 3)) (kk : gWX X E (cells + n') (slots + 6 * n') (pc + 3) L (r :: st) σ') : gWX X E cells slots pc L (v1 :: .inl (.ref a) :: st) σ :=
  fun H locs ls hP hS hlv => gBack (L := L) (st := st) (gRunY K (as := [v1]) hc hm hi hk hl hf (hlv.1.trans hL) hst hP hS dd) hS hlv kk
theorem x_callUx1 (K : gK X E M D n) {N : gMt} {d n' idx a : Nat} {v1 : gV} {r : gV} (hc : gCt E N d n' (.inl (.ref a) :: [v1]) σ (.inl (some r)) σ') (hm : gMth N 1) {x : MethodName} {C : String} (hi : gMthU E C x N) (hk : gRcv X E σ C a) (hl : Cond.methodLink M.1.cls idx x ∈ lw_tbl) (hf : gFit D d n cells slots n') (hL : L.length = M.2.2.1) (hst : gCats st ≤ 8) (dd : decode M.2.1 pc = .ok (.invokevirtual idx, 3)) (kk : gWX X E (cells + n') (slots + 6 * n') (pc + 3) L (r :: st) σ') : gWX X E cells slots pc L (v1 :: .inl (.ref a) :: st) σ :=
  fun H locs ls hP hS hlv => gBack (L := L) (st := st) (gRunU K (v := .inl (.ref a)) (as := [v1]) hc hm hi rfl hk hl hf (hlv.1.trans hL) hst hP hS dd) hS hlv kk
theorem x_callIx1 (K : gK X E M D n) {N : gMt} {d n' idx a : Nat} {v1 : gV} {r : gV} (hc : gCt E N d n' (.inl (.ref a) :: [v1]) σ (.inl (some r)) σ') (hm : gMth N 1) {C : String} (hi : gMthS M.1.cls N) (hk : gRcv X E σ C a) (hat : ∃ cC, ClassAt X.2.2.2.2.1 C cC) (hl : Cond.methodLink M.1.cls idx N.1 ∈ lw_tbl) (hf : gFit D d n cells slots n') (hL : L.length = M.2.2.1) (hst : gCats st ≤ 8) (dd : decode M.2.1 pc = .ok (.invokespecial idx, 3)) (kk : gWX X E (cells + n') (slots + 6 * n') (pc + 3) L (r :: st) σ') : gWX X E cells slots pc L (v1 :: .inl (.ref a) :: st) σ :=
  fun H locs ls hP hS hlv => gBack (L := L) (st := st) (gRunI K (v := .inl (.ref a)) (C := C) (as := [v1]) hc hm hi rfl hk hat hl hf (hlv.1.trans hL) hst hP hS dd) hS hlv kk
theorem x_callY1v (K : gK X E M D n) {N : gMt} {d n' idx a : Nat} {v1 : gV} (hc : gCt E N d n' (.inl (.ref a) :: [v1]) σ (.inl none) σ') (hm : gMth N 1) (hi : gMthI N) (hk : gRcv X E σ N.1.cls a) (hl : gLk M.1.cls idx N.1) (hf : gFit D d n cells slots n') (hL : L.length = M.2.2.1) (hst : gCats st ≤ 8) (dd : decode M.2.1 pc = .ok (.invokevirtual idx, 3)) (kk : gWX X E (cells + n') (slots + 6 * n') (pc + 3) L st σ') : gWX X E cells slots pc L (v1 :: .inl (.ref a) :: st) σ :=
  fun H locs ls hP hS hlv => gBack (L := L) (st := st) (gRunY K (as := [v1]) hc hm hi hk hl hf (hlv.1.trans hL) hst hP hS dd) hS hlv kk
theorem x_callUx1v (K : gK X E M D n) {N : gMt} {d n' idx a : Nat} {v1 : gV} (hc : gCt E N d n' (.inl (.ref a) :: [v1]) σ (.inl none) σ') (hm : gMth N 1) {x : MethodName} {C : String} (hi : gMthU E C x N) (hk : gRcv X E σ C a) (hl : Cond.methodLink M.1.cls idx x ∈ lw_tbl) (hf : gFit D d n cells slots n') (hL : L.length = M.2.2.1) (hst : gCats st ≤ 8) (dd : decode M.2.1 pc = .ok (.invokevirtual idx, 3)) (kk : gWX X E (cells + n') (slots + 6 * n') (pc + 3) L st σ') : gWX X E cells slots pc L (v1 :: .inl (.ref a) :: st) σ :=
  fun H locs ls hP hS hlv => gBack (L := L) (st := st) (gRunU K (v := .inl (.ref a)) (as := [v1]) hc hm hi rfl hk hl hf (hlv.1.trans hL) hst hP hS dd) hS hlv kk
theorem x_callIx1v (K : gK X E M D n) {N : gMt} {d n' idx a : Nat} {v1 : gV} (hc : gCt E N d n' (.inl (.ref a) :: [v1]) σ (.inl none) σ') (hm : gMth N 1) {C : String} (hi : gMthS M.1.cls N) (hk : gRcv X E σ C a) (hat : ∃ cC, ClassAt X.2.2.2.2.1 C cC) (hl : Cond.methodLink M.1.cls idx N.1 ∈ lw_tbl) (hf : gFit D d n cells slots n') (hL : L.length = M.2.2.1) (hst : gCats st ≤ 8) (dd : decode M.2.1 pc = .ok (.invokespecial idx, 3)) (kk : gWX X E (cells + n') (slots + 6 * n') (pc + 3) L st σ') : gWX X E cells slots pc L (v1 :: .inl (.ref a) :: st) σ :=
  fun H locs ls hP hS hlv => gBack (L := L) (st := st) (gRunI K (v := .inl (.ref a)) (C := C) (as := [v1]) hc hm hi rfl hk hat hl hf (hlv.1.trans hL) hst hP hS dd) hS hlv kk
theorem x_callS1G (K : gK X E M D n) {N : gMt} {d n' idx : Nat} {v1 : gV} (hc : gCtG E N d n' [v1] σ R) (hm : gMth N 1) (hi : Cond.static N.1 ∈ lw_tbl) (hl : gLk M.1.cls idx N.1) (hf : gFit D d n cells slots n') (hL : L.length = M.2.2.1) (hst : gCats st ≤ 8) (dd : decode M.2.1 pc = .ok (.invokestatic idx, 3)) (kk : ∀ E2 rv σ', gMore E E2 → R E2 rv σ' → gK X E2 M D n → gWX X E2 (cells + n') (slots + 6 * n') (pc + 3) L (rv.toList ++ st) σ') : gWX X E cells slots pc L (v1 :: st) σ :=
  fun H locs ls hP hS hlv => gBackG (L := L) (st := st) K (gRunSG K (as := [v1]) hc hm hi hl hf (hlv.1.trans hL) hst hP hS dd) hS hlv kk
theorem x_callC1G (K : gK X E M D n) {N : gMt} {d n' idx a : Nat} {v1 : gV} (hc : gCtG E N d n' (.inl (.ref a) :: [v1]) σ R) (hm : gMth N 1) (hi : Cond.instanceMethod N.1 ∈ lw_tbl) (hin : N.1.name = "<init>" ∧ N.2.2.2 = none) (hl : Cond.methodLink M.1.cls idx N.1 ∈ lw_tbl) (hf : gFit D d n cells slots n') (hL : L.length = M.2.2.1) (hst : gCats st ≤ 8) (dd : decode M.2.1 pc = .ok (.invokespecial idx, 3)) (kk : ∀ E2 rv σ', gMore E E2 → R E2 rv σ' → gK X E2 M D n → gWX X E2 (cells + n') (slots + 6 * n') (pc + 3) L (rv.toList ++ st) σ') : gWX X E cells slots pc L (v1 :: .inl (.ref a) :: st) σ :=
  fun H locs ls hP hS hlv => gBackG (L := L) (st := st) K (gRunCG K (v := .inl (.ref a)) (as := [v1]) hc hm hi hin rfl hl hf (hlv.1.trans hL) hst hP hS dd) hS hlv kk
theorem x_callY2G (K : gK X E M D n) {N : gMt} {d n' idx a : Nat} {v1 v2 : gV} (hc : gCtG E N d n' (.inl (.ref a) :: [v1, v2]) σ R) (hm : gMth N 2) (hi : gMthI N) (hk : gRcv X E σ N.1.cls a) (hl : gLk M.1.cls idx N.1) (hf : gFit D d n cells slots n') (hL : L.length = M.2.2.1) (hst : gCats st ≤ 8) (dd : decode M.2.1 pc = .ok (.invokevirtual idx, 3)) (kk : ∀ E2 rv σ', gMore E E2 → R E2 rv σ' → gK X E2 M D n → gWX X E2 (cells + n') (slots + 6 * n') (pc + 3) L (rv.toList ++ st) σ') : gWX X E cells slots pc L (v2 :: v1 :: .inl (.ref a) :: st) σ :=
  fun H locs ls hP hS hlv => gBackG (L := L) (st := st) K (gRunYG K (as := [v1, v2]) hc hm hi hk hl hf (hlv.1.trans hL) hst hP hS dd) hS hlv kk
theorem x_callUx2G (K : gK X E M D n) {N : gMt} {d n' idx a : Nat} {v1 v2 : gV} (hc : gCtG E N d n' (.inl (.ref a) :: [v1, v2]) σ R) (hm : gMth N 2) {x : MethodName} {C : String} (hi : gMthU E C x N) (hk : gRcv X E σ C a) (hl : Cond.methodLink M.1.cls idx x ∈ lw_tbl) (hf : gFit D d n cells slots n') (hL : L.length = M.2.2.1) (hst : gCats st ≤ 8) (dd : decode M.2.1 pc = .ok (.invokevirtual idx, 3)) (kk : ∀ E2 rv σ', gMore E E2 → R E2 rv σ' → gK X E2 M D n → gWX X E2 (cells + n') (slots + 6 * n') (pc + 3) L (rv.toList ++ st) σ') : gWX X E cells slots pc L (v2 :: v1 :: .inl (.ref a) :: st) σ :=
  fun H locs ls hP hS hlv => gBackG (L := L) (st := st) K (gRunUG K (v := .inl (.ref a)) (as := [v1, v2]) hc hm hi rfl hk hl hf (hlv.1.trans hL) hst hP hS dd) hS hlv kk
theorem x_callIx2G (K : gK X E M D n) {N : gMt} {d n' idx a : Nat} {v1 v2 : gV} (hc : gCtG E N d n' (.inl (.ref a) :: [v1, v2]) σ R) (hm : gMth N 2) {C : String} (hi : gMthS M.1.cls N) (hk : gRcv X E σ C a) (hat : ∃ cC, ClassAt X.2.2.2.2.1 C cC) (hl : Cond.methodLink M.1.cls idx N.1 ∈ lw_tbl) (hf : gFit D d n cells slots n') (hL : L.length = M.2.2.1) (hst : gCats st ≤ 8) (dd : decode M.2.1 pc = .ok (.invokespecial idx, 3)) (kk : ∀ E2 rv σ', gMore E E2 → R E2 rv σ' → gK X E2 M D n → gWX X E2 (cells + n') (slots + 6 * n') (pc + 3) L (rv.toList ++ st) σ') : gWX X E cells slots pc L (v2 :: v1 :: .inl (.ref a) :: st) σ :=
  fun H locs ls hP hS hlv => gBackG (L := L) (st := st) K (gRunIG K (v := .inl (.ref a)) (C := C) (as := [v1, v2]) hc hm hi rfl hk hat hl hf (hlv.1.trans hL) hst hP hS dd) hS hlv kk
theorem x_callY2 (K : gK X E M D n) {N : gMt} {d n' idx a : Nat} {v1 v2 : gV} {r : gV} (hc : gCt E N d n' (.inl (.ref a) :: [v1, v2]) σ (.inl (some r)) σ') (hm : gMth N 2) (hi : gMthI N) (hk : gRcv X E σ N.1.cls a) (hl : gLk M.1.cls idx N.1) (hf : gFit D d n cells slots n') (hL : L.length = M.2.2.1) (hst : gCats st ≤ 8) (dd : decode M.2.1 pc = .ok (.invokevirtual idx, 3)) (kk : gWX X E (cells + n') (slots + 6 * n') (pc + 3) L (r :: st) σ') : gWX X E cells slots pc L (v2 :: v1 :: .inl (.ref a) :: st) σ :=
  fun H locs ls hP hS hlv => gBack (L := L) (st := st) (gRunY K (as := [v1, v2]) hc hm hi hk hl hf (hlv.1.trans hL) hst hP hS dd) hS hlv kk
theorem x_callUx2 (K : gK X E M D n) {N : gMt} {d n' idx a : Nat} {v1 v2 : gV} {r : gV} (hc : gCt E N d n' (.inl (.ref a) :: [v1, v2]) σ (.inl (some r)) σ') (hm : gMth N 2) {x : MethodName} {C : String} (hi : gMthU E C x N) (hk : gRcv X E σ C a) (hl : Cond.methodLink M.1.cls idx x ∈ lw_tbl) (hf : gFit D d n cells slots n') (hL : L.length = M.2.2.1) (hst : gCats st ≤ 8) (dd : decode M.2.1 pc = .ok (.invokevirtual idx, 3)) (kk : gWX X E (cells + n') (slots + 6 * n') (pc + 3) L (r :: st) σ') : gWX X E cells slots pc L (v2 :: v1 :: .inl (.ref a) :: st) σ :=
  fun H locs ls hP hS hlv => gBack (L := L) (st := st) (gRunU K (v := .inl (.ref a)) (as := [v1, v2]) hc hm hi rfl hk hl hf (hlv.1.trans hL) hst hP hS dd) hS hlv kk
theorem x_callIx2 (K : gK X E M D n) {N : gMt} {d n' idx a : Nat} {v1 v2 : gV} {r : gV} (hc : gCt E N d n' (.inl (.ref a) :: [v1, v2]) σ (.inl (some r)) σ') (hm : gMth N 2) {C : String} (hi : gMthS M.1.cls N) (hk : gRcv X E σ C a) (hat : ∃ cC, ClassAt X.2.2.2.2.1 C cC) (hl : Cond.methodLink M.1.cls idx N.1 ∈ lw_tbl) (hf : gFit D d n cells slots n') (hL : L.length = M.2.2.1) (hst : gCats st ≤ 8) (dd : decode M.2.1 pc = .ok (.invokespecial idx, 3)) (kk : gWX X E (cells + n') (slots + 6 * n') (pc + 3) L (r :: st) σ') : gWX X E cells slots pc L (v2 :: v1 :: .inl (.ref a) :: st) σ :=
  fun H locs ls hP hS hlv => gBack (L := L) (st := st) (gRunI K (v := .inl (.ref a)) (C := C) (as := [v1, v2]) hc hm hi rfl hk hat hl hf (hlv.1.trans hL) hst hP hS dd) hS hlv kk
theorem x_callY2v (K : gK X E M D n) {N : gMt} {d n' idx a : Nat} {v1 v2 : gV} (hc : gCt E N d n' (.inl (.ref a) :: [v1, v2]) σ (.inl none) σ') (hm : gMth N 2) (hi : gMthI N) (hk : gRcv X E σ N.1.cls a) (hl : gLk M.1.cls idx N.1) (hf : gFit D d n cells slots n') (hL : L.length = M.2.2.1) (hst : gCats st ≤ 8) (dd : decode M.2.1 pc = .ok (.invokevirtual idx, 3)) (kk : gWX X E (cells + n') (slots + 6 * n') (pc + 3) L st σ') : gWX X E cells slots pc L (v2 :: v1 :: .inl (.ref a) :: st) σ :=
  fun H locs ls hP hS hlv => gBack (L := L) (st := st) (gRunY K (as := [v1, v2]) hc hm hi hk hl hf (hlv.1.trans hL) hst hP hS dd) hS hlv kk
theorem x_callUx2v (K : gK X E M D n) {N : gMt} {d n' idx a : Nat} {v1 v2 : gV} (hc : gCt E N d n' (.inl (.ref a) :: [v1, v2]) σ (.inl none) σ') (hm : gMth N 2) {x : MethodName} {C : String} (hi : gMthU E C x N) (hk : gRcv X E σ C a) (hl : Cond.methodLink M.1.cls idx x ∈ lw_tbl) (hf : gFit D d n cells slots n') (hL : L.length = M.2.2.1) (hst : gCats st ≤ 8) (dd : decode M.2.1 pc = .ok (.invokevirtual idx, 3)) (kk : gWX X E (cells + n') (slots + 6 * n') (pc + 3) L st σ') : gWX X E cells slots pc L (v2 :: v1 :: .inl (.ref a) :: st) σ :=
  fun H locs ls hP hS hlv => gBack (L := L) (st := st) (gRunU K (v := .inl (.ref a)) (as := [v1, v2]) hc hm hi rfl hk hl hf (hlv.1.trans hL) hst hP hS dd) hS hlv kk
theorem x_callIx2v (K : gK X E M D n) {N : gMt} {d n' idx a : Nat} {v1 v2 : gV} (hc : gCt E N d n' (.inl (.ref a) :: [v1, v2]) σ (.inl none) σ') (hm : gMth N 2) {C : String} (hi : gMthS M.1.cls N) (hk : gRcv X E σ C a) (hat : ∃ cC, ClassAt X.2.2.2.2.1 C cC) (hl : Cond.methodLink M.1.cls idx N.1 ∈ lw_tbl) (hf : gFit D d n cells slots n') (hL : L.length = M.2.2.1) (hst : gCats st ≤ 8) (dd : decode M.2.1 pc = .ok (.invokespecial idx, 3)) (kk : gWX X E (cells + n') (slots + 6 * n') (pc + 3) L st σ') : gWX X E cells slots pc L (v2 :: v1 :: .inl (.ref a) :: st) σ :=
  fun H locs ls hP hS hlv => gBack (L := L) (st := st) (gRunI K (v := .inl (.ref a)) (C := C) (as := [v1, v2]) hc hm hi rfl hk hat hl hf (hlv.1.trans hL) hst hP hS dd) hS hlv kk
theorem x_callS2G (K : gK X E M D n) {N : gMt} {d n' idx : Nat} {v1 v2 : gV} (hc : gCtG E N d n' [v1, v2] σ R) (hm : gMth N 2) (hi : Cond.static N.1 ∈ lw_tbl) (hl : gLk M.1.cls idx N.1) (hf : gFit D d n cells slots n') (hL : L.length = M.2.2.1) (hst : gCats st ≤ 8) (dd : decode M.2.1 pc = .ok (.invokestatic idx, 3)) (kk : ∀ E2 rv σ', gMore E E2 → R E2 rv σ' → gK X E2 M D n → gWX X E2 (cells + n') (slots + 6 * n') (pc + 3) L (rv.toList ++ st) σ') : gWX X E cells slots pc L (v2 :: v1 :: st) σ :=
  fun H locs ls hP hS hlv => gBackG (L := L) (st := st) K (gRunSG K (as := [v1, v2]) hc hm hi hl hf (hlv.1.trans hL) hst hP hS dd) hS hlv kk
theorem x_callC2G (K : gK X E M D n) {N : gMt} {d n' idx a : Nat} {v1 v2 : gV} (hc : gCtG E N d n' (.inl (.ref a) :: [v1, v2]) σ R) (hm : gMth N 2) (hi : Cond.instanceMethod N.1 ∈ lw_tbl) (hin : N.1.name = "<init>" ∧ N.2.2.2 = none) (hl : Cond.methodLink M.1.cls idx N.1 ∈ lw_tbl) (hf : gFit D d n cells slots n') (hL : L.length = M.2.2.1) (hst : gCats st ≤ 8) (dd : decode M.2.1 pc = .ok (.invokespecial idx, 3)) (kk : ∀ E2 rv σ', gMore E E2 → R E2 rv σ' → gK X E2 M D n → gWX X E2 (cells + n') (slots + 6 * n') (pc + 3) L (rv.toList ++ st) σ') : gWX X E cells slots pc L (v2 :: v1 :: .inl (.ref a) :: st) σ :=
  fun H locs ls hP hS hlv => gBackG (L := L) (st := st) K (gRunCG K (v := .inl (.ref a)) (as := [v1, v2]) hc hm hi hin rfl hl hf (hlv.1.trans hL) hst hP hS dd) hS hlv kk
theorem x_callY3G (K : gK X E M D n) {N : gMt} {d n' idx a : Nat} {v1 v2 v3 : gV} (hc : gCtG E N d n' (.inl (.ref a) :: [v1, v2, v3]) σ R) (hm : gMth N 3) (hi : gMthI N) (hk : gRcv X E σ N.1.cls a) (hl : gLk M.1.cls idx N.1) (hf : gFit D d n cells slots n') (hL : L.length = M.2.2.1) (hst : gCats st ≤ 8) (dd : decode M.2.1 pc = .ok (.invokevirtual idx, 3)) (kk : ∀ E2 rv σ', gMore E E2 → R E2 rv σ' → gK X E2 M D n → gWX X E2 (cells + n') (slots + 6 * n') (pc + 3) L (rv.toList ++ st) σ') : gWX X E cells slots pc L (v3 :: v2 :: v1 :: .inl (.ref a) :: st) σ :=
  fun H locs ls hP hS hlv => gBackG (L := L) (st := st) K (gRunYG K (as := [v1, v2, v3]) hc hm hi hk hl hf (hlv.1.trans hL) hst hP hS dd) hS hlv kk
theorem x_callUx3G (K : gK X E M D n) {N : gMt} {d n' idx a : Nat} {v1 v2 v3 : gV} (hc : gCtG E N d n' (.inl (.ref a) :: [v1, v2, v3]) σ R) (hm : gMth N 3) {x : MethodName} {C : String} (hi : gMthU E C x N) (hk : gRcv X E σ C a) (hl : Cond.methodLink M.1.cls idx x ∈ lw_tbl) (hf : gFit D d n cells slots n') (hL : L.length = M.2.2.1) (hst : gCats st ≤ 8) (dd : decode M.2.1 pc = .ok (.invokevirtual idx, 3)) (kk : ∀ E2 rv σ', gMore E E2 → R E2 rv σ' → gK X E2 M D n → gWX X E2 (cells + n') (slots + 6 * n') (pc + 3) L (rv.toList ++ st) σ') : gWX X E cells slots pc L (v3 :: v2 :: v1 :: .inl (.ref a) :: st) σ :=
  fun H locs ls hP hS hlv => gBackG (L := L) (st := st) K (gRunUG K (v := .inl (.ref a)) (as := [v1, v2, v3]) hc hm hi rfl hk hl hf (hlv.1.trans hL) hst hP hS dd) hS hlv kk
theorem x_callIx3G (K : gK X E M D n) {N : gMt} {d n' idx a : Nat} {v1 v2 v3 : gV} (hc : gCtG E N d n' (.inl (.ref a) :: [v1, v2, v3]) σ R) (hm : gMth N 3) {C : String} (hi : gMthS M.1.cls N) (hk : gRcv X E σ C a) (hat : ∃ cC, ClassAt X.2.2.2.2.1 C cC) (hl : Cond.methodLink M.1.cls idx N.1 ∈ lw_tbl) (hf : gFit D d n cells slots n') (hL : L.length = M.2.2.1) (hst : gCats st ≤ 8) (dd : decode M.2.1 pc = .ok (.invokespecial idx, 3)) (kk : ∀ E2 rv σ', gMore E E2 → R E2 rv σ' → gK X E2 M D n → gWX X E2 (cells + n') (slots + 6 * n') (pc + 3) L (rv.toList ++ st) σ') : gWX X E cells slots pc L (v3 :: v2 :: v1 :: .inl (.ref a) :: st) σ :=
  fun H locs ls hP hS hlv => gBackG (L := L) (st := st) K (gRunIG K (v := .inl (.ref a)) (C := C) (as := [v1, v2, v3]) hc hm hi rfl hk hat hl hf (hlv.1.trans hL) hst hP hS dd) hS hlv kk
theorem x_callY3 (K : gK X E M D n) {N : gMt} {d n' idx a : Nat} {v1 v2 v3 : gV} {r : gV} (hc : gCt E N d n' (.inl (.ref a) :: [v1, v2, v3]) σ (.inl (some r)) σ') (hm : gMth N 3) (hi : gMthI N) (hk : gRcv X E σ N.1.cls a) (hl : gLk M.1.cls idx N.1) (hf : gFit D d n cells slots n') (hL : L.length = M.2.2.1) (hst : gCats st ≤ 8) (dd : decode M.2.1 pc = .ok (.invokevirtual idx, 3)) (kk : gWX X E (cells + n') (slots + 6 * n') (pc + 3) L (r :: st) σ') : gWX X E cells slots pc L (v3 :: v2 :: v1 :: .inl (.ref a) :: st) σ :=
  fun H locs ls hP hS hlv => gBack (L := L) (st := st) (gRunY K (as := [v1, v2, v3]) hc hm hi hk hl hf (hlv.1.trans hL) hst hP hS dd) hS hlv kk
theorem x_callUx3 (K : gK X E M D n) {N : gMt} {d n' idx a : Nat} {v1 v2 v3 : gV} {r : gV} (hc : gCt E N d n' (.inl (.ref a) :: [v1, v2, v3]) σ (.inl (some r)) σ') (hm : gMth N 3) {x : MethodName} {C : String} (hi : gMthU E C x N) (hk : gRcv X E σ C a) (hl : Cond.methodLink M.1.cls idx x ∈ lw_tbl) (hf : gFit D d n cells slots n') (hL : L.length = M.2.2.1) (hst : gCats st ≤ 8) (dd : decode M.2.1 pc = .ok (.invokevirtual idx, 3)) (kk : gWX X E (cells + n') (slots + 6 * n') (pc + 3) L (r :: st) σ') : gWX X E cells slots pc L (v3 :: v2 :: v1 :: .inl (.ref a) :: st) σ :=
  fun H locs ls hP hS hlv => gBack (L := L) (st := st) (gRunU K (v := .inl (.ref a)) (as := [v1, v2, v3]) hc hm hi rfl hk hl hf (hlv.1.trans hL) hst hP hS dd) hS hlv kk
theorem x_callIx3 (K : gK X E M D n) {N : gMt} {d n' idx a : Nat} {v1 v2 v3 : gV} {r : gV} (hc : gCt E N d n' (.inl (.ref a) :: [v1, v2, v3]) σ (.inl (some r)) σ') (hm : gMth N 3) {C : String} (hi : gMthS M.1.cls N) (hk : gRcv X E σ C a) (hat : ∃ cC, ClassAt X.2.2.2.2.1 C cC) (hl : Cond.methodLink M.1.cls idx N.1 ∈ lw_tbl) (hf : gFit D d n cells slots n') (hL : L.length = M.2.2.1) (hst : gCats st ≤ 8) (dd : decode M.2.1 pc = .ok (.invokespecial idx, 3)) (kk : gWX X E (cells + n') (slots + 6 * n') (pc + 3) L (r :: st) σ') : gWX X E cells slots pc L (v3 :: v2 :: v1 :: .inl (.ref a) :: st) σ :=
  fun H locs ls hP hS hlv => gBack (L := L) (st := st) (gRunI K (v := .inl (.ref a)) (C := C) (as := [v1, v2, v3]) hc hm hi rfl hk hat hl hf (hlv.1.trans hL) hst hP hS dd) hS hlv kk
theorem x_callY3v (K : gK X E M D n) {N : gMt} {d n' idx a : Nat} {v1 v2 v3 : gV} (hc : gCt E N d n' (.inl (.ref a) :: [v1, v2, v3]) σ (.inl none) σ') (hm : gMth N 3) (hi : gMthI N) (hk : gRcv X E σ N.1.cls a) (hl : gLk M.1.cls idx N.1) (hf : gFit D d n cells slots n') (hL : L.length = M.2.2.1) (hst : gCats st ≤ 8) (dd : decode M.2.1 pc = .ok (.invokevirtual idx, 3)) (kk : gWX X E (cells + n') (slots + 6 * n') (pc + 3) L st σ') : gWX X E cells slots pc L (v3 :: v2 :: v1 :: .inl (.ref a) :: st) σ :=
  fun H locs ls hP hS hlv => gBack (L := L) (st := st) (gRunY K (as := [v1, v2, v3]) hc hm hi hk hl hf (hlv.1.trans hL) hst hP hS dd) hS hlv kk
theorem x_callUx3v (K : gK X E M D n) {N : gMt} {d n' idx a : Nat} {v1 v2 v3 : gV} (hc : gCt E N d n' (.inl (.ref a) :: [v1, v2, v3]) σ (.inl none) σ') (hm : gMth N 3) {x : MethodName} {C : String} (hi : gMthU E C x N) (hk : gRcv X E σ C a) (hl : Cond.methodLink M.1.cls idx x ∈ lw_tbl) (hf : gFit D d n cells slots n') (hL : L.length = M.2.2.1) (hst : gCats st ≤ 8) (dd : decode M.2.1 pc = .ok (.invokevirtual idx, 3)) (kk : gWX X E (cells + n') (slots + 6 * n') (pc + 3) L st σ') : gWX X E cells slots pc L (v3 :: v2 :: v1 :: .inl (.ref a) :: st) σ :=
  fun H locs ls hP hS hlv => gBack (L := L) (st := st) (gRunU K (v := .inl (.ref a)) (as := [v1, v2, v3]) hc hm hi rfl hk hl hf (hlv.1.trans hL) hst hP hS dd) hS hlv kk
theorem x_callIx3v (K : gK X E M D n) {N : gMt} {d n' idx a : Nat} {v1 v2 v3 : gV} (hc : gCt E N d n' (.inl (.ref a) :: [v1, v2, v3]) σ (.inl none) σ') (hm : gMth N 3) {C : String} (hi : gMthS M.1.cls N) (hk : gRcv X E σ C a) (hat : ∃ cC, ClassAt X.2.2.2.2.1 C cC) (hl : Cond.methodLink M.1.cls idx N.1 ∈ lw_tbl) (hf : gFit D d n cells slots n') (hL : L.length = M.2.2.1) (hst : gCats st ≤ 8) (dd : decode M.2.1 pc = .ok (.invokespecial idx, 3)) (kk : gWX X E (cells + n') (slots + 6 * n') (pc + 3) L st σ') : gWX X E cells slots pc L (v3 :: v2 :: v1 :: .inl (.ref a) :: st) σ :=
  fun H locs ls hP hS hlv => gBack (L := L) (st := st) (gRunI K (v := .inl (.ref a)) (C := C) (as := [v1, v2, v3]) hc hm hi rfl hk hat hl hf (hlv.1.trans hL) hst hP hS dd) hS hlv kk
theorem x_callS3G (K : gK X E M D n) {N : gMt} {d n' idx : Nat} {v1 v2 v3 : gV} (hc : gCtG E N d n' [v1, v2, v3] σ R) (hm : gMth N 3) (hi : Cond.static N.1 ∈ lw_tbl) (hl : gLk M.1.cls idx N.1) (hf : gFit D d n cells slots n') (hL : L.length = M.2.2.1) (hst : gCats st ≤ 8) (dd : decode M.2.1 pc = .ok (.invokestatic idx, 3)) (kk : ∀ E2 rv σ', gMore E E2 → R E2 rv σ' → gK X E2 M D n → gWX X E2 (cells + n') (slots + 6 * n') (pc + 3) L (rv.toList ++ st) σ') : gWX X E cells slots pc L (v3 :: v2 :: v1 :: st) σ :=
  fun H locs ls hP hS hlv => gBackG (L := L) (st := st) K (gRunSG K (as := [v1, v2, v3]) hc hm hi hl hf (hlv.1.trans hL) hst hP hS dd) hS hlv kk
theorem x_callC3G (K : gK X E M D n) {N : gMt} {d n' idx a : Nat} {v1 v2 v3 : gV} (hc : gCtG E N d n' (.inl (.ref a) :: [v1, v2, v3]) σ R) (hm : gMth N 3) (hi : Cond.instanceMethod N.1 ∈ lw_tbl) (hin : N.1.name = "<init>" ∧ N.2.2.2 = none) (hl : Cond.methodLink M.1.cls idx N.1 ∈ lw_tbl) (hf : gFit D d n cells slots n') (hL : L.length = M.2.2.1) (hst : gCats st ≤ 8) (dd : decode M.2.1 pc = .ok (.invokespecial idx, 3)) (kk : ∀ E2 rv σ', gMore E E2 → R E2 rv σ' → gK X E2 M D n → gWX X E2 (cells + n') (slots + 6 * n') (pc + 3) L (rv.toList ++ st) σ') : gWX X E cells slots pc L (v3 :: v2 :: v1 :: .inl (.ref a) :: st) σ :=
  fun H locs ls hP hS hlv => gBackG (L := L) (st := st) K (gRunCG K (v := .inl (.ref a)) (as := [v1, v2, v3]) hc hm hi hin rfl hl hf (hlv.1.trans hL) hst hP hS dd) hS hlv kk
theorem x_callY4G (K : gK X E M D n) {N : gMt} {d n' idx a : Nat} {v1 v2 v3 v4 : gV} (hc : gCtG E N d n' (.inl (.ref a) :: [v1, v2, v3, v4]) σ R) (hm : gMth N 4) (hi : gMthI N) (hk : gRcv X E σ N.1.cls a) (hl : gLk M.1.cls idx N.1) (hf : gFit D d n cells slots n') (hL : L.length = M.2.2.1) (hst : gCats st ≤ 8) (dd : decode M.2.1 pc = .ok (.invokevirtual idx, 3)) (kk : ∀ E2 rv σ', gMore E E2 → R E2 rv σ' → gK X E2 M D n → gWX X E2 (cells + n') (slots + 6 * n') (pc + 3) L (rv.toList ++ st) σ') : gWX X E cells slots pc L (v4 :: v3 :: v2 :: v1 :: .inl (.ref a) :: st) σ :=
  fun H locs ls hP hS hlv => gBackG (L := L) (st := st) K (gRunYG K (as := [v1, v2, v3, v4]) hc hm hi hk hl hf (hlv.1.trans hL) hst hP hS dd) hS hlv kk
theorem x_callUx4G (K : gK X E M D n) {N : gMt} {d n' idx a : Nat} {v1 v2 v3 v4 : gV} (hc : gCtG E N d n' (.inl (.ref a) :: [v1, v2, v3, v4]) σ R) (hm : gMth N 4) {x : MethodName} {C : String} (hi : gMthU E C x N) (hk : gRcv X E σ C a) (hl : Cond.methodLink M.1.cls idx x ∈ lw_tbl) (hf : gFit D d n cells slots n') (hL : L.length = M.2.2.1) (hst : gCats st ≤ 8) (dd : decode M.2.1 pc = .ok (.invokevirtual idx, 3)) (kk : ∀ E2 rv σ', gMore E E2 → R E2 rv σ' → gK X E2 M D n → gWX X E2 (cells + n') (slots + 6 * n') (pc + 3) L (rv.toList ++ st) σ') : gWX X E cells slots pc L (v4 :: v3 :: v2 :: v1 :: .inl (.ref a) :: st) σ :=
  fun H locs ls hP hS hlv => gBackG (L := L) (st := st) K (gRunUG K (v := .inl (.ref a)) (as := [v1, v2, v3, v4]) hc hm hi rfl hk hl hf (hlv.1.trans hL) hst hP hS dd) hS hlv kk
theorem x_callIx4G (K : gK X E M D n) {N : gMt} {d n' idx a : Nat} {v1 v2 v3 v4 : gV} (hc : gCtG E N d n' (.inl (.ref a) :: [v1, v2, v3, v4]) σ R) (hm : gMth N 4) {C : String} (hi : gMthS M.1.cls N) (hk : gRcv X E σ C a) (hat : ∃ cC, ClassAt X.2.2.2.2.1 C cC) (hl : Cond.methodLink M.1.cls idx N.1 ∈ lw_tbl) (hf : gFit D d n cells slots n') (hL : L.length = M.2.2.1) (hst : gCats st ≤ 8) (dd : decode M.2.1 pc = .ok (.invokespecial idx, 3)) (kk : ∀ E2 rv σ', gMore E E2 → R E2 rv σ' → gK X E2 M D n → gWX X E2 (cells + n') (slots + 6 * n') (pc + 3) L (rv.toList ++ st) σ') : gWX X E cells slots pc L (v4 :: v3 :: v2 :: v1 :: .inl (.ref a) :: st) σ :=
  fun H locs ls hP hS hlv => gBackG (L := L) (st := st) K (gRunIG K (v := .inl (.ref a)) (C := C) (as := [v1, v2, v3, v4]) hc hm hi rfl hk hat hl hf (hlv.1.trans hL) hst hP hS dd) hS hlv kk
theorem x_callY4 (K : gK X E M D n) {N : gMt} {d n' idx a : Nat} {v1 v2 v3 v4 : gV} {r : gV} (hc : gCt E N d n' (.inl (.ref a) :: [v1, v2, v3, v4]) σ (.inl (some r)) σ') (hm : gMth N 4) (hi : gMthI N) (hk : gRcv X E σ N.1.cls a) (hl : gLk M.1.cls idx N.1) (hf : gFit D d n cells slots n') (hL : L.length = M.2.2.1) (hst : gCats st ≤ 8) (dd : decode M.2.1 pc = .ok (.invokevirtual idx, 3)) (kk : gWX X E (cells + n') (slots + 6 * n') (pc + 3) L (r :: st) σ') : gWX X E cells slots pc L (v4 :: v3 :: v2 :: v1 :: .inl (.ref a) :: st) σ :=
  fun H locs ls hP hS hlv => gBack (L := L) (st := st) (gRunY K (as := [v1, v2, v3, v4]) hc hm hi hk hl hf (hlv.1.trans hL) hst hP hS dd) hS hlv kk
theorem x_callUx4 (K : gK X E M D n) {N : gMt} {d n' idx a : Nat} {v1 v2 v3 v4 : gV} {r : gV} (hc : gCt E N d n' (.inl (.ref a) :: [v1, v2, v3, v4]) σ (.inl (some r)) σ') (hm : gMth N 4) {x : MethodName} {C : String} (hi : gMthU E C x N) (hk : gRcv X E σ C a) (hl : Cond.methodLink M.1.cls idx x ∈ lw_tbl) (hf : gFit D d n cells slots n') (hL : L.length = M.2.2.1) (hst : gCats st ≤ 8) (dd : decode M.2.1 pc = .ok (.invokevirtual idx, 3)) (kk : gWX X E (cells + n') (slots + 6 * n') (pc + 3) L (r :: st) σ') : gWX X E cells slots pc L (v4 :: v3 :: v2 :: v1 :: .inl (.ref a) :: st) σ :=
  fun H locs ls hP hS hlv => gBack (L := L) (st := st) (gRunU K (v := .inl (.ref a)) (as := [v1, v2, v3, v4]) hc hm hi rfl hk hl hf (hlv.1.trans hL) hst hP hS dd) hS hlv kk
theorem x_callIx4 (K : gK X E M D n) {N : gMt} {d n' idx a : Nat} {v1 v2 v3 v4 : gV} {r : gV} (hc : gCt E N d n' (.inl (.ref a) :: [v1, v2, v3, v4]) σ (.inl (some r)) σ') (hm : gMth N 4) {C : String} (hi : gMthS M.1.cls N) (hk : gRcv X E σ C a) (hat : ∃ cC, ClassAt X.2.2.2.2.1 C cC) (hl : Cond.methodLink M.1.cls idx N.1 ∈ lw_tbl) (hf : gFit D d n cells slots n') (hL : L.length = M.2.2.1) (hst : gCats st ≤ 8) (dd : decode M.2.1 pc = .ok (.invokespecial idx, 3)) (kk : gWX X E (cells + n') (slots + 6 * n') (pc + 3) L (r :: st) σ') : gWX X E cells slots pc L (v4 :: v3 :: v2 :: v1 :: .inl (.ref a) :: st) σ :=
  fun H locs ls hP hS hlv => gBack (L := L) (st := st) (gRunI K (v := .inl (.ref a)) (C := C) (as := [v1, v2, v3, v4]) hc hm hi rfl hk hat hl hf (hlv.1.trans hL) hst hP hS dd) hS hlv kk
theorem x_callY4v (K : gK X E M D n) {N : gMt} {d n' idx a : Nat} {v1 v2 v3 v4 : gV} (hc : gCt E N d n' (.inl (.ref a) :: [v1, v2, v3, v4]) σ (.inl none) σ') (hm : gMth N 4) (hi : gMthI N) (hk : gRcv X E σ N.1.cls a) (hl : gLk M.1.cls idx N.1) (hf : gFit D d n cells slots n') (hL : L.length = M.2.2.1) (hst : gCats st ≤ 8) (dd : decode M.2.1 pc = .ok (.invokevirtual idx, 3)) (kk : gWX X E (cells + n') (slots + 6 * n') (pc + 3) L st σ') : gWX X E cells slots pc L (v4 :: v3 :: v2 :: v1 :: .inl (.ref a) :: st) σ :=
  fun H locs ls hP hS hlv => gBack (L := L) (st := st) (gRunY K (as := [v1, v2, v3, v4]) hc hm hi hk hl hf (hlv.1.trans hL) hst hP hS dd) hS hlv kk
theorem x_callUx4v (K : gK X E M D n) {N : gMt} {d n' idx a : Nat} {v1 v2 v3 v4 : gV} (hc : gCt E N d n' (.inl (.ref a) :: [v1, v2, v3, v4]) σ (.inl none) σ') (hm : gMth N 4) {x : MethodName} {C : String} (hi : gMthU E C x N) (hk : gRcv X E σ C a) (hl : Cond.methodLink M.1.cls idx x ∈ lw_tbl) (hf : gFit D d n cells slots n') (hL : L.length = M.2.2.1) (hst : gCats st ≤ 8) (dd : decode M.2.1 pc = .ok (.invokevirtual idx, 3)) (kk : gWX X E (cells + n') (slots + 6 * n') (pc + 3) L st σ') : gWX X E cells slots pc L (v4 :: v3 :: v2 :: v1 :: .inl (.ref a) :: st) σ :=
  fun H locs ls hP hS hlv => gBack (L := L) (st := st) (gRunU K (v := .inl (.ref a)) (as := [v1, v2, v3, v4]) hc hm hi rfl hk hl hf (hlv.1.trans hL) hst hP hS dd) hS hlv kk
theorem x_callIx4v (K : gK X E M D n) {N : gMt} {d n' idx a : Nat} {v1 v2 v3 v4 : gV} (hc : gCt E N d n' (.inl (.ref a) :: [v1, v2, v3, v4]) σ (.inl none) σ') (hm : gMth N 4) {C : String} (hi : gMthS M.1.cls N) (hk : gRcv X E σ C a) (hat : ∃ cC, ClassAt X.2.2.2.2.1 C cC) (hl : Cond.methodLink M.1.cls idx N.1 ∈ lw_tbl) (hf : gFit D d n cells slots n') (hL : L.length = M.2.2.1) (hst : gCats st ≤ 8) (dd : decode M.2.1 pc = .ok (.invokespecial idx, 3)) (kk : gWX X E (cells + n') (slots + 6 * n') (pc + 3) L st σ') : gWX X E cells slots pc L (v4 :: v3 :: v2 :: v1 :: .inl (.ref a) :: st) σ :=
  fun H locs ls hP hS hlv => gBack (L := L) (st := st) (gRunI K (v := .inl (.ref a)) (C := C) (as := [v1, v2, v3, v4]) hc hm hi rfl hk hat hl hf (hlv.1.trans hL) hst hP hS dd) hS hlv kk
theorem x_callS4G (K : gK X E M D n) {N : gMt} {d n' idx : Nat} {v1 v2 v3 v4 : gV} (hc : gCtG E N d n' [v1, v2, v3, v4] σ R) (hm : gMth N 4) (hi : Cond.static N.1 ∈ lw_tbl) (hl : gLk M.1.cls idx N.1) (hf : gFit D d n cells slots n') (hL : L.length = M.2.2.1) (hst : gCats st ≤ 8) (dd : decode M.2.1 pc = .ok (.invokestatic idx, 3)) (kk : ∀ E2 rv σ', gMore E E2 → R E2 rv σ' → gK X E2 M D n → gWX X E2 (cells + n') (slots + 6 * n') (pc + 3) L (rv.toList ++ st) σ') : gWX X E cells slots pc L (v4 :: v3 :: v2 :: v1 :: st) σ :=
  fun H locs ls hP hS hlv => gBackG (L := L) (st := st) K (gRunSG K (as := [v1, v2, v3, v4]) hc hm hi hl hf (hlv.1.trans hL) hst hP hS dd) hS hlv kk
theorem x_callC4G (K : gK X E M D n) {N : gMt} {d n' idx a : Nat} {v1 v2 v3 v4 : gV} (hc : gCtG E N d n' (.inl (.ref a) :: [v1, v2, v3, v4]) σ R) (hm : gMth N 4) (hi : Cond.instanceMethod N.1 ∈ lw_tbl) (hin : N.1.name = "<init>" ∧ N.2.2.2 = none) (hl : Cond.methodLink M.1.cls idx N.1 ∈ lw_tbl) (hf : gFit D d n cells slots n') (hL : L.length = M.2.2.1) (hst : gCats st ≤ 8) (dd : decode M.2.1 pc = .ok (.invokespecial idx, 3)) (kk : ∀ E2 rv σ', gMore E E2 → R E2 rv σ' → gK X E2 M D n → gWX X E2 (cells + n') (slots + 6 * n') (pc + 3) L (rv.toList ++ st) σ') : gWX X E cells slots pc L (v4 :: v3 :: v2 :: v1 :: .inl (.ref a) :: st) σ :=
  fun H locs ls hP hS hlv => gBackG (L := L) (st := st) K (gRunCG K (v := .inl (.ref a)) (as := [v1, v2, v3, v4]) hc hm hi hin rfl hl hf (hlv.1.trans hL) hst hP hS dd) hS hlv kk
end GG
