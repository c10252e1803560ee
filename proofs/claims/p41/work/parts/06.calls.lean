/-! ===== contracts: what a method answers or throws, and the world behind it ===== -/
abbrev gO : Type := Option gV ⊕ String
def gRm (D n : Nat) : Room := { frames := D, cells := n, slots := 6 * n, locals := 64 * D }
def gQr (E : gE) (o : gO) (σ' : gS) : Array Value → State → Outcome → State → Prop := fun _ st oc t => ∃ rv : Option gV, o = .inl rv ∧ oc = .returned (rv.map (gc E)) ∧ gI E σ' t ∧ va_F (gA E) st t
def gQx (E : gE) (o : gO) (σ' : gS) : String → State → State → Prop := fun C st t => o = .inr C ∧ va_P (gD E) gCl (gW E σ') t.heap ∧ va_F (gA E) st t
def gCt (E : gE) (M : gMt) (D n : Nat) (as : List gV) (σ : gS) (o : gO) (σ' : gS) : Prop :=
  vx_Met (gL E) M.1 [Cond.code M.1 M.2.1 M.2.2.1 M.2.2.2] (gRm D n) (va_Pc (as.map (gc E)) (gI E σ)) (gQr E o σ') (gQx E o σ') n (6 * n) (gA E)
def gEnd (X : gM) (E : gE) (n : Nat) (o : gO) (σ' : gS) : Prop :=
  X.2.2.2.2.2.2.2.2.2.2 = vx_MQ X.2.2.2.2.2.2.2.1 (gQr E o σ') (gQx E o σ') X.2.2.2.2.2.2.1 X.2.2.2.2.1 n (6 * n) (gA E)
theorem gEntry {E : gE} : ∀ (as : List gV) (k r : Nat), (∀ v ∈ as, gC1 (some v) = true) → gAsc E k (as.map some ++ List.replicate r none) = lv_args k (as.map (gc E))
  | [], k, r, _ => by
    show gAsc E k (List.replicate r none) = []
    induction r generalizing k with
    | zero => rfl
    | succ r ih => exact ih (k + 1)
  | v :: t, k, r, h => by
    have hc : (gc E v).category = 1 := gC1_cat (h v List.mem_cons_self)
    show (k, gc E v) :: gAsc E (k + 1) (t.map some ++ List.replicate r none) = (k, gc E v) :: lv_args (if (gc E v).category = 2 then k + 2 else k + 1) (t.map (gc E))
    rw [if_neg (by omega), gEntry t (k + 1) r (fun w hw => h w (List.mem_cons_of_mem _ hw))]
theorem gSl {E : gE} : ∀ (as : List gV), (∀ v ∈ as, gC1 (some v) = true) → (lg_sl (as.map (gc E))).length = as.length
  | [], _ => rfl
  | v :: t, h => by
    have hc : (gc E v).category = 1 := gC1_cat (h v List.mem_cons_self)
    have := gSl (E := E) t (fun w hw => h w (List.mem_cons_of_mem _ hw))
    simp only [lg_sl, List.map_cons, List.flatMap_cons, List.length_append, List.length_cons] at this ⊢
    rw [if_neg (by omega), this]
    simp
    omega
/-- a method by its body -/
theorem gCt_of {E : gE} {M : gMt} {D n : Nat} {as : List gV} {σ σ' : gS} {o : gO} (L : List (Option gV)) (hy : plainName M.1.cls = true) (h1 : as.all (fun v => gC1 (some v)) = true) (hL : L = as.map some ++ List.replicate (M.2.2.1 - as.length) none) (hlen : as.length ≤ M.2.2.1)
    (body : ∀ X : gM, gK X E M D n → gEnd X E n o σ' → gWX X E 0 0 0 L [] σ) : gCt E M D n as σ o σ' := by
  have h1' : ∀ v ∈ as, gC1 (some v) = true := List.all_eq_true.mp h1
  refine vx_ofW (ws' := []) (cc := M.2.1) (maxL := M.2.2.1) (ret := M.2.2.2) hy rfl ?_
  intro p e s m args below meth c s₁ B hml hxt hv
  obtain ⟨rfl, hN, hP⟩ := hv
  have hb := body (p, gL E, e, gRm D n, s, m, (as.map (gc E)).toArray, below, meth, c, vx_MQ below (gQr E o σ') (gQx E o σ') (as.map (gc E)).toArray s n (6 * n) (gA E)) ⟨B.exec, B.bytes, hml, findClass_of_methodNamed B.named, hN, B.notSynchronized, rfl, B.returns, hxt, rfl⟩ rfl
  have hsl := gSl (E := E) as h1'
  have hl := lv_entry (as.map (gc E)) (n := M.2.2.1) (by rw [hsl]; exact hlen)
  rw [lg_entry_eq]
  refine hb s.heap [] _ hP va_S.rf ?_
  have e1 : L.length = M.2.2.1 := by rw [hL]; simp; omega
  rw [e1, hL, gEntry as 0 _ h1']
  exact hl
section GQ
variable {X : gM} {E : gE} {M : gMt} {D n cells slots pc : Nat} {L : List (Option gV)} {st : List gV} {σ σ' : gS}
theorem gEnd_ret {E : gE} {s : State} {σ : gS} {rv : Option gV} {H : Heap} {locs : List Loc} {args : Array Value} {v : Option Value} (hv : v = rv.map (gc E)) (hN : gN E s s.heap) (hP : va_P (gD E) gCl (gW E σ) H) (hS : va_S (gA E) s.heap H locs) : ∀ t : State, t.heap = H → s.WarmedH t.vm → gQr E (.inl rv) σ args s (.returned v) t := by
  intro t ht hW
  subst hv
  refine ⟨rv, rfl, rfl, ⟨?_, by rw [ht]; exact hP⟩, hS.F ht⟩
  rw [ht]
  exact gN_moved hN hW hS.1 hS.2.1
theorem x_iret (K : gK X E M D n) {z z' : Int} (hE : gEnd X E n (.inl (some (iv z'))) σ') (hr : M.2.2.2 = some .int) (d : decode M.2.1 pc = .ok (.ireturn, 1)) (hc : cells ≤ n) (hs : slots ≤ 6 * n) (hz : z = z') (hσ : σ = σ') : gWX X E cells slots pc L [iv z] σ := by
  subst hz; subst hσ
  intro H locs ls hP hS hl
  unfold gW_
  rw [hE]
  refine vx_ret (W.widen hc hs ?_)
  exact W.iret K.1 K.2.1 (K.2.2.2.2.2.2.2.1.trans hr) (gEnd_ret rfl K.2.2.2.2.1 hP hS) hS.2.2 d K.2.2.2.2.2.1
theorem x_zret (K : gK X E M D n) {z z' : Int} (hE : gEnd X E n (.inl (some (iv z'))) σ') (hr : M.2.2.2 = some .boolean) (d : decode M.2.1 pc = .ok (.ireturn, 1)) (hc : cells ≤ n) (hs : slots ≤ 6 * n) (h01 : z = 0 ∨ z = 1) (hz : z = z') (hσ : σ = σ') : gWX X E cells slots pc L [iv z] σ := by
  subst hz; subst hσ
  intro H locs ls hP hS hl
  unfold gW_
  rw [hE]
  refine vx_ret (W.widen hc hs ?_)
  exact W.zret (ty := .boolean) K.1 K.2.1 (K.2.2.2.2.2.2.2.1.trans hr) (by rcases h01 with rfl | rfl <;> rfl) (gEnd_ret rfl K.2.2.2.2.1 hP hS) hS.2.2 d K.2.2.2.2.2.1
theorem x_cret (K : gK X E M D n) {z z' : Int} (hE : gEnd X E n (.inl (some (iv z'))) σ') (hr : M.2.2.2 = some .char) (d : decode M.2.1 pc = .ok (.ireturn, 1)) (hc : cells ≤ n) (hs : slots ≤ 6 * n) (h01 : 0 ≤ z ∧ z < 65536) (hz : z = z') (hσ : σ = σ') : gWX X E cells slots pc L [iv z] σ := by
  subst hz; subst hσ
  intro H locs ls hP hS hl
  unfold gW_
  rw [hE]
  refine vx_ret (W.widen hc hs ?_)
  have hn : narrow .char (.int (Int32.ofInt z)) = .int (Int32.ofInt z) := by
    obtain ⟨q, rfl⟩ := g_nat h01.1
    rw [Int32.ofInt_eq_ofNat]
    exact (pk_charN (q := q) (by omega)).1
  exact W.zret (ty := .char) K.1 K.2.1 (K.2.2.2.2.2.2.2.1.trans hr) hn (gEnd_ret rfl K.2.2.2.2.1 hP hS) hS.2.2 d K.2.2.2.2.2.1
theorem x_vret (K : gK X E M D n) (hE : gEnd X E n (.inl none) σ') (hr : M.2.2.2 = none) (d : decode M.2.1 pc = .ok (.return_, 1)) (hc : cells ≤ n) (hs : slots ≤ 6 * n) (hσ : σ = σ') : gWX X E cells slots pc L [] σ := by
  subst hσ
  intro H locs ls hP hS hl
  unfold gW_
  rw [hE]
  refine vx_ret (W.widen hc hs ?_)
  exact W.vret K.1 K.2.1 (K.2.2.2.2.2.2.2.1.trans hr) (gEnd_ret rfl K.2.2.2.2.1 hP hS) hS.2.2 d K.2.2.2.2.2.1
theorem x_aret (K : gK X E M D n) {q q' : Nat × Nat} {cn : String} (hE : gEnd X E n (.inl (some (.inr q'))) σ') (hr : M.2.2.2 = some (.object cn)) (d : decode M.2.1 pc = .ok (.areturn, 1)) (hc : cells ≤ n) (hs : slots ≤ 6 * n) (hq : q = q') (hσ : σ = σ') : gWX X E cells slots pc L [.inr q] σ := by
  subst hq; subst hσ
  intro H locs ls hP hS hl
  unfold gW_
  rw [hE]
  refine vx_ret (W.widen hc hs ?_)
  exact W.aret (rt := .object cn) K.1 K.2.1 (K.2.2.2.2.2.2.2.1.trans hr) (Or.inl ⟨cn, rfl⟩) (Or.inr ⟨_, rfl⟩) (gEnd_ret rfl K.2.2.2.2.1 hP hS) hS.2.2 d K.2.2.2.2.2.1
theorem x_aretN (K : gK X E M D n) {cn : String} (hE : gEnd X E n (.inl (some (.inl .null))) σ') (hr : M.2.2.2 = some (.object cn)) (d : decode M.2.1 pc = .ok (.areturn, 1)) (hc : cells ≤ n) (hs : slots ≤ 6 * n) (hσ : σ = σ') : gWX X E cells slots pc L [.inl .null] σ := by
  subst hσ
  intro H locs ls hP hS hl
  unfold gW_
  rw [hE]
  refine vx_ret (W.widen hc hs ?_)
  exact W.aret (rt := .object cn) K.1 K.2.1 (K.2.2.2.2.2.2.2.1.trans hr) (Or.inl ⟨cn, rfl⟩) (Or.inl rfl) (gEnd_ret rfl K.2.2.2.2.1 hP hS) hS.2.2 d K.2.2.2.2.2.1
theorem x_aretc (K : gK X E M D n) {q : Nat} {cn : String} (hE : gEnd X E n (.inl (some (.inl (.ref q)))) σ') (hr : M.2.2.2 = some (.object cn)) (d : decode M.2.1 pc = .ok (.areturn, 1)) (hc : cells ≤ n) (hs : slots ≤ 6 * n) (hσ : σ = σ') : gWX X E cells slots pc L [.inl (.ref q)] σ := by
  subst hσ
  intro H locs ls hP hS hl
  unfold gW_
  rw [hE]
  refine vx_ret (W.widen hc hs ?_)
  exact W.aret (rt := .object cn) K.1 K.2.1 (K.2.2.2.2.2.2.2.1.trans hr) (Or.inl ⟨cn, rfl⟩) (Or.inr ⟨_, rfl⟩) (gEnd_ret rfl K.2.2.2.2.1 hP hS) hS.2.2 d K.2.2.2.2.2.1
/-- what the tables say of a method -/
def gMth (N : gMt) (k : Nat) : Prop := Cond.code N.1 N.2.1 N.2.2.1 N.2.2.2 ∈ lw_tbl ∧ Cond.initialized N.1.cls ∈ lw_tbl ∧ (N.1.cls ≠ "java/lang/invoke/MethodHandle" ∧ N.1.cls ≠ "java/lang/invoke/VarHandle") ∧ (parseMethodDescriptor N.1.desc).map (fun d => d.parameters.length) = some k ∧ N.2.2.1 ≤ 40
def gMthI (N : gMt) : Prop := Cond.instanceMethod N.1 ∈ lw_tbl ∧ Cond.selects N.1.cls N.1 N.1 ∈ lw_tbl
def gLk (own : String) (idx : Nat) (y : MethodName) : Prop := Cond.methodLink own idx y ∈ lw_tbl ∨ ∃ host : String, Cond.methodLinkNest own idx y host ∈ lw_tbl
def gRc (k : Nat) (C : String) : Prop := ∃ (ci : Nat) (q : vw_C), gIA k = none ∧ gCI k = some ci ∧ gCl[ci]? = some q ∧ q.1 = C
/-- the run of a call -/
def gRun (X : gM) (E : gE) (H : Heap) (locs : List Loc) (cells slots n' pc : Nat) (ls : Array Slot) (st0 rest : List Value) (σ : gS) (o : gO) (σ' : gS) : Prop :=
  vx_Run X.1 X.2.1 X.2.2.1 X.2.2.2.1 X.2.2.2.2.1 X.2.2.2.2.2.1 X.2.2.2.2.2.2.1 X.2.2.2.2.2.2.2.1 X.2.2.2.2.2.2.2.2.1 X.2.2.2.2.2.2.2.2.2.1 H locs cells slots n' (6 * n') (F0 X.2.2.2.2.2.1 pc ls st0) rest (gQr E o σ' #[]) (gQx E o σ') (gA E)
theorem gPc_blind {E : gE} {av : List Value} {σ : gS} : FrameBlind (va_Pc av (gI E σ)) := by
  rintro a U g mk ⟨h1, ⟨h2, h3, h4, h5⟩, h6⟩
  exact ⟨h1, ⟨h2, h3, h4, h5⟩, h6⟩
theorem gPc_at (K : gK X E M D n) {av : List Value} {H : Heap} {locs : List Loc} (hP : va_P (gD E) gCl (gW E σ) H) (hS : va_S (gA E) X.2.2.2.2.1.heap H locs) : ∀ U : State, U.heap = H → X.2.2.2.2.1.WarmedH U.vm → va_Pc av (gI E σ) av.toArray U := by
  intro U hU hW
  refine ⟨rfl, ?_, by rw [hU]; exact hP⟩
  rw [hU]
  exact gN_moved K.2.2.2.2.1 hW hS.1 hS.2.1
theorem gPay (K : gK X E M D n) {N : gMt} {k : Nat} (hm : gMth N k) : ∀ w ∈ [Cond.code N.1 N.2.1 N.2.2.1 N.2.2.2], ∀ (a' : Array Value) (U : State), X.2.2.2.2.1.WarmedH U.vm → w.before a' U = true := by
  intro w hw a' U hW
  rw [List.mem_singleton] at hw
  subst hw
  exact word_at hW (Or.inl rfl) (gN_word K.2.2.2.2.1 hm.1 rfl #[])
theorem gLen {N : gMt} {k : Nat} (hm : gMth N k) : ∀ sig, parseMethodDescriptor N.1.desc = some sig → k = sig.parameters.length := by
  intro sig h
  have h2 := hm.2.2.2.1
  rw [h] at h2
  exact (Option.some.inj h2).symm
theorem gRec {k i : Nat} {C : String} {H : Heap} (K : gK X E M D n) (hk : gRc k C) (ho : gOk k i) (hP : va_P (gD E) gCl (gW E σ) H) : ∃ cellB : Cell, H[gB E + gOff k i]? = some cellB ∧ cellB.vm.isStatics = false ∧ X.2.2.2.2.1.vm.findClass C = some cellB.cls := by
  obtain ⟨ci, q, h0, h1, h2, rfl⟩ := hk
  exact va_recv (gN_K K.2.2.2.2.1) hP (ci := ci) (q0 := gOff k i) h2 (by rw [gW_at ho, gEnt_obj h0 h1])
/-- the room of a call -/
def gFit (D d n cells slots n' : Nat) : Prop := d < D ∧ cells + n' ≤ n ∧ slots + 6 * n' ≤ 6 * n
theorem gRunV (K : gK X E M D n) {N : gMt} {d n' idx k i : Nat} {as : List gV} {o : gO} {H : Heap} {locs : List Loc} {ls : Array Slot} (hc : gCt E N d n' (.inr (k, i) :: as) σ o σ') (hm : gMth N as.length) (hi : gMthI N) (hk : gRc k N.1.cls) (ho : gOk k i) (hl : gLk M.1.cls idx N.1) (hf : gFit D d n cells slots n') (hL : ls.size = M.2.2.1) (hst : gCats st ≤ 8) (hP : va_P (gD E) gCl (gW E σ) H) (hS : va_S (gA E) X.2.2.2.2.1.heap H locs) (dd : decode M.2.1 pc = .ok (.invokevirtual idx, 3)) :
    gRun X E H locs cells slots n' pc ls ((as.map (gc E)).reverse ++ .ref (gB E + gOff k i) :: st.map (gc E)) (st.map (gc E)) σ o σ' := by
  have hN := K.2.2.2.2.1
  have hR := K.2.2.2.2.2.2.2.2.2
  have h40 : 8 + (N.2.2.1 + 11) + 64 * d ≤ 64 * D := by have h1 := hm.2.2.2.2; have h2 := hf.1; omega
  unfold gCt at hc
  rw [← K.2.2.2.2.2.2.1] at hc
  have S : CallFix X.1 X.2.2.2.2.2.1 X.2.2.2.2.2.2.2.2.2.1 M.2.1 M.2.2.1 X.2.2.2.2.1 X.2.2.2.2.2.2.1 [] M.1.cls := ⟨K.1, K.2.1, K.2.2.1, K.2.2.2.1, fun w h => by cases h⟩
  have hp : PreV X.2.2.2.2.1 H N.1.cls (gB E + gOff k i) (va_Pc (List.map (gc E) (.inr (k, i) :: as)) (gI E σ)) (as.map (gc E)) := ⟨gPc_blind, gRec K hk ho hP, gPc_at K hP hS⟩
  have hW : 2 * (F0 X.2.2.2.2.2.1 pc ls ((as.map (gc E)).reverse ++ .ref (gB E + gOff k i) :: st.map (gc E))).monitorRoom + ((st.map (gc E)).map fun v => v.category).sum ≤ 8 := lv_room (Nat.le_trans (gCats_le st) hst)
  have hr : cells + n' ≤ X.2.2.2.1.cells ∧ slots + 6 * n' ≤ X.2.2.2.1.slots := by rw [hR]; exact hf.2
  rcases hl with hl | ⟨host, hl⟩
  · exact vx_runV S hc ⟨⟨rfl, rfl, by rw [hR]; exact hf.1, by rw [hR]; exact h40, gPay K hm, List.mem_singleton.mpr rfl, gN_word hN hm.1 rfl _, gN_word hN hm.2.1 rfl _, hm.2.2.1, gLen hm, gN_word hN hl rfl _⟩, gN_word hN hi.1 rfl _, gN_word hN hi.2 rfl _⟩ hp rfl (by rw [List.length_map]) hL rfl hW dd hr
  · exact vx_runVN S hc ⟨⟨⟨rfl, rfl, by rw [hR]; exact hf.1, by rw [hR]; exact h40, gPay K hm, List.mem_singleton.mpr rfl⟩, gN_word hN hm.1 rfl _, gN_word hN hm.2.1 rfl _, hm.2.2.1, gLen hm, gN_any hN hl rfl _⟩, gN_word hN hi.1 rfl _, gN_word hN hi.2 rfl _⟩ hp rfl (by rw [List.length_map]) hL rfl hW dd hr
theorem gRunS (K : gK X E M D n) {N : gMt} {d n' idx : Nat} {as : List gV} {o : gO} {H : Heap} {locs : List Loc} {ls : Array Slot} (hc : gCt E N d n' as σ o σ') (hm : gMth N as.length) (hi : Cond.static N.1 ∈ lw_tbl) (hl : gLk M.1.cls idx N.1) (hf : gFit D d n cells slots n') (hL : ls.size = M.2.2.1) (hst : gCats st ≤ 8) (hP : va_P (gD E) gCl (gW E σ) H) (hS : va_S (gA E) X.2.2.2.2.1.heap H locs) (dd : decode M.2.1 pc = .ok (.invokestatic idx, 3)) :
    gRun X E H locs cells slots n' pc ls ((as.map (gc E)).reverse ++ st.map (gc E)) (st.map (gc E)) σ o σ' := by
  have hN := K.2.2.2.2.1
  have hR := K.2.2.2.2.2.2.2.2.2
  have h40 : 8 + (N.2.2.1 + 11) + 64 * d ≤ 64 * D := by have h1 := hm.2.2.2.2; have h2 := hf.1; omega
  unfold gCt at hc
  rw [← K.2.2.2.2.2.2.1] at hc
  have S : CallFix X.1 X.2.2.2.2.2.1 X.2.2.2.2.2.2.2.2.2.1 M.2.1 M.2.2.1 X.2.2.2.2.1 X.2.2.2.2.2.2.1 [] M.1.cls := ⟨K.1, K.2.1, K.2.2.1, K.2.2.2.1, fun w h => by cases h⟩
  have hp : PreS X.2.2.2.2.1 H (va_Pc (List.map (gc E) as) (gI E σ)) (as.map (gc E)) := ⟨gPc_blind, gPc_at K hP hS⟩
  have hW : 2 * (F0 X.2.2.2.2.2.1 pc ls ((as.map (gc E)).reverse ++ st.map (gc E))).monitorRoom + ((st.map (gc E)).map fun v => v.category).sum ≤ 8 := lv_room (Nat.le_trans (gCats_le st) hst)
  have hr : cells + n' ≤ X.2.2.2.1.cells ∧ slots + 6 * n' ≤ X.2.2.2.1.slots := by rw [hR]; exact hf.2
  rcases hl with hl | ⟨host, hl⟩
  · exact vx_runS (As := as.map (gc E)) (rest := st.map (gc E)) S hc ⟨⟨rfl, rfl, by rw [hR]; exact hf.1, by rw [hR]; exact h40, gPay K hm, List.mem_singleton.mpr rfl, gN_word hN hm.1 rfl _, gN_word hN hm.2.1 rfl _, hm.2.2.1, gLen hm, gN_word hN hl rfl _⟩, gN_word hN hi rfl _⟩ hp rfl (by rw [List.length_map]) hL rfl hW dd hr
  · exact vx_runSN (As := as.map (gc E)) (rest := st.map (gc E)) S hc ⟨⟨⟨rfl, rfl, by rw [hR]; exact hf.1, by rw [hR]; exact h40, gPay K hm, List.mem_singleton.mpr rfl⟩, gN_word hN hm.1 rfl _, gN_word hN hm.2.1 rfl _, hm.2.2.1, gLen hm, gN_any hN hl rfl _⟩, gN_word hN hi rfl _, trivial⟩ hp rfl (by rw [List.length_map]) hL rfl hW dd hr
/-- behind a call that returns -/
theorem gBack {n' : Nat} {rv : Option gV} {H : Heap} {locs : List Loc} {ls : Array Slot} {st0 : List Value} (hr : gRun X E H locs cells slots n' pc ls st0 (st.map (gc E)) σ (.inl rv) σ') (hS : va_S (gA E) X.2.2.2.2.1.heap H locs) (hl : lv_has ls L.length (gAsc E 0 L)) (kk : gWX X E (cells + n') (slots + 6 * n') (pc + 3) L (rv.toList ++ st) σ') : gW_ X H locs cells slots (F0 X.2.2.2.2.2.1 pc ls st0) := by
  intro T hT Z
  rcases hr T hT Z with ⟨v, st₀, t, T', L9, h0, X', hL, e1, e2, ⟨rv', hrv, hv, hI, hF⟩, stp⟩ | ⟨q, st₀, t, T', L9, C, ce, h0, X', hL, e1, e2, ⟨hx, -⟩, -⟩
  · cases hrv
    cases hv
    obtain ⟨k1, k2, k3⟩ := vx_keep (A1 := gA E) h0 e1 hS (fun _ _ h => h) (fun _ h => h) hL hF
    obtain ⟨t2, a1, b1⟩ := kk T'.heap (locs ++ L9) ls (by rw [e1]; exact hI.2) k3 hl T' rfl X'
    refine ⟨t2, stp t2 ?_, b1⟩
    have e9 : List.map (gc E) (rv.toList ++ st) = (rv.map (gc E)).toList ++ st.map (gc E) := by cases rv <;> rfl
    rw [e9] at a1
    exact a1
  · cases hx
/-- behind a call that throws, where nothing catches -/
theorem gBackX (K : gK X E M D n) {n' : Nat} {C : String} {H : Heap} {locs : List Loc} {ls : Array Slot} {st0 : List Value} (hr : gRun X E H locs cells slots n' pc ls st0 (st.map (gc E)) σ (.inr C) σ') (hS : va_S (gA E) X.2.2.2.2.1.heap H locs) (hE : gEnd X E n (.inr C) σ') (hc : cells + n' ≤ n) (hs : slots + 6 * n' ≤ 6 * n) : gW_ X H locs cells slots (F0 X.2.2.2.2.2.1 pc ls st0) := by
  intro T hT Z
  rcases hr T hT Z with ⟨v, st₀, t, T', L9, h0, X', hL, e1, e2, ⟨rv', hrv, -⟩, -⟩ | ⟨q, st₀, t, T', L9, C', ce, h0, X', hL, e1, e2, ⟨hx, hI, hF⟩, hce, hcv, hcl, stp⟩
  · cases hrv
  · cases hx
    obtain ⟨k1, k2, k3⟩ := vx_keep (A1 := gA E) h0 e1 hS (fun _ _ h => h) (fun _ h => h) hL hF
    rw [hE]
    have hh : t.heap = T'.heap := e1.symm
    have hx9 : ∀ t9 : State, t9.heap = T'.heap → X.2.2.2.2.1.vm.Alike t9.vm → gQx E (.inr C) σ' C X.2.2.2.2.1 t9 := fun t9 h9 _ => ⟨rfl, by rw [h9, e1]; exact hI, by rw [h9]; exact k3.1, fun q9 h1 h2 => by rw [h9]; exact k3.2.1 q9 h1 h2⟩
    obtain ⟨t2, a1, b1⟩ := vx_out (Qc := gQr E (.inr C) σ') (XC := gQx E (.inr C) σ') (free := gA E) (ls := ls) (rest := st.map (gc E)) (pc := pc) (H := T'.heap) (E := C) (ce := ce) (q := q) (fun x hx => (K.2.2.2.2.2.2.2.2.1 x hx).elim) K.2.2.2.2.2.1 (by rw [e1]; exact hce) hcv hcl hx9 k3.2.2 hc hs T' rfl X'
    exact ⟨t2, stp.trans a1, b1⟩
/-- the calls by how many arguments -/

theorem x_callV0 (K : gK X E M D n) {N : gMt} {d n' idx k i : Nat} {r : gV} (hc : gCt E N d n' (.inr (k, i) :: []) σ (.inl (some r)) σ') (hm : gMth N 0) (hi : gMthI N) (hk : gRc k N.1.cls) (ho : gOk k i) (hl : gLk M.1.cls idx N.1) (hf : gFit D d n cells slots n') (hL : L.length = M.2.2.1) (hst : gCats st ≤ 8) (dd : decode M.2.1 pc = .ok (.invokevirtual idx, 3)) (kk : gWX X E (cells + n') (slots + 6 * n') (pc + 3) L (r :: st) σ') : gWX X E cells slots pc L (.inr (k, i) :: st) σ :=
  fun H locs ls hP hS hlv => gBack (L := L) (st := st) (gRunV K (as := []) (k := k) (i := i) hc hm hi hk ho hl hf (hlv.1.trans hL) hst hP hS dd) hS hlv kk
theorem x_callV0v (K : gK X E M D n) {N : gMt} {d n' idx k i : Nat} (hc : gCt E N d n' (.inr (k, i) :: []) σ (.inl none) σ') (hm : gMth N 0) (hi : gMthI N) (hk : gRc k N.1.cls) (ho : gOk k i) (hl : gLk M.1.cls idx N.1) (hf : gFit D d n cells slots n') (hL : L.length = M.2.2.1) (hst : gCats st ≤ 8) (dd : decode M.2.1 pc = .ok (.invokevirtual idx, 3)) (kk : gWX X E (cells + n') (slots + 6 * n') (pc + 3) L st σ') : gWX X E cells slots pc L (.inr (k, i) :: st) σ :=
  fun H locs ls hP hS hlv => gBack (L := L) (st := st) (gRunV K (as := []) (k := k) (i := i) hc hm hi hk ho hl hf (hlv.1.trans hL) hst hP hS dd) hS hlv kk
theorem x_callV0x (K : gK X E M D n) {N : gMt} {d n' idx k i : Nat} {C : String} (hc : gCt E N d n' (.inr (k, i) :: []) σ (.inr C) σ') (hm : gMth N 0) (hi : gMthI N) (hk : gRc k N.1.cls) (ho : gOk k i) (hl : gLk M.1.cls idx N.1) (hf : gFit D d n cells slots n') (hL : L.length = M.2.2.1) (hst : gCats st ≤ 8) (dd : decode M.2.1 pc = .ok (.invokevirtual idx, 3)) (hE : gEnd X E n (.inr C) σ') : gWX X E cells slots pc L (.inr (k, i) :: st) σ :=
  fun H locs ls hP hS hlv => gBackX K (st := st) (gRunV K (as := []) (k := k) (i := i) hc hm hi hk ho hl hf (hlv.1.trans hL) hst hP hS dd) hS hE hf.2.1 hf.2.2
theorem x_callS0 (K : gK X E M D n) {N : gMt} {d n' idx : Nat} {r : gV} (hc : gCt E N d n' ([]) σ (.inl (some r)) σ') (hm : gMth N 0) (hi : Cond.static N.1 ∈ lw_tbl) (hl : gLk M.1.cls idx N.1) (hf : gFit D d n cells slots n') (hL : L.length = M.2.2.1) (hst : gCats st ≤ 8) (dd : decode M.2.1 pc = .ok (.invokestatic idx, 3)) (kk : gWX X E (cells + n') (slots + 6 * n') (pc + 3) L (r :: st) σ') : gWX X E cells slots pc L (st) σ :=
  fun H locs ls hP hS hlv => gBack (L := L) (st := st) (gRunS K (as := []) hc hm hi hl hf (hlv.1.trans hL) hst hP hS dd) hS hlv kk
theorem x_callS0v (K : gK X E M D n) {N : gMt} {d n' idx : Nat} (hc : gCt E N d n' ([]) σ (.inl none) σ') (hm : gMth N 0) (hi : Cond.static N.1 ∈ lw_tbl) (hl : gLk M.1.cls idx N.1) (hf : gFit D d n cells slots n') (hL : L.length = M.2.2.1) (hst : gCats st ≤ 8) (dd : decode M.2.1 pc = .ok (.invokestatic idx, 3)) (kk : gWX X E (cells + n') (slots + 6 * n') (pc + 3) L st σ') : gWX X E cells slots pc L (st) σ :=
  fun H locs ls hP hS hlv => gBack (L := L) (st := st) (gRunS K (as := []) hc hm hi hl hf (hlv.1.trans hL) hst hP hS dd) hS hlv kk
theorem x_callS0x (K : gK X E M D n) {N : gMt} {d n' idx : Nat} {C : String} (hc : gCt E N d n' ([]) σ (.inr C) σ') (hm : gMth N 0) (hi : Cond.static N.1 ∈ lw_tbl) (hl : gLk M.1.cls idx N.1) (hf : gFit D d n cells slots n') (hL : L.length = M.2.2.1) (hst : gCats st ≤ 8) (dd : decode M.2.1 pc = .ok (.invokestatic idx, 3)) (hE : gEnd X E n (.inr C) σ') : gWX X E cells slots pc L (st) σ :=
  fun H locs ls hP hS hlv => gBackX K (st := st) (gRunS K (as := []) hc hm hi hl hf (hlv.1.trans hL) hst hP hS dd) hS hE hf.2.1 hf.2.2
theorem x_callV1 (K : gK X E M D n) {N : gMt} {d n' idx k i : Nat} {v1 : gV} {r : gV} (hc : gCt E N d n' (.inr (k, i) :: [v1]) σ (.inl (some r)) σ') (hm : gMth N 1) (hi : gMthI N) (hk : gRc k N.1.cls) (ho : gOk k i) (hl : gLk M.1.cls idx N.1) (hf : gFit D d n cells slots n') (hL : L.length = M.2.2.1) (hst : gCats st ≤ 8) (dd : decode M.2.1 pc = .ok (.invokevirtual idx, 3)) (kk : gWX X E (cells + n') (slots + 6 * n') (pc + 3) L (r :: st) σ') : gWX X E cells slots pc L (v1 :: .inr (k, i) :: st) σ :=
  fun H locs ls hP hS hlv => gBack (L := L) (st := st) (gRunV K (as := [v1]) (k := k) (i := i) hc hm hi hk ho hl hf (hlv.1.trans hL) hst hP hS dd) hS hlv kk
theorem x_callV1v (K : gK X E M D n) {N : gMt} {d n' idx k i : Nat} {v1 : gV} (hc : gCt E N d n' (.inr (k, i) :: [v1]) σ (.inl none) σ') (hm : gMth N 1) (hi : gMthI N) (hk : gRc k N.1.cls) (ho : gOk k i) (hl : gLk M.1.cls idx N.1) (hf : gFit D d n cells slots n') (hL : L.length = M.2.2.1) (hst : gCats st ≤ 8) (dd : decode M.2.1 pc = .ok (.invokevirtual idx, 3)) (kk : gWX X E (cells + n') (slots + 6 * n') (pc + 3) L st σ') : gWX X E cells slots pc L (v1 :: .inr (k, i) :: st) σ :=
  fun H locs ls hP hS hlv => gBack (L := L) (st := st) (gRunV K (as := [v1]) (k := k) (i := i) hc hm hi hk ho hl hf (hlv.1.trans hL) hst hP hS dd) hS hlv kk
theorem x_callV1x (K : gK X E M D n) {N : gMt} {d n' idx k i : Nat} {v1 : gV} {C : String} (hc : gCt E N d n' (.inr (k, i) :: [v1]) σ (.inr C) σ') (hm : gMth N 1) (hi : gMthI N) (hk : gRc k N.1.cls) (ho : gOk k i) (hl : gLk M.1.cls idx N.1) (hf : gFit D d n cells slots n') (hL : L.length = M.2.2.1) (hst : gCats st ≤ 8) (dd : decode M.2.1 pc = .ok (.invokevirtual idx, 3)) (hE : gEnd X E n (.inr C) σ') : gWX X E cells slots pc L (v1 :: .inr (k, i) :: st) σ :=
  fun H locs ls hP hS hlv => gBackX K (st := st) (gRunV K (as := [v1]) (k := k) (i := i) hc hm hi hk ho hl hf (hlv.1.trans hL) hst hP hS dd) hS hE hf.2.1 hf.2.2
theorem x_callS1 (K : gK X E M D n) {N : gMt} {d n' idx : Nat} {v1 : gV} {r : gV} (hc : gCt E N d n' ([v1]) σ (.inl (some r)) σ') (hm : gMth N 1) (hi : Cond.static N.1 ∈ lw_tbl) (hl : gLk M.1.cls idx N.1) (hf : gFit D d n cells slots n') (hL : L.length = M.2.2.1) (hst : gCats st ≤ 8) (dd : decode M.2.1 pc = .ok (.invokestatic idx, 3)) (kk : gWX X E (cells + n') (slots + 6 * n') (pc + 3) L (r :: st) σ') : gWX X E cells slots pc L (v1 :: st) σ :=
  fun H locs ls hP hS hlv => gBack (L := L) (st := st) (gRunS K (as := [v1]) hc hm hi hl hf (hlv.1.trans hL) hst hP hS dd) hS hlv kk
theorem x_callS1v (K : gK X E M D n) {N : gMt} {d n' idx : Nat} {v1 : gV} (hc : gCt E N d n' ([v1]) σ (.inl none) σ') (hm : gMth N 1) (hi : Cond.static N.1 ∈ lw_tbl) (hl : gLk M.1.cls idx N.1) (hf : gFit D d n cells slots n') (hL : L.length = M.2.2.1) (hst : gCats st ≤ 8) (dd : decode M.2.1 pc = .ok (.invokestatic idx, 3)) (kk : gWX X E (cells + n') (slots + 6 * n') (pc + 3) L st σ') : gWX X E cells slots pc L (v1 :: st) σ :=
  fun H locs ls hP hS hlv => gBack (L := L) (st := st) (gRunS K (as := [v1]) hc hm hi hl hf (hlv.1.trans hL) hst hP hS dd) hS hlv kk
theorem x_callS1x (K : gK X E M D n) {N : gMt} {d n' idx : Nat} {v1 : gV} {C : String} (hc : gCt E N d n' ([v1]) σ (.inr C) σ') (hm : gMth N 1) (hi : Cond.static N.1 ∈ lw_tbl) (hl : gLk M.1.cls idx N.1) (hf : gFit D d n cells slots n') (hL : L.length = M.2.2.1) (hst : gCats st ≤ 8) (dd : decode M.2.1 pc = .ok (.invokestatic idx, 3)) (hE : gEnd X E n (.inr C) σ') : gWX X E cells slots pc L (v1 :: st) σ :=
  fun H locs ls hP hS hlv => gBackX K (st := st) (gRunS K (as := [v1]) hc hm hi hl hf (hlv.1.trans hL) hst hP hS dd) hS hE hf.2.1 hf.2.2
theorem x_callV2 (K : gK X E M D n) {N : gMt} {d n' idx k i : Nat} {v1 v2 : gV} {r : gV} (hc : gCt E N d n' (.inr (k, i) :: [v1, v2]) σ (.inl (some r)) σ') (hm : gMth N 2) (hi : gMthI N) (hk : gRc k N.1.cls) (ho : gOk k i) (hl : gLk M.1.cls idx N.1) (hf : gFit D d n cells slots n') (hL : L.length = M.2.2.1) (hst : gCats st ≤ 8) (dd : decode M.2.1 pc = .ok (.invokevirtual idx, 3)) (kk : gWX X E (cells + n') (slots + 6 * n') (pc + 3) L (r :: st) σ') : gWX X E cells slots pc L (v2 :: v1 :: .inr (k, i) :: st) σ :=
  fun H locs ls hP hS hlv => gBack (L := L) (st := st) (gRunV K (as := [v1, v2]) (k := k) (i := i) hc hm hi hk ho hl hf (hlv.1.trans hL) hst hP hS dd) hS hlv kk
theorem x_callV2v (K : gK X E M D n) {N : gMt} {d n' idx k i : Nat} {v1 v2 : gV} (hc : gCt E N d n' (.inr (k, i) :: [v1, v2]) σ (.inl none) σ') (hm : gMth N 2) (hi : gMthI N) (hk : gRc k N.1.cls) (ho : gOk k i) (hl : gLk M.1.cls idx N.1) (hf : gFit D d n cells slots n') (hL : L.length = M.2.2.1) (hst : gCats st ≤ 8) (dd : decode M.2.1 pc = .ok (.invokevirtual idx, 3)) (kk : gWX X E (cells + n') (slots + 6 * n') (pc + 3) L st σ') : gWX X E cells slots pc L (v2 :: v1 :: .inr (k, i) :: st) σ :=
  fun H locs ls hP hS hlv => gBack (L := L) (st := st) (gRunV K (as := [v1, v2]) (k := k) (i := i) hc hm hi hk ho hl hf (hlv.1.trans hL) hst hP hS dd) hS hlv kk
theorem x_callV2x (K : gK X E M D n) {N : gMt} {d n' idx k i : Nat} {v1 v2 : gV} {C : String} (hc : gCt E N d n' (.inr (k, i) :: [v1, v2]) σ (.inr C) σ') (hm : gMth N 2) (hi : gMthI N) (hk : gRc k N.1.cls) (ho : gOk k i) (hl : gLk M.1.cls idx N.1) (hf : gFit D d n cells slots n') (hL : L.length = M.2.2.1) (hst : gCats st ≤ 8) (dd : decode M.2.1 pc = .ok (.invokevirtual idx, 3)) (hE : gEnd X E n (.inr C) σ') : gWX X E cells slots pc L (v2 :: v1 :: .inr (k, i) :: st) σ :=
  fun H locs ls hP hS hlv => gBackX K (st := st) (gRunV K (as := [v1, v2]) (k := k) (i := i) hc hm hi hk ho hl hf (hlv.1.trans hL) hst hP hS dd) hS hE hf.2.1 hf.2.2
theorem x_callS2 (K : gK X E M D n) {N : gMt} {d n' idx : Nat} {v1 v2 : gV} {r : gV} (hc : gCt E N d n' ([v1, v2]) σ (.inl (some r)) σ') (hm : gMth N 2) (hi : Cond.static N.1 ∈ lw_tbl) (hl : gLk M.1.cls idx N.1) (hf : gFit D d n cells slots n') (hL : L.length = M.2.2.1) (hst : gCats st ≤ 8) (dd : decode M.2.1 pc = .ok (.invokestatic idx, 3)) (kk : gWX X E (cells + n') (slots + 6 * n') (pc + 3) L (r :: st) σ') : gWX X E cells slots pc L (v2 :: v1 :: st) σ :=
  fun H locs ls hP hS hlv => gBack (L := L) (st := st) (gRunS K (as := [v1, v2]) hc hm hi hl hf (hlv.1.trans hL) hst hP hS dd) hS hlv kk
theorem x_callS2v (K : gK X E M D n) {N : gMt} {d n' idx : Nat} {v1 v2 : gV} (hc : gCt E N d n' ([v1, v2]) σ (.inl none) σ') (hm : gMth N 2) (hi : Cond.static N.1 ∈ lw_tbl) (hl : gLk M.1.cls idx N.1) (hf : gFit D d n cells slots n') (hL : L.length = M.2.2.1) (hst : gCats st ≤ 8) (dd : decode M.2.1 pc = .ok (.invokestatic idx, 3)) (kk : gWX X E (cells + n') (slots + 6 * n') (pc + 3) L st σ') : gWX X E cells slots pc L (v2 :: v1 :: st) σ :=
  fun H locs ls hP hS hlv => gBack (L := L) (st := st) (gRunS K (as := [v1, v2]) hc hm hi hl hf (hlv.1.trans hL) hst hP hS dd) hS hlv kk
theorem x_callS2x (K : gK X E M D n) {N : gMt} {d n' idx : Nat} {v1 v2 : gV} {C : String} (hc : gCt E N d n' ([v1, v2]) σ (.inr C) σ') (hm : gMth N 2) (hi : Cond.static N.1 ∈ lw_tbl) (hl : gLk M.1.cls idx N.1) (hf : gFit D d n cells slots n') (hL : L.length = M.2.2.1) (hst : gCats st ≤ 8) (dd : decode M.2.1 pc = .ok (.invokestatic idx, 3)) (hE : gEnd X E n (.inr C) σ') : gWX X E cells slots pc L (v2 :: v1 :: st) σ :=
  fun H locs ls hP hS hlv => gBackX K (st := st) (gRunS K (as := [v1, v2]) hc hm hi hl hf (hlv.1.trans hL) hst hP hS dd) hS hE hf.2.1 hf.2.2
theorem x_callV3 (K : gK X E M D n) {N : gMt} {d n' idx k i : Nat} {v1 v2 v3 : gV} {r : gV} (hc : gCt E N d n' (.inr (k, i) :: [v1, v2, v3]) σ (.inl (some r)) σ') (hm : gMth N 3) (hi : gMthI N) (hk : gRc k N.1.cls) (ho : gOk k i) (hl : gLk M.1.cls idx N.1) (hf : gFit D d n cells slots n') (hL : L.length = M.2.2.1) (hst : gCats st ≤ 8) (dd : decode M.2.1 pc = .ok (.invokevirtual idx, 3)) (kk : gWX X E (cells + n') (slots + 6 * n') (pc + 3) L (r :: st) σ') : gWX X E cells slots pc L (v3 :: v2 :: v1 :: .inr (k, i) :: st) σ :=
  fun H locs ls hP hS hlv => gBack (L := L) (st := st) (gRunV K (as := [v1, v2, v3]) (k := k) (i := i) hc hm hi hk ho hl hf (hlv.1.trans hL) hst hP hS dd) hS hlv kk
theorem x_callV3v (K : gK X E M D n) {N : gMt} {d n' idx k i : Nat} {v1 v2 v3 : gV} (hc : gCt E N d n' (.inr (k, i) :: [v1, v2, v3]) σ (.inl none) σ') (hm : gMth N 3) (hi : gMthI N) (hk : gRc k N.1.cls) (ho : gOk k i) (hl : gLk M.1.cls idx N.1) (hf : gFit D d n cells slots n') (hL : L.length = M.2.2.1) (hst : gCats st ≤ 8) (dd : decode M.2.1 pc = .ok (.invokevirtual idx, 3)) (kk : gWX X E (cells + n') (slots + 6 * n') (pc + 3) L st σ') : gWX X E cells slots pc L (v3 :: v2 :: v1 :: .inr (k, i) :: st) σ :=
  fun H locs ls hP hS hlv => gBack (L := L) (st := st) (gRunV K (as := [v1, v2, v3]) (k := k) (i := i) hc hm hi hk ho hl hf (hlv.1.trans hL) hst hP hS dd) hS hlv kk
theorem x_callV3x (K : gK X E M D n) {N : gMt} {d n' idx k i : Nat} {v1 v2 v3 : gV} {C : String} (hc : gCt E N d n' (.inr (k, i) :: [v1, v2, v3]) σ (.inr C) σ') (hm : gMth N 3) (hi : gMthI N) (hk : gRc k N.1.cls) (ho : gOk k i) (hl : gLk M.1.cls idx N.1) (hf : gFit D d n cells slots n') (hL : L.length = M.2.2.1) (hst : gCats st ≤ 8) (dd : decode M.2.1 pc = .ok (.invokevirtual idx, 3)) (hE : gEnd X E n (.inr C) σ') : gWX X E cells slots pc L (v3 :: v2 :: v1 :: .inr (k, i) :: st) σ :=
  fun H locs ls hP hS hlv => gBackX K (st := st) (gRunV K (as := [v1, v2, v3]) (k := k) (i := i) hc hm hi hk ho hl hf (hlv.1.trans hL) hst hP hS dd) hS hE hf.2.1 hf.2.2
theorem x_callS3 (K : gK X E M D n) {N : gMt} {d n' idx : Nat} {v1 v2 v3 : gV} {r : gV} (hc : gCt E N d n' ([v1, v2, v3]) σ (.inl (some r)) σ') (hm : gMth N 3) (hi : Cond.static N.1 ∈ lw_tbl) (hl : gLk M.1.cls idx N.1) (hf : gFit D d n cells slots n') (hL : L.length = M.2.2.1) (hst : gCats st ≤ 8) (dd : decode M.2.1 pc = .ok (.invokestatic idx, 3)) (kk : gWX X E (cells + n') (slots + 6 * n') (pc + 3) L (r :: st) σ') : gWX X E cells slots pc L (v3 :: v2 :: v1 :: st) σ :=
  fun H locs ls hP hS hlv => gBack (L := L) (st := st) (gRunS K (as := [v1, v2, v3]) hc hm hi hl hf (hlv.1.trans hL) hst hP hS dd) hS hlv kk
theorem x_callS3v (K : gK X E M D n) {N : gMt} {d n' idx : Nat} {v1 v2 v3 : gV} (hc : gCt E N d n' ([v1, v2, v3]) σ (.inl none) σ') (hm : gMth N 3) (hi : Cond.static N.1 ∈ lw_tbl) (hl : gLk M.1.cls idx N.1) (hf : gFit D d n cells slots n') (hL : L.length = M.2.2.1) (hst : gCats st ≤ 8) (dd : decode M.2.1 pc = .ok (.invokestatic idx, 3)) (kk : gWX X E (cells + n') (slots + 6 * n') (pc + 3) L st σ') : gWX X E cells slots pc L (v3 :: v2 :: v1 :: st) σ :=
  fun H locs ls hP hS hlv => gBack (L := L) (st := st) (gRunS K (as := [v1, v2, v3]) hc hm hi hl hf (hlv.1.trans hL) hst hP hS dd) hS hlv kk
theorem x_callS3x (K : gK X E M D n) {N : gMt} {d n' idx : Nat} {v1 v2 v3 : gV} {C : String} (hc : gCt E N d n' ([v1, v2, v3]) σ (.inr C) σ') (hm : gMth N 3) (hi : Cond.static N.1 ∈ lw_tbl) (hl : gLk M.1.cls idx N.1) (hf : gFit D d n cells slots n') (hL : L.length = M.2.2.1) (hst : gCats st ≤ 8) (dd : decode M.2.1 pc = .ok (.invokestatic idx, 3)) (hE : gEnd X E n (.inr C) σ') : gWX X E cells slots pc L (v3 :: v2 :: v1 :: st) σ :=
  fun H locs ls hP hS hlv => gBackX K (st := st) (gRunS K (as := [v1, v2, v3]) hc hm hi hl hf (hlv.1.trans hL) hst hP hS dd) hS hE hf.2.1 hf.2.2
theorem x_callV4 (K : gK X E M D n) {N : gMt} {d n' idx k i : Nat} {v1 v2 v3 v4 : gV} {r : gV} (hc : gCt E N d n' (.inr (k, i) :: [v1, v2, v3, v4]) σ (.inl (some r)) σ') (hm : gMth N 4) (hi : gMthI N) (hk : gRc k N.1.cls) (ho : gOk k i) (hl : gLk M.1.cls idx N.1) (hf : gFit D d n cells slots n') (hL : L.length = M.2.2.1) (hst : gCats st ≤ 8) (dd : decode M.2.1 pc = .ok (.invokevirtual idx, 3)) (kk : gWX X E (cells + n') (slots + 6 * n') (pc + 3) L (r :: st) σ') : gWX X E cells slots pc L (v4 :: v3 :: v2 :: v1 :: .inr (k, i) :: st) σ :=
  fun H locs ls hP hS hlv => gBack (L := L) (st := st) (gRunV K (as := [v1, v2, v3, v4]) (k := k) (i := i) hc hm hi hk ho hl hf (hlv.1.trans hL) hst hP hS dd) hS hlv kk
theorem x_callV4v (K : gK X E M D n) {N : gMt} {d n' idx k i : Nat} {v1 v2 v3 v4 : gV} (hc : gCt E N d n' (.inr (k, i) :: [v1, v2, v3, v4]) σ (.inl none) σ') (hm : gMth N 4) (hi : gMthI N) (hk : gRc k N.1.cls) (ho : gOk k i) (hl : gLk M.1.cls idx N.1) (hf : gFit D d n cells slots n') (hL : L.length = M.2.2.1) (hst : gCats st ≤ 8) (dd : decode M.2.1 pc = .ok (.invokevirtual idx, 3)) (kk : gWX X E (cells + n') (slots + 6 * n') (pc + 3) L st σ') : gWX X E cells slots pc L (v4 :: v3 :: v2 :: v1 :: .inr (k, i) :: st) σ :=
  fun H locs ls hP hS hlv => gBack (L := L) (st := st) (gRunV K (as := [v1, v2, v3, v4]) (k := k) (i := i) hc hm hi hk ho hl hf (hlv.1.trans hL) hst hP hS dd) hS hlv kk
theorem x_callV4x (K : gK X E M D n) {N : gMt} {d n' idx k i : Nat} {v1 v2 v3 v4 : gV} {C : String} (hc : gCt E N d n' (.inr (k, i) :: [v1, v2, v3, v4]) σ (.inr C) σ') (hm : gMth N 4) (hi : gMthI N) (hk : gRc k N.1.cls) (ho : gOk k i) (hl : gLk M.1.cls idx N.1) (hf : gFit D d n cells slots n') (hL : L.length = M.2.2.1) (hst : gCats st ≤ 8) (dd : decode M.2.1 pc = .ok (.invokevirtual idx, 3)) (hE : gEnd X E n (.inr C) σ') : gWX X E cells slots pc L (v4 :: v3 :: v2 :: v1 :: .inr (k, i) :: st) σ :=
  fun H locs ls hP hS hlv => gBackX K (st := st) (gRunV K (as := [v1, v2, v3, v4]) (k := k) (i := i) hc hm hi hk ho hl hf (hlv.1.trans hL) hst hP hS dd) hS hE hf.2.1 hf.2.2
theorem x_callS4 (K : gK X E M D n) {N : gMt} {d n' idx : Nat} {v1 v2 v3 v4 : gV} {r : gV} (hc : gCt E N d n' ([v1, v2, v3, v4]) σ (.inl (some r)) σ') (hm : gMth N 4) (hi : Cond.static N.1 ∈ lw_tbl) (hl : gLk M.1.cls idx N.1) (hf : gFit D d n cells slots n') (hL : L.length = M.2.2.1) (hst : gCats st ≤ 8) (dd : decode M.2.1 pc = .ok (.invokestatic idx, 3)) (kk : gWX X E (cells + n') (slots + 6 * n') (pc + 3) L (r :: st) σ') : gWX X E cells slots pc L (v4 :: v3 :: v2 :: v1 :: st) σ :=
  fun H locs ls hP hS hlv => gBack (L := L) (st := st) (gRunS K (as := [v1, v2, v3, v4]) hc hm hi hl hf (hlv.1.trans hL) hst hP hS dd) hS hlv kk
theorem x_callS4v (K : gK X E M D n) {N : gMt} {d n' idx : Nat} {v1 v2 v3 v4 : gV} (hc : gCt E N d n' ([v1, v2, v3, v4]) σ (.inl none) σ') (hm : gMth N 4) (hi : Cond.static N.1 ∈ lw_tbl) (hl : gLk M.1.cls idx N.1) (hf : gFit D d n cells slots n') (hL : L.length = M.2.2.1) (hst : gCats st ≤ 8) (dd : decode M.2.1 pc = .ok (.invokestatic idx, 3)) (kk : gWX X E (cells + n') (slots + 6 * n') (pc + 3) L st σ') : gWX X E cells slots pc L (v4 :: v3 :: v2 :: v1 :: st) σ :=
  fun H locs ls hP hS hlv => gBack (L := L) (st := st) (gRunS K (as := [v1, v2, v3, v4]) hc hm hi hl hf (hlv.1.trans hL) hst hP hS dd) hS hlv kk
theorem x_callS4x (K : gK X E M D n) {N : gMt} {d n' idx : Nat} {v1 v2 v3 v4 : gV} {C : String} (hc : gCt E N d n' ([v1, v2, v3, v4]) σ (.inr C) σ') (hm : gMth N 4) (hi : Cond.static N.1 ∈ lw_tbl) (hl : gLk M.1.cls idx N.1) (hf : gFit D d n cells slots n') (hL : L.length = M.2.2.1) (hst : gCats st ≤ 8) (dd : decode M.2.1 pc = .ok (.invokestatic idx, 3)) (hE : gEnd X E n (.inr C) σ') : gWX X E cells slots pc L (v4 :: v3 :: v2 :: v1 :: st) σ :=
  fun H locs ls hP hS hlv => gBackX K (st := st) (gRunS K (as := [v1, v2, v3, v4]) hc hm hi hl hf (hlv.1.trans hL) hst hP hS dd) hS hE hf.2.1 hf.2.2
theorem x_callV5 (K : gK X E M D n) {N : gMt} {d n' idx k i : Nat} {v1 v2 v3 v4 v5 : gV} {r : gV} (hc : gCt E N d n' (.inr (k, i) :: [v1, v2, v3, v4, v5]) σ (.inl (some r)) σ') (hm : gMth N 5) (hi : gMthI N) (hk : gRc k N.1.cls) (ho : gOk k i) (hl : gLk M.1.cls idx N.1) (hf : gFit D d n cells slots n') (hL : L.length = M.2.2.1) (hst : gCats st ≤ 8) (dd : decode M.2.1 pc = .ok (.invokevirtual idx, 3)) (kk : gWX X E (cells + n') (slots + 6 * n') (pc + 3) L (r :: st) σ') : gWX X E cells slots pc L (v5 :: v4 :: v3 :: v2 :: v1 :: .inr (k, i) :: st) σ :=
  fun H locs ls hP hS hlv => gBack (L := L) (st := st) (gRunV K (as := [v1, v2, v3, v4, v5]) (k := k) (i := i) hc hm hi hk ho hl hf (hlv.1.trans hL) hst hP hS dd) hS hlv kk
theorem x_callV5v (K : gK X E M D n) {N : gMt} {d n' idx k i : Nat} {v1 v2 v3 v4 v5 : gV} (hc : gCt E N d n' (.inr (k, i) :: [v1, v2, v3, v4, v5]) σ (.inl none) σ') (hm : gMth N 5) (hi : gMthI N) (hk : gRc k N.1.cls) (ho : gOk k i) (hl : gLk M.1.cls idx N.1) (hf : gFit D d n cells slots n') (hL : L.length = M.2.2.1) (hst : gCats st ≤ 8) (dd : decode M.2.1 pc = .ok (.invokevirtual idx, 3)) (kk : gWX X E (cells + n') (slots + 6 * n') (pc + 3) L st σ') : gWX X E cells slots pc L (v5 :: v4 :: v3 :: v2 :: v1 :: .inr (k, i) :: st) σ :=
  fun H locs ls hP hS hlv => gBack (L := L) (st := st) (gRunV K (as := [v1, v2, v3, v4, v5]) (k := k) (i := i) hc hm hi hk ho hl hf (hlv.1.trans hL) hst hP hS dd) hS hlv kk
theorem x_callV5x (K : gK X E M D n) {N : gMt} {d n' idx k i : Nat} {v1 v2 v3 v4 v5 : gV} {C : String} (hc : gCt E N d n' (.inr (k, i) :: [v1, v2, v3, v4, v5]) σ (.inr C) σ') (hm : gMth N 5) (hi : gMthI N) (hk : gRc k N.1.cls) (ho : gOk k i) (hl : gLk M.1.cls idx N.1) (hf : gFit D d n cells slots n') (hL : L.length = M.2.2.1) (hst : gCats st ≤ 8) (dd : decode M.2.1 pc = .ok (.invokevirtual idx, 3)) (hE : gEnd X E n (.inr C) σ') : gWX X E cells slots pc L (v5 :: v4 :: v3 :: v2 :: v1 :: .inr (k, i) :: st) σ :=
  fun H locs ls hP hS hlv => gBackX K (st := st) (gRunV K (as := [v1, v2, v3, v4, v5]) (k := k) (i := i) hc hm hi hk ho hl hf (hlv.1.trans hL) hst hP hS dd) hS hE hf.2.1 hf.2.2
theorem x_callS5 (K : gK X E M D n) {N : gMt} {d n' idx : Nat} {v1 v2 v3 v4 v5 : gV} {r : gV} (hc : gCt E N d n' ([v1, v2, v3, v4, v5]) σ (.inl (some r)) σ') (hm : gMth N 5) (hi : Cond.static N.1 ∈ lw_tbl) (hl : gLk M.1.cls idx N.1) (hf : gFit D d n cells slots n') (hL : L.length = M.2.2.1) (hst : gCats st ≤ 8) (dd : decode M.2.1 pc = .ok (.invokestatic idx, 3)) (kk : gWX X E (cells + n') (slots + 6 * n') (pc + 3) L (r :: st) σ') : gWX X E cells slots pc L (v5 :: v4 :: v3 :: v2 :: v1 :: st) σ :=
  fun H locs ls hP hS hlv => gBack (L := L) (st := st) (gRunS K (as := [v1, v2, v3, v4, v5]) hc hm hi hl hf (hlv.1.trans hL) hst hP hS dd) hS hlv kk
theorem x_callS5v (K : gK X E M D n) {N : gMt} {d n' idx : Nat} {v1 v2 v3 v4 v5 : gV} (hc : gCt E N d n' ([v1, v2, v3, v4, v5]) σ (.inl none) σ') (hm : gMth N 5) (hi : Cond.static N.1 ∈ lw_tbl) (hl : gLk M.1.cls idx N.1) (hf : gFit D d n cells slots n') (hL : L.length = M.2.2.1) (hst : gCats st ≤ 8) (dd : decode M.2.1 pc = .ok (.invokestatic idx, 3)) (kk : gWX X E (cells + n') (slots + 6 * n') (pc + 3) L st σ') : gWX X E cells slots pc L (v5 :: v4 :: v3 :: v2 :: v1 :: st) σ :=
  fun H locs ls hP hS hlv => gBack (L := L) (st := st) (gRunS K (as := [v1, v2, v3, v4, v5]) hc hm hi hl hf (hlv.1.trans hL) hst hP hS dd) hS hlv kk
theorem x_callS5x (K : gK X E M D n) {N : gMt} {d n' idx : Nat} {v1 v2 v3 v4 v5 : gV} {C : String} (hc : gCt E N d n' ([v1, v2, v3, v4, v5]) σ (.inr C) σ') (hm : gMth N 5) (hi : Cond.static N.1 ∈ lw_tbl) (hl : gLk M.1.cls idx N.1) (hf : gFit D d n cells slots n') (hL : L.length = M.2.2.1) (hst : gCats st ≤ 8) (dd : decode M.2.1 pc = .ok (.invokestatic idx, 3)) (hE : gEnd X E n (.inr C) σ') : gWX X E cells slots pc L (v5 :: v4 :: v3 :: v2 :: v1 :: st) σ :=
  fun H locs ls hP hS hlv => gBackX K (st := st) (gRunS K (as := [v1, v2, v3, v4, v5]) hc hm hi hl hf (hlv.1.trans hL) hst hP hS dd) hS hE hf.2.1 hf.2.2
end GQ
