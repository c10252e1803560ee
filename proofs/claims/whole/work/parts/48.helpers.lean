/-! ===== the law's helpers: a call, and what it throws caught ===== -/
def hK (hh : List (Nat × Nat × Nat × Nat)) (X : gM) (E : gE) (M : gMt) (D n : Nat) : Prop :=
  X.1.tables.exec = Jvm.exec ∧ X.2.2.2.2.2.2.2.2.2.1.code = M.2.1 ∧ X.2.2.2.2.2.2.2.2.2.1.maxLocals = M.2.2.1 ∧ X.2.2.2.2.1.vm.findClass M.1.cls = some X.2.2.2.2.2.1.cls ∧ gN E X.2.2.2.2.1 X.2.2.2.2.1.heap ∧ X.2.2.2.2.2.2.2.2.1.locks = false ∧ X.2.1 = gL E ∧
  X.2.2.2.2.2.2.2.2.1.sig.returnType = M.2.2.2 ∧ X.2.2.2.2.2.2.2.2.2.1.exceptionTable.toList = tableOf hh ∧ X.2.2.2.1 = ({ frames := D, cells := n, slots := 6 * n, locals := 64 * D } : Room)
def hCt (E : gE) (M : gMt) (hh : List (Nat × Nat × Nat × Nat)) (D n : Nat) (as : List gV) (σ : gS) (o : gO) (σ' : gS) : Prop :=
  vx_Met (gL E) M.1 [Cond.codeWith M.1 M.2.1 M.2.2.1 M.2.2.2 hh] (gRm D n) (va_Pc (as.map (gc E)) (gI E σ)) (gQr E o σ') (gQx E o σ') n (6 * n) (gA E)
theorem hCt_of {E : gE} {M : gMt} {hh : List (Nat × Nat × Nat × Nat)} {D n : Nat} {as : List gV} {σ σ' : gS} {o : gO} (L : List (Option gV)) (hy : plainName M.1.cls = true) (h1 : as.all (fun v => gC1 (some v)) = true) (hL : L = as.map some ++ List.replicate (M.2.2.1 - as.length) none) (hlen : as.length ≤ M.2.2.1)
    (body : ∀ X : gM, hK hh X E M D n → gEnd X E n o σ' → gWX X E 0 0 0 L [] σ) : hCt E M hh D n as σ o σ' := by
  have h1' : ∀ v ∈ as, gC1 (some v) = true := List.all_eq_true.mp h1
  refine vx_ofWH (ws' := []) (cc := M.2.1) (maxL := M.2.2.1) (ret := M.2.2.2) (hh := hh) hy rfl ?_
  intro p e s m args below meth c s₁ B hml hv
  have hxt := vx_table (x := M.1) B (atoms_spec (ws := [Cond.codeWith M.1 M.2.1 M.2.2.1 M.2.2.2 hh]) B.pre _ List.mem_cons_self)
  obtain ⟨rfl, hN, hP⟩ := hv
  have hb := body (p, gL E, e, gRm D n, s, m, (as.map (gc E)).toArray, below, meth, c, vx_MQ below (gQr E o σ') (gQx E o σ') (as.map (gc E)).toArray s n (6 * n) (gA E)) ⟨B.exec, B.bytes, hml, findClass_of_methodNamed B.named, hN, B.notSynchronized, rfl, B.returns, hxt, rfl⟩ rfl
  have hsl := gSl (E := E) as h1'
  have hl := lv_entry (as.map (gc E)) (n := M.2.2.1) (by rw [hsl]; exact hlen)
  rw [lg_entry_eq]
  refine hb s.heap [] _ hP va_S.rf ?_
  have e1 : L.length = M.2.2.1 := by rw [hL]; simp; omega
  rw [e1, hL, gEntry as 0 _ h1']
  exact hl
theorem gNc {E : gE} {U : State} {H : Heap} (h : gN E U H) {C T : String} (hw : Cond.not (.castable C T) ∈ flatC gNar) : va_Nc C T U := va_Nc.moved h.2.1.alike (va_Nc.of (gNr h hw))
section GH
variable {X : gM} {E : gE} {M : gMt} {D n cells slots pc : Nat} {L : List (Option gV)} {st : List gV} {σ σ' : gS} {hh : List (Nat × Nat × Nat × Nat)}
theorem hRec {k i : Nat} {C : String} {H : Heap} (K : hK hh X E M D n) (hk : gRc k C) (ho : gOk k i) (hP : va_P (gD E) gCl (gW E σ) H) : ∃ cellB : Cell, H[gB E + gOff k i]? = some cellB ∧ cellB.vm.isStatics = false ∧ X.2.2.2.2.1.vm.findClass C = some cellB.cls := by
  obtain ⟨ci, q, h0, h1, h2, rfl⟩ := hk
  exact va_recv (gN_K K.2.2.2.2.1) hP (ci := ci) (q0 := gOff k i) h2 (by rw [gW_at ho, gEnt_obj h0 h1])
theorem hPc_at (K : hK hh X E M D n) {av : List Value} {H : Heap} {locs : List Loc} (hP : va_P (gD E) gCl (gW E σ) H) (hS : va_S (gA E) X.2.2.2.2.1.heap H locs) : ∀ U : State, U.heap = H → X.2.2.2.2.1.WarmedH U.vm → va_Pc av (gI E σ) av.toArray U := by
  intro U hU hW
  refine ⟨rfl, ?_, by rw [hU]; exact hP⟩
  rw [hU]
  exact gN_moved K.2.2.2.2.1 hW hS.1 hS.2.1
theorem hPay (K : hK hh X E M D n) {N : gMt} {k : Nat} (hm : gMth N k) : ∀ w ∈ [Cond.code N.1 N.2.1 N.2.2.1 N.2.2.2], ∀ (a' : Array Value) (U : State), X.2.2.2.2.1.WarmedH U.vm → w.before a' U = true := by
  intro w hw a' U hW
  rw [List.mem_singleton] at hw
  subst hw
  exact word_at hW (Or.inl rfl) (gN_word K.2.2.2.2.1 hm.1 rfl #[])
theorem hRunV (K : hK hh X E M D n) {N : gMt} {d n' idx k i : Nat} {as : List gV} {o : gO} {H : Heap} {locs : List Loc} {ls : Array Slot} (hc : gCt E N d n' (.inr (k, i) :: as) σ o σ') (hm : gMth N as.length) (hi : gMthI N) (hk : gRc k N.1.cls) (ho : gOk k i) (hl : gLk M.1.cls idx N.1) (hf : gFit D d n cells slots n') (hL : ls.size = M.2.2.1) (hst : gCats st ≤ 8) (hP : va_P (gD E) gCl (gW E σ) H) (hS : va_S (gA E) X.2.2.2.2.1.heap H locs) (dd : decode M.2.1 pc = .ok (.invokevirtual idx, 3)) :
    gRun X E H locs cells slots n' pc ls ((as.map (gc E)).reverse ++ .ref (gB E + gOff k i) :: st.map (gc E)) (st.map (gc E)) σ o σ' := by
  have hN := K.2.2.2.2.1
  have hR := K.2.2.2.2.2.2.2.2.2
  have h40 : 8 + (N.2.2.1 + 11) + 64 * d ≤ 64 * D := by have h1 := hm.2.2.2.2; have h2 := hf.1; omega
  unfold gCt at hc
  rw [← K.2.2.2.2.2.2.1] at hc
  have S : CallFix X.1 X.2.2.2.2.2.1 X.2.2.2.2.2.2.2.2.2.1 M.2.1 M.2.2.1 X.2.2.2.2.1 X.2.2.2.2.2.2.1 [] M.1.cls := ⟨K.1, K.2.1, K.2.2.1, K.2.2.2.1, fun w h => by cases h⟩
  have hp : PreV X.2.2.2.2.1 H N.1.cls (gB E + gOff k i) (va_Pc (List.map (gc E) (.inr (k, i) :: as)) (gI E σ)) (as.map (gc E)) := ⟨gPc_blind, hRec K hk ho hP, hPc_at K hP hS⟩
  have hW : 2 * (F0 X.2.2.2.2.2.1 pc ls ((as.map (gc E)).reverse ++ .ref (gB E + gOff k i) :: st.map (gc E))).monitorRoom + ((st.map (gc E)).map fun v => v.category).sum ≤ 8 := lv_room (Nat.le_trans (gCats_le st) hst)
  have hr : cells + n' ≤ X.2.2.2.1.cells ∧ slots + 6 * n' ≤ X.2.2.2.1.slots := by rw [hR]; exact hf.2
  rcases hl with hl | ⟨host, hl⟩
  · exact vx_runV S hc ⟨⟨rfl, rfl, by rw [hR]; exact hf.1, by rw [hR]; exact h40, hPay K hm, List.mem_singleton.mpr rfl, gN_word hN hm.1 rfl _, gN_word hN hm.2.1 rfl _, hm.2.2.1, gLen hm, gN_word hN hl rfl _⟩, gN_word hN hi.1 rfl _, gN_word hN hi.2 rfl _⟩ hp rfl (by rw [List.length_map]) hL rfl hW dd hr
  · exact vx_runVN S hc ⟨⟨⟨rfl, rfl, by rw [hR]; exact hf.1, by rw [hR]; exact h40, hPay K hm, List.mem_singleton.mpr rfl⟩, gN_word hN hm.1 rfl _, gN_word hN hm.2.1 rfl _, hm.2.2.1, gLen hm, gN_any hN hl rfl _⟩, gN_word hN hi.1 rfl _, gN_word hN hi.2 rfl _⟩ hp rfl (by rw [List.length_map]) hL rfl hW dd hr
theorem h_iconst (K : hK hh X E M D n) {z : Int} (d : decode M.2.1 pc = .ok (.iconst z, 1)) (k : gWX X E cells slots (pc + 1) L (iv z :: st) σ) : gWX X E cells slots pc L st σ :=
  fun H locs ls hP hS hl => lv_iconst K.1 K.2.1 (v := Int32.ofInt z) d rfl (k H locs ls hP hS hl)
theorem h_goto (K : hK hh X E M D n) {off : Int} {tgt : Nat} (d : decode M.2.1 pc = .ok (.goto off, 3)) (ht : (pc : Int) + off = (tgt : Int)) (k : gWX X E cells slots tgt L st σ) : gWX X E cells slots pc L st σ :=
  fun H locs ls hP hS hl => lv_goto K.1 K.2.1 d ht (k H locs ls hP hS hl)
theorem h_iret (K : hK hh X E M D n) {z z' : Int} (hE : gEnd X E n (.inl (some (iv z'))) σ') (hr : M.2.2.2 = some .int) (d : decode M.2.1 pc = .ok (.ireturn, 1)) (hc : cells ≤ n) (hs : slots ≤ 6 * n) (hz : z = z') (hσ : σ = σ') : gWX X E cells slots pc L [iv z] σ := by
  subst hz; subst hσ
  intro H locs ls hP hS hl
  unfold gW_
  rw [hE]
  refine vx_ret (W.widen hc hs ?_)
  exact W.iret K.1 K.2.1 (K.2.2.2.2.2.2.2.1.trans hr) (gEnd_ret rfl K.2.2.2.2.1 hP hS) hS.2.2 d K.2.2.2.2.2.1
theorem h_if_eq (K : hK hh X E M D n) {a : Int} {off : Int} {tgt : Nat} (h : -2147483648 ≤ a ∧ a < 2147483648) (d : decode M.2.1 pc = .ok (.ifCond .eq off, 3)) (ht : (pc : Int) + off = (tgt : Int)) (kt : a = 0 → gWX X E cells slots tgt L st σ) (kf : ¬ a = 0 → gWX X E cells slots (pc + 3) L st σ) : gWX X E cells slots pc L (iv a :: st) σ :=
  fun H locs ls hP hS hl => lv_if_eq K.1 K.2.1 d ht (fun q => kt ((g_eq0 h).mp q) H locs ls hP hS hl) (fun q => kf (fun z => q ((g_eq0 h).mpr z)) H locs ls hP hS hl)
theorem h_iload_1 (K : hK hh X E M D n) {a0 : Option gV} {v : Int32} {t : List (Option gV)} (d : decode M.2.1 pc = .ok (.iload_n 1, 1)) (k : gWX X E cells slots (pc + 1) (a0 :: some (.inl (.int v)) :: t) (.inl (.int v) :: st) σ) : gWX X E cells slots pc (a0 :: some (.inl (.int v)) :: t) st σ :=
  fun H locs ls hP hS hl => lv_iload_n K.1 K.2.1 d rfl (gLd (i := 1) hl rfl) (k H locs ls hP hS hl)
theorem h_iload_2 (K : hK hh X E M D n) {a0 a1 : Option gV} {v : Int32} {t : List (Option gV)} (d : decode M.2.1 pc = .ok (.iload_n 2, 1)) (k : gWX X E cells slots (pc + 1) (a0 :: a1 :: some (.inl (.int v)) :: t) (.inl (.int v) :: st) σ) : gWX X E cells slots pc (a0 :: a1 :: some (.inl (.int v)) :: t) st σ :=
  fun H locs ls hP hS hl => lv_iload_n K.1 K.2.1 d rfl (gLd (i := 2) hl rfl) (k H locs ls hP hS hl)
theorem h_iload_3 (K : hK hh X E M D n) {a0 a1 a2 : Option gV} {v : Int32} {t : List (Option gV)} (d : decode M.2.1 pc = .ok (.iload_n 3, 1)) (k : gWX X E cells slots (pc + 1) (a0 :: a1 :: a2 :: some (.inl (.int v)) :: t) (.inl (.int v) :: st) σ) : gWX X E cells slots pc (a0 :: a1 :: a2 :: some (.inl (.int v)) :: t) st σ :=
  fun H locs ls hP hS hl => lv_iload_n K.1 K.2.1 d rfl (gLd (i := 3) hl rfl) (k H locs ls hP hS hl)
theorem h_iload_4 (K : hK hh X E M D n) {a0 a1 a2 a3 : Option gV} {v : Int32} {t : List (Option gV)} (d : decode M.2.1 pc = .ok (.iload 4, 2)) (k : gWX X E cells slots (pc + 2) (a0 :: a1 :: a2 :: a3 :: some (.inl (.int v)) :: t) (.inl (.int v) :: st) σ) : gWX X E cells slots pc (a0 :: a1 :: a2 :: a3 :: some (.inl (.int v)) :: t) st σ :=
  fun H locs ls hP hS hl => lv_iload K.1 K.2.1 d (gLd (i := 4) hl rfl) (k H locs ls hP hS hl)
theorem h_aload_0 (K : hK hh X E M D n) {q : Nat × Nat} {t : List (Option gV)} (d : decode M.2.1 pc = .ok (.aload_n 0, 1)) (k : gWX X E cells slots (pc + 1) (some (.inr q) :: t) (.inr q :: st) σ) : gWX X E cells slots pc (some (.inr q) :: t) st σ :=
  fun H locs ls hP hS hl => lv_aload_n K.1 K.2.1 d rfl (gLd (i := 0) hl rfl) (k H locs ls hP hS hl)
theorem h_aload_1 (K : hK hh X E M D n) {a0 : Option gV} {q : Nat × Nat} {t : List (Option gV)} (d : decode M.2.1 pc = .ok (.aload_n 1, 1)) (k : gWX X E cells slots (pc + 1) (a0 :: some (.inr q) :: t) (.inr q :: st) σ) : gWX X E cells slots pc (a0 :: some (.inr q) :: t) st σ :=
  fun H locs ls hP hS hl => lv_aload_n K.1 K.2.1 d rfl (gLd (i := 1) hl rfl) (k H locs ls hP hS hl)
theorem h_aload_2 (K : hK hh X E M D n) {a0 a1 : Option gV} {q : Nat × Nat} {t : List (Option gV)} (d : decode M.2.1 pc = .ok (.aload_n 2, 1)) (k : gWX X E cells slots (pc + 1) (a0 :: a1 :: some (.inr q) :: t) (.inr q :: st) σ) : gWX X E cells slots pc (a0 :: a1 :: some (.inr q) :: t) st σ :=
  fun H locs ls hP hS hl => lv_aload_n K.1 K.2.1 d rfl (gLd (i := 2) hl rfl) (k H locs ls hP hS hl)
theorem h_aload_3 (K : hK hh X E M D n) {a0 a1 a2 : Option gV} {q : Nat × Nat} {t : List (Option gV)} (d : decode M.2.1 pc = .ok (.aload_n 3, 1)) (k : gWX X E cells slots (pc + 1) (a0 :: a1 :: a2 :: some (.inr q) :: t) (.inr q :: st) σ) : gWX X E cells slots pc (a0 :: a1 :: a2 :: some (.inr q) :: t) st σ :=
  fun H locs ls hP hS hl => lv_aload_n K.1 K.2.1 d rfl (gLd (i := 3) hl rfl) (k H locs ls hP hS hl)
theorem h_aload_4 (K : hK hh X E M D n) {a0 a1 a2 a3 : Option gV} {q : Nat × Nat} {t : List (Option gV)} (d : decode M.2.1 pc = .ok (.aload 4, 2)) (k : gWX X E cells slots (pc + 2) (a0 :: a1 :: a2 :: a3 :: some (.inr q) :: t) (.inr q :: st) σ) : gWX X E cells slots pc (a0 :: a1 :: a2 :: a3 :: some (.inr q) :: t) st σ :=
  fun H locs ls hP hS hl => lv_aload K.1 K.2.1 d (gLd (i := 4) hl rfl) (k H locs ls hP hS hl)
theorem h_aload_5 (K : hK hh X E M D n) {a0 a1 a2 a3 a4 : Option gV} {q : Nat × Nat} {t : List (Option gV)} (d : decode M.2.1 pc = .ok (.aload 5, 2)) (k : gWX X E cells slots (pc + 2) (a0 :: a1 :: a2 :: a3 :: a4 :: some (.inr q) :: t) (.inr q :: st) σ) : gWX X E cells slots pc (a0 :: a1 :: a2 :: a3 :: a4 :: some (.inr q) :: t) st σ :=
  fun H locs ls hP hS hl => lv_aload K.1 K.2.1 d (gLd (i := 5) hl rfl) (k H locs ls hP hS hl)
theorem h_astorec_2 (K : hK hh X E M D n) {a0 a1 x : Option gV} {q : Nat} {t : List (Option gV)} (d : decode M.2.1 pc = .ok (.astore_n 2, 1)) (h1 : gC1 a1 = true) (k : gWX X E cells slots (pc + 1) (a0 :: a1 :: some (.inl (.ref q)) :: t) st σ) : gWX X E cells slots pc (a0 :: a1 :: x :: t) (.inl (.ref q) :: st) σ :=
  fun H locs ls hP hS hl => lv_astore_n K.1 K.2.1 d rfl hl (by simp only [List.length_cons]; show 2 < _; omega) rfl (fun ls' hl' => k H locs ls' hP hS (gSt1 (E := E) (L := a0 :: a1 :: x :: t) (i := 2) (v := .inl (.ref q)) hl' h1))
theorem h_astorec_3 (K : hK hh X E M D n) {a0 a1 a2 x : Option gV} {q : Nat} {t : List (Option gV)} (d : decode M.2.1 pc = .ok (.astore_n 3, 1)) (h1 : gC1 a2 = true) (k : gWX X E cells slots (pc + 1) (a0 :: a1 :: a2 :: some (.inl (.ref q)) :: t) st σ) : gWX X E cells slots pc (a0 :: a1 :: a2 :: x :: t) (.inl (.ref q) :: st) σ :=
  fun H locs ls hP hS hl => lv_astore_n K.1 K.2.1 d rfl hl (by simp only [List.length_cons]; show 3 < _; omega) rfl (fun ls' hl' => k H locs ls' hP hS (gSt1 (E := E) (L := a0 :: a1 :: a2 :: x :: t) (i := 3) (v := .inl (.ref q)) hl' h1))
theorem h_astorec_4 (K : hK hh X E M D n) {a0 a1 a2 a3 x : Option gV} {q : Nat} {t : List (Option gV)} (d : decode M.2.1 pc = .ok (.astore 4, 2)) (h1 : gC1 a3 = true) (k : gWX X E cells slots (pc + 2) (a0 :: a1 :: a2 :: a3 :: some (.inl (.ref q)) :: t) st σ) : gWX X E cells slots pc (a0 :: a1 :: a2 :: a3 :: x :: t) (.inl (.ref q) :: st) σ :=
  fun H locs ls hP hS hl => lv_astore K.1 K.2.1 d hl (by simp only [List.length_cons]; show 4 < _; omega) rfl (fun ls' hl' => k H locs ls' hP hS (gSt1 (E := E) (L := a0 :: a1 :: a2 :: a3 :: x :: t) (i := 4) (v := .inl (.ref q)) hl' h1))
theorem h_astorec_5 (K : hK hh X E M D n) {a0 a1 a2 a3 a4 x : Option gV} {q : Nat} {t : List (Option gV)} (d : decode M.2.1 pc = .ok (.astore 5, 2)) (h1 : gC1 a4 = true) (k : gWX X E cells slots (pc + 2) (a0 :: a1 :: a2 :: a3 :: a4 :: some (.inl (.ref q)) :: t) st σ) : gWX X E cells slots pc (a0 :: a1 :: a2 :: a3 :: a4 :: x :: t) (.inl (.ref q) :: st) σ :=
  fun H locs ls hP hS hl => lv_astore K.1 K.2.1 d hl (by simp only [List.length_cons]; show 5 < _; omega) rfl (fun ls' hl' => k H locs ls' hP hS (gSt1 (E := E) (L := a0 :: a1 :: a2 :: a3 :: a4 :: x :: t) (i := 5) (v := .inl (.ref q)) hl' h1))
theorem h_astorec_6 (K : hK hh X E M D n) {a0 a1 a2 a3 a4 a5 x : Option gV} {q : Nat} {t : List (Option gV)} (d : decode M.2.1 pc = .ok (.astore 6, 2)) (h1 : gC1 a5 = true) (k : gWX X E cells slots (pc + 2) (a0 :: a1 :: a2 :: a3 :: a4 :: a5 :: some (.inl (.ref q)) :: t) st σ) : gWX X E cells slots pc (a0 :: a1 :: a2 :: a3 :: a4 :: a5 :: x :: t) (.inl (.ref q) :: st) σ :=
  fun H locs ls hP hS hl => lv_astore K.1 K.2.1 d hl (by simp only [List.length_cons]; show 6 < _; omega) rfl (fun ls' hl' => k H locs ls' hP hS (gSt1 (E := E) (L := a0 :: a1 :: a2 :: a3 :: a4 :: a5 :: x :: t) (i := 6) (v := .inl (.ref q)) hl' h1))
theorem h_i2l (K : hK hh X E M D n) {z : Int} (d : decode M.2.1 pc = .ok (.i2l, 1)) (k : gWX X E cells slots (pc + 1) L (.inl (.long (lv z)) :: st) σ) : gWX X E cells slots pc L (iv z :: st) σ :=
  fun H locs ls hP hS hl => lv_i2l K.1 K.2.1 d rfl (k H locs ls hP hS hl)
theorem h_lconst (K : hK hh X E M D n) {m : Fin 2} (d : decode M.2.1 pc = .ok (.lconst m, 1)) (k : gWX X E cells slots (pc + 1) L (.inl (.long (lv ((m : Nat) : Int))) :: st) σ) : gWX X E cells slots pc L st σ :=
  fun H locs ls hP hS hl => lv_lconst K.1 K.2.1 d (by
    have h : m = 0 ∨ m = 1 := by omega
    rcases h with rfl | rfl
    · decide
    · decide) (k H locs ls hP hS hl)
theorem h_last (K : hK hh X E M D n) {x : Int64} (d : decode M.2.1 pc = .ok (.lastore, 1)) (kk : gWX X E cells slots (pc + 1) L st (gOl σ x)) : gWX X E cells slots pc L (.inl (.long x) :: iv 0 :: .inr (23, 0) :: st) σ := by
  intro H locs ls hP hS hl
  have ho : gOk 23 0 := ⟨by decide, by decide⟩
  refine va_last K.1 K.2.1 (gN_K K.2.2.2.2.1) hP (gD_ok E σ) hS (gOff 23 0) 5 (by rw [gW_at ho, gEnt_23]) (gTys_at rfl) g_in0 d (fun H1 locs1 hP1 _ hS1 => ?_)
  have hP2 := g_Pset (e' := (gB E + gOff 23 0, gEnt E (gOl σ x) (23, 0))) hP1 (by rw [gW_len]; decide) (fun h => by
    rw [gEnt_23]
    refine Eq.trans h ?_
    exact congrArg some (g_arr1 (cI := gcA E 5) (f := fun j => .long (vp_updL (fun _ => σ.2.2.1) (Int32.ofInt 0).toNatClampNeg x j)) (g := fun _ => .long x) (by
      show Value.long (if 0 = (Int32.ofInt 0).toNatClampNeg then x else σ.2.2.1) = _
      rw [if_pos (by decide)])))
  rw [gW_set (σ' := gOl σ x) ho (fun q hm hq => gOl_off q (fun h9 => hq (gAll_23 q hm h9))) rfl] at hP2
  exact kk H1 locs1 ls hP2 hS1 hl
theorem h_dast (K : hK hh X E M D n) {x : UInt64} (d : decode M.2.1 pc = .ok (.dastore, 1)) (kk : gWX X E cells slots (pc + 1) L st (gOd σ x)) : gWX X E cells slots pc L (.inl (.double x) :: iv 0 :: .inr (24, 0) :: st) σ := by
  intro H locs ls hP hS hl
  have ho : gOk 24 0 := ⟨by decide, by decide⟩
  refine va_dast K.1 K.2.1 (gN_K K.2.2.2.2.1) hP (gD_ok E σ) hS (gOff 24 0) 6 (by rw [gW_at ho, gEnt_24]) (gTys_at rfl) g_in0 d (fun H1 locs1 hP1 _ hS1 => ?_)
  have hP2 := g_Pset (e' := (gB E + gOff 24 0, gEnt E (gOd σ x) (24, 0))) hP1 (by rw [gW_len]; decide) (fun h => by
    rw [gEnt_24]
    refine Eq.trans h ?_
    exact congrArg some (g_arr1 (cI := gcA E 6) (f := fun j => .double (vf_upd (fun _ => σ.2.2.2) (Int32.ofInt 0).toNatClampNeg x j)) (g := fun _ => .double x) (by
      show Value.double (if 0 = (Int32.ofInt 0).toNatClampNeg then x else σ.2.2.2) = _
      rw [if_pos (by decide)])))
  rw [gW_set (σ' := gOd σ x) ho (fun q hm hq => gOd_off q hm (fun h9 => hq (gAll_24 q hm h9))) rfl] at hP2
  exact kk H1 locs1 ls hP2 hS1 hl
theorem h_f2d (K : hK hh X E M D n) {x : UInt32} (hn : vf_n64 (FP.f2d x)) (d : decode M.2.1 pc = .ok (.f2d, 1)) (k : gWX X E cells slots (pc + 1) L (.inl (.double (FP.f2d x)) :: st) σ) : gWX X E cells slots pc L (.inl (.float x) :: st) σ :=
  fun H locs ls hP hS hl => lv_f2d K.1 K.2.1 d hn (k H locs ls hP hS hl)
theorem h_callV0 (K : hK hh X E M D n) {N : gMt} {d n' idx k i : Nat} {r : gV} (hc : gCt E N d n' (.inr (k, i) :: []) σ (.inl (some r)) σ') (hm : gMth N 0) (hi : gMthI N) (hk : gRc k N.1.cls) (ho : gOk k i) (hl : gLk M.1.cls idx N.1) (hf : gFit D d n cells slots n') (hL : L.length = M.2.2.1) (hst : gCats st ≤ 8) (dd : decode M.2.1 pc = .ok (.invokevirtual idx, 3)) (kk : gWX X E (cells + n') (slots + 6 * n') (pc + 3) L (r :: st) σ') : gWX X E cells slots pc L (.inr (k, i) :: st) σ :=
  fun H locs ls hP hS hlv => gBack (L := L) (st := st) (hRunV K (as := []) (k := k) (i := i) hc hm hi hk ho hl hf (hlv.1.trans hL) hst hP hS dd) hS hlv kk
theorem h_callV1 (K : hK hh X E M D n) {N : gMt} {d n' idx k i : Nat} {v1 : gV} {r : gV} (hc : gCt E N d n' (.inr (k, i) :: [v1]) σ (.inl (some r)) σ') (hm : gMth N 1) (hi : gMthI N) (hk : gRc k N.1.cls) (ho : gOk k i) (hl : gLk M.1.cls idx N.1) (hf : gFit D d n cells slots n') (hL : L.length = M.2.2.1) (hst : gCats st ≤ 8) (dd : decode M.2.1 pc = .ok (.invokevirtual idx, 3)) (kk : gWX X E (cells + n') (slots + 6 * n') (pc + 3) L (r :: st) σ') : gWX X E cells slots pc L (v1 :: .inr (k, i) :: st) σ :=
  fun H locs ls hP hS hlv => gBack (L := L) (st := st) (hRunV K (as := [v1]) (k := k) (i := i) hc hm hi hk ho hl hf (hlv.1.trans hL) hst hP hS dd) hS hlv kk
theorem h_callV2 (K : hK hh X E M D n) {N : gMt} {d n' idx k i : Nat} {v1 v2 : gV} {r : gV} (hc : gCt E N d n' (.inr (k, i) :: [v1, v2]) σ (.inl (some r)) σ') (hm : gMth N 2) (hi : gMthI N) (hk : gRc k N.1.cls) (ho : gOk k i) (hl : gLk M.1.cls idx N.1) (hf : gFit D d n cells slots n') (hL : L.length = M.2.2.1) (hst : gCats st ≤ 8) (dd : decode M.2.1 pc = .ok (.invokevirtual idx, 3)) (kk : gWX X E (cells + n') (slots + 6 * n') (pc + 3) L (r :: st) σ') : gWX X E cells slots pc L (v2 :: v1 :: .inr (k, i) :: st) σ :=
  fun H locs ls hP hS hlv => gBack (L := L) (st := st) (hRunV K (as := [v1, v2]) (k := k) (i := i) hc hm hi hk ho hl hf (hlv.1.trans hL) hst hP hS dd) hS hlv kk
theorem h_callV3 (K : hK hh X E M D n) {N : gMt} {d n' idx k i : Nat} {v1 v2 v3 : gV} {r : gV} (hc : gCt E N d n' (.inr (k, i) :: [v1, v2, v3]) σ (.inl (some r)) σ') (hm : gMth N 3) (hi : gMthI N) (hk : gRc k N.1.cls) (ho : gOk k i) (hl : gLk M.1.cls idx N.1) (hf : gFit D d n cells slots n') (hL : L.length = M.2.2.1) (hst : gCats st ≤ 8) (dd : decode M.2.1 pc = .ok (.invokevirtual idx, 3)) (kk : gWX X E (cells + n') (slots + 6 * n') (pc + 3) L (r :: st) σ') : gWX X E cells slots pc L (v3 :: v2 :: v1 :: .inr (k, i) :: st) σ :=
  fun H locs ls hP hS hlv => gBack (L := L) (st := st) (hRunV K (as := [v1, v2, v3]) (k := k) (i := i) hc hm hi hk ho hl hf (hlv.1.trans hL) hst hP hS dd) hS hlv kk
theorem h_callV4 (K : hK hh X E M D n) {N : gMt} {d n' idx k i : Nat} {v1 v2 v3 v4 : gV} {r : gV} (hc : gCt E N d n' (.inr (k, i) :: [v1, v2, v3, v4]) σ (.inl (some r)) σ') (hm : gMth N 4) (hi : gMthI N) (hk : gRc k N.1.cls) (ho : gOk k i) (hl : gLk M.1.cls idx N.1) (hf : gFit D d n cells slots n') (hL : L.length = M.2.2.1) (hst : gCats st ≤ 8) (dd : decode M.2.1 pc = .ok (.invokevirtual idx, 3)) (kk : gWX X E (cells + n') (slots + 6 * n') (pc + 3) L (r :: st) σ') : gWX X E cells slots pc L (v4 :: v3 :: v2 :: v1 :: .inr (k, i) :: st) σ :=
  fun H locs ls hP hS hlv => gBack (L := L) (st := st) (hRunV K (as := [v1, v2, v3, v4]) (k := k) (i := i) hc hm hi hk ho hl hf (hlv.1.trans hL) hst hP hS dd) hS hlv kk
/-- behind a call that throws, where a row of the table takes it -/
def hCa (own C : String) (hh : List (Nat × Nat × Nat × Nat)) (pc hpc : Nat) : Prop := ∃ (h1 : List (Nat × Nat × Nat × Nat)) (x : Nat × Nat × Nat × Nat) (h2 : List (Nat × Nat × Nat × Nat)) (nm : String), hh = h1 ++ x :: h2 ∧ (∀ q ∈ h1, q.2.2.2 ≠ 0 ∧ ∃ nm2 : String, Cond.classLink own q.2.2.2 nm2 ∈ lw_tbl ∧ Cond.not (.castable C nm2) ∈ flatC gNar) ∧ covers (⟨x.1, x.2.1, x.2.2.1, x.2.2.2⟩ : ExceptionTableEntry) pc = true ∧ x.2.2.2 ≠ 0 ∧ Cond.classLink own x.2.2.2 nm ∈ lw_tbl ∧ Cond.castable C nm ∈ lw_tbl ∧ x.2.2.1 = hpc
theorem hBackC (K : hK hh X E M D n) {n' hpc : Nat} {C : String} {H : Heap} {locs : List Loc} {ls : Array Slot} {st0 : List Value} (hr : gRun X E H locs cells slots n' pc ls st0 (st.map (gc E)) σ (.inr C) σ') (hS : va_S (gA E) X.2.2.2.2.1.heap H locs) (hl : lv_has ls L.length (gAsc E 0 L)) (ca : hCa M.1.cls C hh pc hpc) (kk : ∀ q : Nat, gWX X E (cells + n') (slots + 6 * n') hpc L [.inl (.ref q)] σ') : gW_ X H locs cells slots (F0 X.2.2.2.2.2.1 pc ls st0) := by
  obtain ⟨h1, x, h2, nm, rfl, ca1, ca2, ca3, ca4, ca5, rfl⟩ := ca
  have hN := K.2.2.2.2.1
  intro T hT Z
  rcases hr T hT Z with ⟨v, st₀, t, T', L9, h0, X', hL, e1, e2, ⟨rv', hrv, -⟩, -⟩ | ⟨q, st₀, t, T', L9, C', ce, h0, X', hL, e1, e2, ⟨hx, hI, hF⟩, hce, hcv, hcl, stp⟩
  · cases hrv
  · cases hx
    obtain ⟨k1, k2, k3⟩ := vx_keep (A1 := gA E) h0 e1 hS (fun _ _ h => h) (fun _ h => h) hL hF
    obtain ⟨t2, a1, b1⟩ := vx_catch (own := M.1.cls) (name := nm) (E := C) (ce := ce) (q := q) (H := T'.heap) (pc := pc) (ls := ls) (rest := st.map (gc E)) K.2.2.2.1 (tableOf h1) ⟨x.1, x.2.1, x.2.2.1, x.2.2.2⟩ (tableOf h2) (K.2.2.2.2.2.2.2.2.1.trans (by unfold tableOf; rw [List.map_append, List.map_cons]))
      (fun z hz => by
        obtain ⟨y, hy, rfl⟩ := List.mem_map.mp hz
        obtain ⟨y1, nm2, y2, y3⟩ := ca1 y hy
        exact Or.inr ⟨y1, nm2, gN_word hN y2 rfl _, gNc hN y3⟩) ca2 ca3 (gN_word hN ca4 rfl _) (gN_any hN ca5 rfl _) (by rw [e1]; exact hce) hcv hcl
      (kk q T'.heap (locs ++ L9) ls (by rw [e1]; exact hI) k3 hl) T' rfl X'
    exact ⟨t2, stp.trans a1, b1⟩
theorem h_catV0 (K : hK hh X E M D n) {N : gMt} {d n' idx k i : Nat} {C : String} {hpc : Nat} (hc : gCt E N d n' (.inr (k, i) :: []) σ (.inr C) σ') (hm : gMth N 0) (hi : gMthI N) (hk : gRc k N.1.cls) (ho : gOk k i) (hl : gLk M.1.cls idx N.1) (hf : gFit D d n cells slots n') (hL : L.length = M.2.2.1) (hst : gCats st ≤ 8) (dd : decode M.2.1 pc = .ok (.invokevirtual idx, 3)) (ca : hCa M.1.cls C hh pc hpc) (kk : ∀ q : Nat, gWX X E (cells + n') (slots + 6 * n') hpc L [.inl (.ref q)] σ') : gWX X E cells slots pc L (.inr (k, i) :: st) σ :=
  fun H locs ls hP hS hlv => hBackC K (L := L) (st := st) (hRunV K (as := []) (k := k) (i := i) hc hm hi hk ho hl hf (hlv.1.trans hL) hst hP hS dd) hS hlv ca kk
theorem h_catV1 (K : hK hh X E M D n) {N : gMt} {d n' idx k i : Nat} {v1 : gV} {C : String} {hpc : Nat} (hc : gCt E N d n' (.inr (k, i) :: [v1]) σ (.inr C) σ') (hm : gMth N 1) (hi : gMthI N) (hk : gRc k N.1.cls) (ho : gOk k i) (hl : gLk M.1.cls idx N.1) (hf : gFit D d n cells slots n') (hL : L.length = M.2.2.1) (hst : gCats st ≤ 8) (dd : decode M.2.1 pc = .ok (.invokevirtual idx, 3)) (ca : hCa M.1.cls C hh pc hpc) (kk : ∀ q : Nat, gWX X E (cells + n') (slots + 6 * n') hpc L [.inl (.ref q)] σ') : gWX X E cells slots pc L (v1 :: .inr (k, i) :: st) σ :=
  fun H locs ls hP hS hlv => hBackC K (L := L) (st := st) (hRunV K (as := [v1]) (k := k) (i := i) hc hm hi hk ho hl hf (hlv.1.trans hL) hst hP hS dd) hS hlv ca kk
theorem h_catV2 (K : hK hh X E M D n) {N : gMt} {d n' idx k i : Nat} {v1 v2 : gV} {C : String} {hpc : Nat} (hc : gCt E N d n' (.inr (k, i) :: [v1, v2]) σ (.inr C) σ') (hm : gMth N 2) (hi : gMthI N) (hk : gRc k N.1.cls) (ho : gOk k i) (hl : gLk M.1.cls idx N.1) (hf : gFit D d n cells slots n') (hL : L.length = M.2.2.1) (hst : gCats st ≤ 8) (dd : decode M.2.1 pc = .ok (.invokevirtual idx, 3)) (ca : hCa M.1.cls C hh pc hpc) (kk : ∀ q : Nat, gWX X E (cells + n') (slots + 6 * n') hpc L [.inl (.ref q)] σ') : gWX X E cells slots pc L (v2 :: v1 :: .inr (k, i) :: st) σ :=
  fun H locs ls hP hS hlv => hBackC K (L := L) (st := st) (hRunV K (as := [v1, v2]) (k := k) (i := i) hc hm hi hk ho hl hf (hlv.1.trans hL) hst hP hS dd) hS hlv ca kk
theorem h_catV3 (K : hK hh X E M D n) {N : gMt} {d n' idx k i : Nat} {v1 v2 v3 : gV} {C : String} {hpc : Nat} (hc : gCt E N d n' (.inr (k, i) :: [v1, v2, v3]) σ (.inr C) σ') (hm : gMth N 3) (hi : gMthI N) (hk : gRc k N.1.cls) (ho : gOk k i) (hl : gLk M.1.cls idx N.1) (hf : gFit D d n cells slots n') (hL : L.length = M.2.2.1) (hst : gCats st ≤ 8) (dd : decode M.2.1 pc = .ok (.invokevirtual idx, 3)) (ca : hCa M.1.cls C hh pc hpc) (kk : ∀ q : Nat, gWX X E (cells + n') (slots + 6 * n') hpc L [.inl (.ref q)] σ') : gWX X E cells slots pc L (v3 :: v2 :: v1 :: .inr (k, i) :: st) σ :=
  fun H locs ls hP hS hlv => hBackC K (L := L) (st := st) (hRunV K (as := [v1, v2, v3]) (k := k) (i := i) hc hm hi hk ho hl hf (hlv.1.trans hL) hst hP hS dd) hS hlv ca kk
theorem h_catV4 (K : hK hh X E M D n) {N : gMt} {d n' idx k i : Nat} {v1 v2 v3 v4 : gV} {C : String} {hpc : Nat} (hc : gCt E N d n' (.inr (k, i) :: [v1, v2, v3, v4]) σ (.inr C) σ') (hm : gMth N 4) (hi : gMthI N) (hk : gRc k N.1.cls) (ho : gOk k i) (hl : gLk M.1.cls idx N.1) (hf : gFit D d n cells slots n') (hL : L.length = M.2.2.1) (hst : gCats st ≤ 8) (dd : decode M.2.1 pc = .ok (.invokevirtual idx, 3)) (ca : hCa M.1.cls C hh pc hpc) (kk : ∀ q : Nat, gWX X E (cells + n') (slots + 6 * n') hpc L [.inl (.ref q)] σ') : gWX X E cells slots pc L (v4 :: v3 :: v2 :: v1 :: .inr (k, i) :: st) σ :=
  fun H locs ls hP hS hlv => hBackC K (L := L) (st := st) (hRunV K (as := [v1, v2, v3, v4]) (k := k) (i := i) hc hm hi hk ho hl hf (hlv.1.trans hL) hst hP hS dd) hS hlv ca kk
end GH
abbrev mL_scroll : gMt := (yL_scroll, cL_scroll, 5, (Option.some Jvm.ClassFile.FieldType.int))
abbrev hhL_scroll : List (Nat × Nat × Nat × Nat) := [(0, 10, 13, 13), (0, 10, 17, 15)]
theorem l_scroll {E : gE} {σ σ' : gS} (a b : Int) (r : Int) (nn : Nat) (hn : nn ≤ 1) (hc : gCt E mX6_scroll 12 nn [rf 0 0, iv a, iv b] σ (.inl (some (iv r))) σ') : hCt E mL_scroll hhL_scroll 13 1 [rf 0 0, iv a, iv b, rf 23 0] σ (.inl (some (iv (0)))) (gOl σ' (lv r)) := by
  refine hCt_of (L := [some (rf 0 0), some (iv a), some (iv b), some (rf 23 0), none]) (by decide +kernel) rfl rfl (Nat.le_of_ble_eq_true rfl) (fun X K hE => ?_)
  refine h_aload_3 K dL_scroll_0 ?_
  refine h_iconst K dL_scroll_1 ?_
  refine h_aload_0 K dL_scroll_2 ?_
  refine h_iload_1 K dL_scroll_3 ?_
  refine h_iload_2 K dL_scroll_4 ?_
  refine h_callV2 K hc mtX6_scroll miX6_scroll rc0 ⟨by decide, by decide⟩ lkRL_7 ⟨by decide, by omega, by omega⟩ rfl (Nat.le_of_ble_eq_true rfl) dL_scroll_5 ?_
  refine h_i2l K dL_scroll_8 ?_
  refine h_last K dL_scroll_9 ?_
  refine h_goto (tgt := 21) K dL_scroll_10 (by decide) ?_
  refine h_iconst K dL_scroll_21 ?_
  exact h_iret K hE rfl dL_scroll_22 (by omega) (by omega) rfl rfl
theorem l_scroll_1 {E : gE} {σ σ' : gS} (a b : Int) (nn : Nat) (hn : nn ≤ 1) (hc : gCt E mX6_scroll 12 nn [rf 0 0, iv a, iv b] σ (.inr "java/lang/IllegalArgumentException") σ') : hCt E mL_scroll hhL_scroll 13 1 [rf 0 0, iv a, iv b, rf 23 0] σ (.inl (some (iv (1)))) σ' := by
  refine hCt_of (L := [some (rf 0 0), some (iv a), some (iv b), some (rf 23 0), none]) (by decide +kernel) rfl rfl (Nat.le_of_ble_eq_true rfl) (fun X K hE => ?_)
  refine h_aload_3 K dL_scroll_0 ?_
  refine h_iconst K dL_scroll_1 ?_
  refine h_aload_0 K dL_scroll_2 ?_
  refine h_iload_1 K dL_scroll_3 ?_
  refine h_iload_2 K dL_scroll_4 ?_
  refine h_catV2 K hc mtX6_scroll miX6_scroll rc0 ⟨by decide, by decide⟩ lkRL_7 ⟨by decide, by omega, by omega⟩ rfl (Nat.le_of_ble_eq_true rfl) dL_scroll_5 ⟨[], (0, 10, 13, 13), [(0, 10, 17, 15)], "java/lang/IllegalArgumentException", rfl, (fun q hq => absurd hq List.not_mem_nil), by decide, by decide, (g_mem 296 (by decide +kernel)), (g_mem 459 (by decide +kernel)), rfl⟩ (fun q => ?_)
  refine h_astorec_4 K dL_scroll_13 rfl ?_
  refine h_iconst K dL_scroll_15 ?_
  exact h_iret K hE rfl dL_scroll_16 (by omega) (by omega) rfl rfl
theorem l_scroll_2 {E : gE} {σ σ' : gS} (a b : Int) (nn : Nat) (hn : nn ≤ 1) (hc : gCt E mX6_scroll 12 nn [rf 0 0, iv a, iv b] σ (.inr "java/lang/UnsupportedOperationException") σ') : hCt E mL_scroll hhL_scroll 13 1 [rf 0 0, iv a, iv b, rf 23 0] σ (.inl (some (iv (2)))) σ' := by
  refine hCt_of (L := [some (rf 0 0), some (iv a), some (iv b), some (rf 23 0), none]) (by decide +kernel) rfl rfl (Nat.le_of_ble_eq_true rfl) (fun X K hE => ?_)
  refine h_aload_3 K dL_scroll_0 ?_
  refine h_iconst K dL_scroll_1 ?_
  refine h_aload_0 K dL_scroll_2 ?_
  refine h_iload_1 K dL_scroll_3 ?_
  refine h_iload_2 K dL_scroll_4 ?_
  refine h_catV2 K hc mtX6_scroll miX6_scroll rc0 ⟨by decide, by decide⟩ lkRL_7 ⟨by decide, by omega, by omega⟩ rfl (Nat.le_of_ble_eq_true rfl) dL_scroll_5 ⟨[(0, 10, 13, 13)], (0, 10, 17, 15), [], "java/lang/UnsupportedOperationException", rfl, (List.forall_mem_cons.mpr ⟨⟨by decide, "java/lang/IllegalArgumentException", (g_mem 296 (by decide +kernel)), by decide +kernel⟩, fun _ h => absurd h List.not_mem_nil⟩), by decide, by decide, (g_mem 297 (by decide +kernel)), (g_mem 475 (by decide +kernel)), rfl⟩ (fun q => ?_)
  refine h_astorec_4 K dL_scroll_17 rfl ?_
  refine h_iconst K dL_scroll_19 ?_
  exact h_iret K hE rfl dL_scroll_20 (by omega) (by omega) rfl rfl
abbrev mL_scrollOf : gMt := (yL_scrollOf, cL_scrollOf, 5, (Option.some Jvm.ClassFile.FieldType.int))
abbrev hhL_scrollOf : List (Nat × Nat × Nat × Nat) := [(0, 10, 13, 20), (0, 10, 17, 13)]
theorem l_scrollOf {E : gE} {σ σ' : gS} (a b : Int) (r : Int) (nn : Nat) (hn : nn ≤ 1) (hc : gCt E mX6_scrollOf 12 nn [rf 0 0, iv a, iv b] σ (.inl (some (iv r))) σ') : hCt E mL_scrollOf hhL_scrollOf 13 1 [rf 0 0, iv a, iv b, rf 23 0] σ (.inl (some (iv (0)))) (gOl σ' (lv r)) := by
  refine hCt_of (L := [some (rf 0 0), some (iv a), some (iv b), some (rf 23 0), none]) (by decide +kernel) rfl rfl (Nat.le_of_ble_eq_true rfl) (fun X K hE => ?_)
  refine h_aload_3 K dL_scrollOf_0 ?_
  refine h_iconst K dL_scrollOf_1 ?_
  refine h_aload_0 K dL_scrollOf_2 ?_
  refine h_iload_1 K dL_scrollOf_3 ?_
  refine h_iload_2 K dL_scrollOf_4 ?_
  refine h_callV2 K hc mtX6_scrollOf miX6_scrollOf rc0 ⟨by decide, by decide⟩ lkRL_17 ⟨by decide, by omega, by omega⟩ rfl (Nat.le_of_ble_eq_true rfl) dL_scrollOf_5 ?_
  refine h_i2l K dL_scrollOf_8 ?_
  refine h_last K dL_scrollOf_9 ?_
  refine h_goto (tgt := 21) K dL_scrollOf_10 (by decide) ?_
  refine h_iconst K dL_scrollOf_21 ?_
  exact h_iret K hE rfl dL_scrollOf_22 (by omega) (by omega) rfl rfl
theorem l_scrollOf_1 {E : gE} {σ σ' : gS} (a b : Int) (nn : Nat) (hn : nn ≤ 1) (hc : gCt E mX6_scrollOf 12 nn [rf 0 0, iv a, iv b] σ (.inr "java/lang/IndexOutOfBoundsException") σ') : hCt E mL_scrollOf hhL_scrollOf 13 1 [rf 0 0, iv a, iv b, rf 23 0] σ (.inl (some (iv (1)))) σ' := by
  refine hCt_of (L := [some (rf 0 0), some (iv a), some (iv b), some (rf 23 0), none]) (by decide +kernel) rfl rfl (Nat.le_of_ble_eq_true rfl) (fun X K hE => ?_)
  refine h_aload_3 K dL_scrollOf_0 ?_
  refine h_iconst K dL_scrollOf_1 ?_
  refine h_aload_0 K dL_scrollOf_2 ?_
  refine h_iload_1 K dL_scrollOf_3 ?_
  refine h_iload_2 K dL_scrollOf_4 ?_
  refine h_catV2 K hc mtX6_scrollOf miX6_scrollOf rc0 ⟨by decide, by decide⟩ lkRL_17 ⟨by decide, by omega, by omega⟩ rfl (Nat.le_of_ble_eq_true rfl) dL_scrollOf_5 ⟨[], (0, 10, 13, 20), [(0, 10, 17, 13)], "java/lang/IndexOutOfBoundsException", rfl, (fun q hq => absurd hq List.not_mem_nil), by decide, by decide, (g_mem 571 (by decide +kernel)), (g_mem 387 (by decide +kernel)), rfl⟩ (fun q => ?_)
  refine h_astorec_4 K dL_scrollOf_13 rfl ?_
  refine h_iconst K dL_scrollOf_15 ?_
  exact h_iret K hE rfl dL_scrollOf_16 (by omega) (by omega) rfl rfl
theorem l_scrollOf_2 {E : gE} {σ σ' : gS} (a b : Int) (nn : Nat) (hn : nn ≤ 1) (hc : gCt E mX6_scrollOf 12 nn [rf 0 0, iv a, iv b] σ (.inr "java/lang/IllegalArgumentException") σ') : hCt E mL_scrollOf hhL_scrollOf 13 1 [rf 0 0, iv a, iv b, rf 23 0] σ (.inl (some (iv (2)))) σ' := by
  refine hCt_of (L := [some (rf 0 0), some (iv a), some (iv b), some (rf 23 0), none]) (by decide +kernel) rfl rfl (Nat.le_of_ble_eq_true rfl) (fun X K hE => ?_)
  refine h_aload_3 K dL_scrollOf_0 ?_
  refine h_iconst K dL_scrollOf_1 ?_
  refine h_aload_0 K dL_scrollOf_2 ?_
  refine h_iload_1 K dL_scrollOf_3 ?_
  refine h_iload_2 K dL_scrollOf_4 ?_
  refine h_catV2 K hc mtX6_scrollOf miX6_scrollOf rc0 ⟨by decide, by decide⟩ lkRL_17 ⟨by decide, by omega, by omega⟩ rfl (Nat.le_of_ble_eq_true rfl) dL_scrollOf_5 ⟨[(0, 10, 13, 20)], (0, 10, 17, 13), [], "java/lang/IllegalArgumentException", rfl, (List.forall_mem_cons.mpr ⟨⟨by decide, "java/lang/IndexOutOfBoundsException", (g_mem 571 (by decide +kernel)), by decide +kernel⟩, fun _ h => absurd h List.not_mem_nil⟩), by decide, by decide, (g_mem 296 (by decide +kernel)), (g_mem 459 (by decide +kernel)), rfl⟩ (fun q => ?_)
  refine h_astorec_4 K dL_scrollOf_17 rfl ?_
  refine h_iconst K dL_scrollOf_19 ?_
  exact h_iret K hE rfl dL_scrollOf_20 (by omega) (by omega) rfl rfl
abbrev mL_write : gMt := (yL_write, cL_write, 7, (Option.some Jvm.ClassFile.FieldType.int))
abbrev hhL_write : List (Nat × Nat × Nat × Nat) := [(0, 14, 17, 20), (0, 14, 21, 13)]
theorem l_write {E : gE} {σ σ' : gS} (a b c e : Int) (r : Int) (nn : Nat) (hn : nn ≤ 1) (hc : gCt E mX6_write 12 nn [rf 0 0, iv a, iv b, iv c, iv e] σ (.inl (some (iv r))) σ') : hCt E mL_write hhL_write 13 1 [rf 0 0, iv a, iv b, iv c, iv e, rf 23 0] σ (.inl (some (iv (0)))) (gOl σ' (lv r)) := by
  refine hCt_of (L := [some (rf 0 0), some (iv a), some (iv b), some (iv c), some (iv e), some (rf 23 0), none]) (by decide +kernel) rfl rfl (Nat.le_of_ble_eq_true rfl) (fun X K hE => ?_)
  refine h_aload_5 K dL_write_0 ?_
  refine h_iconst K dL_write_2 ?_
  refine h_aload_0 K dL_write_3 ?_
  refine h_iload_1 K dL_write_4 ?_
  refine h_iload_2 K dL_write_5 ?_
  refine h_iload_3 K dL_write_6 ?_
  refine h_iload_4 K dL_write_7 ?_
  refine h_callV4 K hc mtX6_write miX6_write rc0 ⟨by decide, by decide⟩ lkRL_22 ⟨by decide, by omega, by omega⟩ rfl (Nat.le_of_ble_eq_true rfl) dL_write_9 ?_
  refine h_i2l K dL_write_12 ?_
  refine h_last K dL_write_13 ?_
  refine h_goto (tgt := 25) K dL_write_14 (by decide) ?_
  refine h_iconst K dL_write_25 ?_
  exact h_iret K hE rfl dL_write_26 (by omega) (by omega) rfl rfl
theorem l_write_1 {E : gE} {σ σ' : gS} (a b c e : Int) (nn : Nat) (hn : nn ≤ 1) (hc : gCt E mX6_write 12 nn [rf 0 0, iv a, iv b, iv c, iv e] σ (.inr "java/lang/IndexOutOfBoundsException") σ') : hCt E mL_write hhL_write 13 1 [rf 0 0, iv a, iv b, iv c, iv e, rf 23 0] σ (.inl (some (iv (1)))) σ' := by
  refine hCt_of (L := [some (rf 0 0), some (iv a), some (iv b), some (iv c), some (iv e), some (rf 23 0), none]) (by decide +kernel) rfl rfl (Nat.le_of_ble_eq_true rfl) (fun X K hE => ?_)
  refine h_aload_5 K dL_write_0 ?_
  refine h_iconst K dL_write_2 ?_
  refine h_aload_0 K dL_write_3 ?_
  refine h_iload_1 K dL_write_4 ?_
  refine h_iload_2 K dL_write_5 ?_
  refine h_iload_3 K dL_write_6 ?_
  refine h_iload_4 K dL_write_7 ?_
  refine h_catV4 K hc mtX6_write miX6_write rc0 ⟨by decide, by decide⟩ lkRL_22 ⟨by decide, by omega, by omega⟩ rfl (Nat.le_of_ble_eq_true rfl) dL_write_9 ⟨[], (0, 14, 17, 20), [(0, 14, 21, 13)], "java/lang/IndexOutOfBoundsException", rfl, (fun q hq => absurd hq List.not_mem_nil), by decide, by decide, (g_mem 571 (by decide +kernel)), (g_mem 387 (by decide +kernel)), rfl⟩ (fun q => ?_)
  refine h_astorec_6 K dL_write_17 rfl ?_
  refine h_iconst K dL_write_19 ?_
  exact h_iret K hE rfl dL_write_20 (by omega) (by omega) rfl rfl
theorem l_write_2 {E : gE} {σ σ' : gS} (a b c e : Int) (nn : Nat) (hn : nn ≤ 1) (hc : gCt E mX6_write 12 nn [rf 0 0, iv a, iv b, iv c, iv e] σ (.inr "java/lang/IllegalArgumentException") σ') : hCt E mL_write hhL_write 13 1 [rf 0 0, iv a, iv b, iv c, iv e, rf 23 0] σ (.inl (some (iv (2)))) σ' := by
  refine hCt_of (L := [some (rf 0 0), some (iv a), some (iv b), some (iv c), some (iv e), some (rf 23 0), none]) (by decide +kernel) rfl rfl (Nat.le_of_ble_eq_true rfl) (fun X K hE => ?_)
  refine h_aload_5 K dL_write_0 ?_
  refine h_iconst K dL_write_2 ?_
  refine h_aload_0 K dL_write_3 ?_
  refine h_iload_1 K dL_write_4 ?_
  refine h_iload_2 K dL_write_5 ?_
  refine h_iload_3 K dL_write_6 ?_
  refine h_iload_4 K dL_write_7 ?_
  refine h_catV4 K hc mtX6_write miX6_write rc0 ⟨by decide, by decide⟩ lkRL_22 ⟨by decide, by omega, by omega⟩ rfl (Nat.le_of_ble_eq_true rfl) dL_write_9 ⟨[(0, 14, 17, 20)], (0, 14, 21, 13), [], "java/lang/IllegalArgumentException", rfl, (List.forall_mem_cons.mpr ⟨⟨by decide, "java/lang/IndexOutOfBoundsException", (g_mem 571 (by decide +kernel)), by decide +kernel⟩, fun _ h => absurd h List.not_mem_nil⟩), by decide, by decide, (g_mem 296 (by decide +kernel)), (g_mem 459 (by decide +kernel)), rfl⟩ (fun q => ?_)
  refine h_astorec_6 K dL_write_21 rfl ?_
  refine h_iconst K dL_write_23 ?_
  exact h_iret K hE rfl dL_write_24 (by omega) (by omega) rfl rfl
abbrev mL_signAt : gMt := (yL_signAt, cL_signAt, 6, (Option.some Jvm.ClassFile.FieldType.int))
abbrev hhL_signAt : List (Nat × Nat × Nat × Nat) := [(0, 12, 15, 20)]
theorem l_signAt {E : gE} {σ σ' : gS} (a b c : Int) (r : Int) (nn : Nat) (hn : nn ≤ 1) (hc : gCt E mX6_signAt 12 nn [rf 0 0, iv a, iv b, iv c] σ (.inl (some (iv r))) σ') : hCt E mL_signAt hhL_signAt 13 1 [rf 0 0, iv a, iv b, iv c, rf 23 0] σ (.inl (some (iv (0)))) (gOl σ' (lv r)) := by
  refine hCt_of (L := [some (rf 0 0), some (iv a), some (iv b), some (iv c), some (rf 23 0), none]) (by decide +kernel) rfl rfl (Nat.le_of_ble_eq_true rfl) (fun X K hE => ?_)
  refine h_aload_4 K dL_signAt_0 ?_
  refine h_iconst K dL_signAt_2 ?_
  refine h_aload_0 K dL_signAt_3 ?_
  refine h_iload_1 K dL_signAt_4 ?_
  refine h_iload_2 K dL_signAt_5 ?_
  refine h_iload_3 K dL_signAt_6 ?_
  refine h_callV3 K hc mtX6_signAt miX6_signAt rc0 ⟨by decide, by decide⟩ lkRL_26 ⟨by decide, by omega, by omega⟩ rfl (Nat.le_of_ble_eq_true rfl) dL_signAt_7 ?_
  refine h_i2l K dL_signAt_10 ?_
  refine h_last K dL_signAt_11 ?_
  refine h_goto (tgt := 19) K dL_signAt_12 (by decide) ?_
  refine h_iconst K dL_signAt_19 ?_
  exact h_iret K hE rfl dL_signAt_20 (by omega) (by omega) rfl rfl
theorem l_signAt_1 {E : gE} {σ σ' : gS} (a b c : Int) (nn : Nat) (hn : nn ≤ 1) (hc : gCt E mX6_signAt 12 nn [rf 0 0, iv a, iv b, iv c] σ (.inr "java/lang/IndexOutOfBoundsException") σ') : hCt E mL_signAt hhL_signAt 13 1 [rf 0 0, iv a, iv b, iv c, rf 23 0] σ (.inl (some (iv (1)))) σ' := by
  refine hCt_of (L := [some (rf 0 0), some (iv a), some (iv b), some (iv c), some (rf 23 0), none]) (by decide +kernel) rfl rfl (Nat.le_of_ble_eq_true rfl) (fun X K hE => ?_)
  refine h_aload_4 K dL_signAt_0 ?_
  refine h_iconst K dL_signAt_2 ?_
  refine h_aload_0 K dL_signAt_3 ?_
  refine h_iload_1 K dL_signAt_4 ?_
  refine h_iload_2 K dL_signAt_5 ?_
  refine h_iload_3 K dL_signAt_6 ?_
  refine h_catV3 K hc mtX6_signAt miX6_signAt rc0 ⟨by decide, by decide⟩ lkRL_26 ⟨by decide, by omega, by omega⟩ rfl (Nat.le_of_ble_eq_true rfl) dL_signAt_7 ⟨[], (0, 12, 15, 20), [], "java/lang/IndexOutOfBoundsException", rfl, (fun q hq => absurd hq List.not_mem_nil), by decide, by decide, (g_mem 571 (by decide +kernel)), (g_mem 387 (by decide +kernel)), rfl⟩ (fun q => ?_)
  refine h_astorec_5 K dL_signAt_15 rfl ?_
  refine h_iconst K dL_signAt_17 ?_
  exact h_iret K hE rfl dL_signAt_18 (by omega) (by omega) rfl rfl
abbrev mL_seal : gMt := (yL_seal, cL_seal, 4, (Option.some Jvm.ClassFile.FieldType.int))
abbrev hhL_seal : List (Nat × Nat × Nat × Nat) := [(0, 9, 12, 20), (0, 9, 15, 15)]
theorem l_seal {E : gE} {σ σ' : gS} (a : Int) (r : Int) (nn : Nat) (hn : nn ≤ 1) (hc : gCt E mX6_seal 12 nn [rf 0 0, iv a] σ (.inl (some (iv r))) σ') : hCt E mL_seal hhL_seal 13 1 [rf 0 0, iv a, rf 23 0] σ (.inl (some (iv (0)))) (gOl σ' (lv r)) := by
  refine hCt_of (L := [some (rf 0 0), some (iv a), some (rf 23 0), none]) (by decide +kernel) rfl rfl (Nat.le_of_ble_eq_true rfl) (fun X K hE => ?_)
  refine h_aload_2 K dL_seal_0 ?_
  refine h_iconst K dL_seal_1 ?_
  refine h_aload_0 K dL_seal_2 ?_
  refine h_iload_1 K dL_seal_3 ?_
  refine h_callV1 K hc mtX6_seal miX6_seal rc0 ⟨by decide, by decide⟩ lkRL_30 ⟨by decide, by omega, by omega⟩ rfl (Nat.le_of_ble_eq_true rfl) dL_seal_4 ?_
  refine h_i2l K dL_seal_7 ?_
  refine h_last K dL_seal_8 ?_
  refine h_goto (tgt := 18) K dL_seal_9 (by decide) ?_
  refine h_iconst K dL_seal_18 ?_
  exact h_iret K hE rfl dL_seal_19 (by omega) (by omega) rfl rfl
theorem l_seal_1 {E : gE} {σ σ' : gS} (a : Int) (nn : Nat) (hn : nn ≤ 1) (hc : gCt E mX6_seal 12 nn [rf 0 0, iv a] σ (.inr "java/lang/IndexOutOfBoundsException") σ') : hCt E mL_seal hhL_seal 13 1 [rf 0 0, iv a, rf 23 0] σ (.inl (some (iv (1)))) σ' := by
  refine hCt_of (L := [some (rf 0 0), some (iv a), some (rf 23 0), none]) (by decide +kernel) rfl rfl (Nat.le_of_ble_eq_true rfl) (fun X K hE => ?_)
  refine h_aload_2 K dL_seal_0 ?_
  refine h_iconst K dL_seal_1 ?_
  refine h_aload_0 K dL_seal_2 ?_
  refine h_iload_1 K dL_seal_3 ?_
  refine h_catV1 K hc mtX6_seal miX6_seal rc0 ⟨by decide, by decide⟩ lkRL_30 ⟨by decide, by omega, by omega⟩ rfl (Nat.le_of_ble_eq_true rfl) dL_seal_4 ⟨[], (0, 9, 12, 20), [(0, 9, 15, 15)], "java/lang/IndexOutOfBoundsException", rfl, (fun q hq => absurd hq List.not_mem_nil), by decide, by decide, (g_mem 571 (by decide +kernel)), (g_mem 387 (by decide +kernel)), rfl⟩ (fun q => ?_)
  refine h_astorec_3 K dL_seal_12 rfl ?_
  refine h_iconst K dL_seal_13 ?_
  exact h_iret K hE rfl dL_seal_14 (by omega) (by omega) rfl rfl
theorem l_seal_2 {E : gE} {σ σ' : gS} (a : Int) (nn : Nat) (hn : nn ≤ 1) (hc : gCt E mX6_seal 12 nn [rf 0 0, iv a] σ (.inr "java/lang/UnsupportedOperationException") σ') : hCt E mL_seal hhL_seal 13 1 [rf 0 0, iv a, rf 23 0] σ (.inl (some (iv (2)))) σ' := by
  refine hCt_of (L := [some (rf 0 0), some (iv a), some (rf 23 0), none]) (by decide +kernel) rfl rfl (Nat.le_of_ble_eq_true rfl) (fun X K hE => ?_)
  refine h_aload_2 K dL_seal_0 ?_
  refine h_iconst K dL_seal_1 ?_
  refine h_aload_0 K dL_seal_2 ?_
  refine h_iload_1 K dL_seal_3 ?_
  refine h_catV1 K hc mtX6_seal miX6_seal rc0 ⟨by decide, by decide⟩ lkRL_30 ⟨by decide, by omega, by omega⟩ rfl (Nat.le_of_ble_eq_true rfl) dL_seal_4 ⟨[(0, 9, 12, 20)], (0, 9, 15, 15), [], "java/lang/UnsupportedOperationException", rfl, (List.forall_mem_cons.mpr ⟨⟨by decide, "java/lang/IndexOutOfBoundsException", (g_mem 571 (by decide +kernel)), by decide +kernel⟩, fun _ h => absurd h List.not_mem_nil⟩), by decide, by decide, (g_mem 297 (by decide +kernel)), (g_mem 475 (by decide +kernel)), rfl⟩ (fun q => ?_)
  refine h_astorec_3 K dL_seal_15 rfl ?_
  refine h_iconst K dL_seal_16 ?_
  exact h_iret K hE rfl dL_seal_17 (by omega) (by omega) rfl rfl
abbrev mL_copy : gMt := (yL_copy, cL_copy, 4, (Option.some Jvm.ClassFile.FieldType.int))
abbrev hhL_copy : List (Nat × Nat × Nat × Nat) := [(0, 9, 12, 20), (0, 9, 15, 15)]
theorem l_copy {E : gE} {σ σ' : gS} (a : Int) (r : Int) (nn : Nat) (hn : nn ≤ 1) (hc : gCt E mX6_copy 12 nn [rf 0 0, iv a] σ (.inl (some (iv r))) σ') : hCt E mL_copy hhL_copy 13 1 [rf 0 0, iv a, rf 23 0] σ (.inl (some (iv (0)))) (gOl σ' (lv r)) := by
  refine hCt_of (L := [some (rf 0 0), some (iv a), some (rf 23 0), none]) (by decide +kernel) rfl rfl (Nat.le_of_ble_eq_true rfl) (fun X K hE => ?_)
  refine h_aload_2 K dL_copy_0 ?_
  refine h_iconst K dL_copy_1 ?_
  refine h_aload_0 K dL_copy_2 ?_
  refine h_iload_1 K dL_copy_3 ?_
  refine h_callV1 K hc mtX6_copy miX6_copy rc0 ⟨by decide, by decide⟩ lkRL_34 ⟨by decide, by omega, by omega⟩ rfl (Nat.le_of_ble_eq_true rfl) dL_copy_4 ?_
  refine h_i2l K dL_copy_7 ?_
  refine h_last K dL_copy_8 ?_
  refine h_goto (tgt := 18) K dL_copy_9 (by decide) ?_
  refine h_iconst K dL_copy_18 ?_
  exact h_iret K hE rfl dL_copy_19 (by omega) (by omega) rfl rfl
theorem l_copy_1 {E : gE} {σ σ' : gS} (a : Int) (nn : Nat) (hn : nn ≤ 1) (hc : gCt E mX6_copy 12 nn [rf 0 0, iv a] σ (.inr "java/lang/IndexOutOfBoundsException") σ') : hCt E mL_copy hhL_copy 13 1 [rf 0 0, iv a, rf 23 0] σ (.inl (some (iv (1)))) σ' := by
  refine hCt_of (L := [some (rf 0 0), some (iv a), some (rf 23 0), none]) (by decide +kernel) rfl rfl (Nat.le_of_ble_eq_true rfl) (fun X K hE => ?_)
  refine h_aload_2 K dL_copy_0 ?_
  refine h_iconst K dL_copy_1 ?_
  refine h_aload_0 K dL_copy_2 ?_
  refine h_iload_1 K dL_copy_3 ?_
  refine h_catV1 K hc mtX6_copy miX6_copy rc0 ⟨by decide, by decide⟩ lkRL_34 ⟨by decide, by omega, by omega⟩ rfl (Nat.le_of_ble_eq_true rfl) dL_copy_4 ⟨[], (0, 9, 12, 20), [(0, 9, 15, 15)], "java/lang/IndexOutOfBoundsException", rfl, (fun q hq => absurd hq List.not_mem_nil), by decide, by decide, (g_mem 571 (by decide +kernel)), (g_mem 387 (by decide +kernel)), rfl⟩ (fun q => ?_)
  refine h_astorec_3 K dL_copy_12 rfl ?_
  refine h_iconst K dL_copy_13 ?_
  exact h_iret K hE rfl dL_copy_14 (by omega) (by omega) rfl rfl
theorem l_copy_2 {E : gE} {σ σ' : gS} (a : Int) (nn : Nat) (hn : nn ≤ 1) (hc : gCt E mX6_copy 12 nn [rf 0 0, iv a] σ (.inr "java/lang/UnsupportedOperationException") σ') : hCt E mL_copy hhL_copy 13 1 [rf 0 0, iv a, rf 23 0] σ (.inl (some (iv (2)))) σ' := by
  refine hCt_of (L := [some (rf 0 0), some (iv a), some (rf 23 0), none]) (by decide +kernel) rfl rfl (Nat.le_of_ble_eq_true rfl) (fun X K hE => ?_)
  refine h_aload_2 K dL_copy_0 ?_
  refine h_iconst K dL_copy_1 ?_
  refine h_aload_0 K dL_copy_2 ?_
  refine h_iload_1 K dL_copy_3 ?_
  refine h_catV1 K hc mtX6_copy miX6_copy rc0 ⟨by decide, by decide⟩ lkRL_34 ⟨by decide, by omega, by omega⟩ rfl (Nat.le_of_ble_eq_true rfl) dL_copy_4 ⟨[(0, 9, 12, 20)], (0, 9, 15, 15), [], "java/lang/UnsupportedOperationException", rfl, (List.forall_mem_cons.mpr ⟨⟨by decide, "java/lang/IndexOutOfBoundsException", (g_mem 571 (by decide +kernel)), by decide +kernel⟩, fun _ h => absurd h List.not_mem_nil⟩), by decide, by decide, (g_mem 297 (by decide +kernel)), (g_mem 475 (by decide +kernel)), rfl⟩ (fun q => ?_)
  refine h_astorec_3 K dL_copy_15 rfl ?_
  refine h_iconst K dL_copy_16 ?_
  exact h_iret K hE rfl dL_copy_17 (by omega) (by omega) rfl rfl
abbrev mL_slip : gMt := (yL_slip, cL_slip, 7, (Option.some Jvm.ClassFile.FieldType.int))
abbrev hhL_slip : List (Nat × Nat × Nat × Nat) := [(0, 14, 17, 20), (0, 14, 21, 13), (0, 14, 25, 15)]
theorem l_slip {E : gE} {σ σ' : gS} (a b c e : Int) (r : Int) (nn : Nat) (hn : nn ≤ 1) (hc : gCt E mX6_slip 12 nn [rf 0 0, iv a, iv b, iv c, iv e] σ (.inl (some (iv r))) σ') : hCt E mL_slip hhL_slip 13 1 [rf 0 0, iv a, iv b, iv c, iv e, rf 23 0] σ (.inl (some (iv (0)))) (gOl σ' (lv r)) := by
  refine hCt_of (L := [some (rf 0 0), some (iv a), some (iv b), some (iv c), some (iv e), some (rf 23 0), none]) (by decide +kernel) rfl rfl (Nat.le_of_ble_eq_true rfl) (fun X K hE => ?_)
  refine h_aload_5 K dL_slip_0 ?_
  refine h_iconst K dL_slip_2 ?_
  refine h_aload_0 K dL_slip_3 ?_
  refine h_iload_1 K dL_slip_4 ?_
  refine h_iload_2 K dL_slip_5 ?_
  refine h_iload_3 K dL_slip_6 ?_
  refine h_iload_4 K dL_slip_7 ?_
  refine h_callV4 K hc mtX6_slip miX6_slip rc0 ⟨by decide, by decide⟩ lkRL_37 ⟨by decide, by omega, by omega⟩ rfl (Nat.le_of_ble_eq_true rfl) dL_slip_9 ?_
  refine h_i2l K dL_slip_12 ?_
  refine h_last K dL_slip_13 ?_
  refine h_goto (tgt := 29) K dL_slip_14 (by decide) ?_
  refine h_iconst K dL_slip_29 ?_
  exact h_iret K hE rfl dL_slip_30 (by omega) (by omega) rfl rfl
theorem l_slip_1 {E : gE} {σ σ' : gS} (a b c e : Int) (nn : Nat) (hn : nn ≤ 1) (hc : gCt E mX6_slip 12 nn [rf 0 0, iv a, iv b, iv c, iv e] σ (.inr "java/lang/IndexOutOfBoundsException") σ') : hCt E mL_slip hhL_slip 13 1 [rf 0 0, iv a, iv b, iv c, iv e, rf 23 0] σ (.inl (some (iv (1)))) σ' := by
  refine hCt_of (L := [some (rf 0 0), some (iv a), some (iv b), some (iv c), some (iv e), some (rf 23 0), none]) (by decide +kernel) rfl rfl (Nat.le_of_ble_eq_true rfl) (fun X K hE => ?_)
  refine h_aload_5 K dL_slip_0 ?_
  refine h_iconst K dL_slip_2 ?_
  refine h_aload_0 K dL_slip_3 ?_
  refine h_iload_1 K dL_slip_4 ?_
  refine h_iload_2 K dL_slip_5 ?_
  refine h_iload_3 K dL_slip_6 ?_
  refine h_iload_4 K dL_slip_7 ?_
  refine h_catV4 K hc mtX6_slip miX6_slip rc0 ⟨by decide, by decide⟩ lkRL_37 ⟨by decide, by omega, by omega⟩ rfl (Nat.le_of_ble_eq_true rfl) dL_slip_9 ⟨[], (0, 14, 17, 20), [(0, 14, 21, 13), (0, 14, 25, 15)], "java/lang/IndexOutOfBoundsException", rfl, (fun q hq => absurd hq List.not_mem_nil), by decide, by decide, (g_mem 571 (by decide +kernel)), (g_mem 387 (by decide +kernel)), rfl⟩ (fun q => ?_)
  refine h_astorec_6 K dL_slip_17 rfl ?_
  refine h_iconst K dL_slip_19 ?_
  exact h_iret K hE rfl dL_slip_20 (by omega) (by omega) rfl rfl
theorem l_slip_2 {E : gE} {σ σ' : gS} (a b c e : Int) (nn : Nat) (hn : nn ≤ 1) (hc : gCt E mX6_slip 12 nn [rf 0 0, iv a, iv b, iv c, iv e] σ (.inr "java/lang/IllegalArgumentException") σ') : hCt E mL_slip hhL_slip 13 1 [rf 0 0, iv a, iv b, iv c, iv e, rf 23 0] σ (.inl (some (iv (2)))) σ' := by
  refine hCt_of (L := [some (rf 0 0), some (iv a), some (iv b), some (iv c), some (iv e), some (rf 23 0), none]) (by decide +kernel) rfl rfl (Nat.le_of_ble_eq_true rfl) (fun X K hE => ?_)
  refine h_aload_5 K dL_slip_0 ?_
  refine h_iconst K dL_slip_2 ?_
  refine h_aload_0 K dL_slip_3 ?_
  refine h_iload_1 K dL_slip_4 ?_
  refine h_iload_2 K dL_slip_5 ?_
  refine h_iload_3 K dL_slip_6 ?_
  refine h_iload_4 K dL_slip_7 ?_
  refine h_catV4 K hc mtX6_slip miX6_slip rc0 ⟨by decide, by decide⟩ lkRL_37 ⟨by decide, by omega, by omega⟩ rfl (Nat.le_of_ble_eq_true rfl) dL_slip_9 ⟨[(0, 14, 17, 20)], (0, 14, 21, 13), [(0, 14, 25, 15)], "java/lang/IllegalArgumentException", rfl, (List.forall_mem_cons.mpr ⟨⟨by decide, "java/lang/IndexOutOfBoundsException", (g_mem 571 (by decide +kernel)), by decide +kernel⟩, fun _ h => absurd h List.not_mem_nil⟩), by decide, by decide, (g_mem 296 (by decide +kernel)), (g_mem 459 (by decide +kernel)), rfl⟩ (fun q => ?_)
  refine h_astorec_6 K dL_slip_21 rfl ?_
  refine h_iconst K dL_slip_23 ?_
  exact h_iret K hE rfl dL_slip_24 (by omega) (by omega) rfl rfl
theorem l_slip_3 {E : gE} {σ σ' : gS} (a b c e : Int) (nn : Nat) (hn : nn ≤ 1) (hc : gCt E mX6_slip 12 nn [rf 0 0, iv a, iv b, iv c, iv e] σ (.inr "java/lang/UnsupportedOperationException") σ') : hCt E mL_slip hhL_slip 13 1 [rf 0 0, iv a, iv b, iv c, iv e, rf 23 0] σ (.inl (some (iv (3)))) σ' := by
  refine hCt_of (L := [some (rf 0 0), some (iv a), some (iv b), some (iv c), some (iv e), some (rf 23 0), none]) (by decide +kernel) rfl rfl (Nat.le_of_ble_eq_true rfl) (fun X K hE => ?_)
  refine h_aload_5 K dL_slip_0 ?_
  refine h_iconst K dL_slip_2 ?_
  refine h_aload_0 K dL_slip_3 ?_
  refine h_iload_1 K dL_slip_4 ?_
  refine h_iload_2 K dL_slip_5 ?_
  refine h_iload_3 K dL_slip_6 ?_
  refine h_iload_4 K dL_slip_7 ?_
  refine h_catV4 K hc mtX6_slip miX6_slip rc0 ⟨by decide, by decide⟩ lkRL_37 ⟨by decide, by omega, by omega⟩ rfl (Nat.le_of_ble_eq_true rfl) dL_slip_9 ⟨[(0, 14, 17, 20), (0, 14, 21, 13)], (0, 14, 25, 15), [], "java/lang/UnsupportedOperationException", rfl, (List.forall_mem_cons.mpr ⟨⟨by decide, "java/lang/IndexOutOfBoundsException", (g_mem 571 (by decide +kernel)), by decide +kernel⟩, List.forall_mem_cons.mpr ⟨⟨by decide, "java/lang/IllegalArgumentException", (g_mem 296 (by decide +kernel)), by decide +kernel⟩, fun _ h => absurd h List.not_mem_nil⟩⟩), by decide, by decide, (g_mem 297 (by decide +kernel)), (g_mem 475 (by decide +kernel)), rfl⟩ (fun q => ?_)
  refine h_astorec_6 K dL_slip_25 rfl ?_
  refine h_iconst K dL_slip_27 ?_
  exact h_iret K hE rfl dL_slip_28 (by omega) (by omega) rfl rfl
abbrev mL_smudge : gMt := (yL_smudge, cL_smudge, 6, (Option.some Jvm.ClassFile.FieldType.int))
abbrev hhL_smudge : List (Nat × Nat × Nat × Nat) := [(0, 12, 15, 20), (0, 12, 19, 15)]
theorem l_smudge {E : gE} {σ σ' : gS} (a b c : Int) (r : Int) (nn : Nat) (hn : nn ≤ 1) (hc : gCt E mX6_smudge 12 nn [rf 0 0, iv a, iv b, iv c] σ (.inl (some (iv r))) σ') : hCt E mL_smudge hhL_smudge 13 1 [rf 0 0, iv a, iv b, iv c, rf 23 0] σ (.inl (some (iv (0)))) (gOl σ' (lv r)) := by
  refine hCt_of (L := [some (rf 0 0), some (iv a), some (iv b), some (iv c), some (rf 23 0), none]) (by decide +kernel) rfl rfl (Nat.le_of_ble_eq_true rfl) (fun X K hE => ?_)
  refine h_aload_4 K dL_smudge_0 ?_
  refine h_iconst K dL_smudge_2 ?_
  refine h_aload_0 K dL_smudge_3 ?_
  refine h_iload_1 K dL_smudge_4 ?_
  refine h_iload_2 K dL_smudge_5 ?_
  refine h_iload_3 K dL_smudge_6 ?_
  refine h_callV3 K hc mtX6_smudge miX6_smudge rc0 ⟨by decide, by decide⟩ lkRL_40 ⟨by decide, by omega, by omega⟩ rfl (Nat.le_of_ble_eq_true rfl) dL_smudge_7 ?_
  refine h_i2l K dL_smudge_10 ?_
  refine h_last K dL_smudge_11 ?_
  refine h_goto (tgt := 23) K dL_smudge_12 (by decide) ?_
  refine h_iconst K dL_smudge_23 ?_
  exact h_iret K hE rfl dL_smudge_24 (by omega) (by omega) rfl rfl
theorem l_smudge_1 {E : gE} {σ σ' : gS} (a b c : Int) (nn : Nat) (hn : nn ≤ 1) (hc : gCt E mX6_smudge 12 nn [rf 0 0, iv a, iv b, iv c] σ (.inr "java/lang/IndexOutOfBoundsException") σ') : hCt E mL_smudge hhL_smudge 13 1 [rf 0 0, iv a, iv b, iv c, rf 23 0] σ (.inl (some (iv (1)))) σ' := by
  refine hCt_of (L := [some (rf 0 0), some (iv a), some (iv b), some (iv c), some (rf 23 0), none]) (by decide +kernel) rfl rfl (Nat.le_of_ble_eq_true rfl) (fun X K hE => ?_)
  refine h_aload_4 K dL_smudge_0 ?_
  refine h_iconst K dL_smudge_2 ?_
  refine h_aload_0 K dL_smudge_3 ?_
  refine h_iload_1 K dL_smudge_4 ?_
  refine h_iload_2 K dL_smudge_5 ?_
  refine h_iload_3 K dL_smudge_6 ?_
  refine h_catV3 K hc mtX6_smudge miX6_smudge rc0 ⟨by decide, by decide⟩ lkRL_40 ⟨by decide, by omega, by omega⟩ rfl (Nat.le_of_ble_eq_true rfl) dL_smudge_7 ⟨[], (0, 12, 15, 20), [(0, 12, 19, 15)], "java/lang/IndexOutOfBoundsException", rfl, (fun q hq => absurd hq List.not_mem_nil), by decide, by decide, (g_mem 571 (by decide +kernel)), (g_mem 387 (by decide +kernel)), rfl⟩ (fun q => ?_)
  refine h_astorec_5 K dL_smudge_15 rfl ?_
  refine h_iconst K dL_smudge_17 ?_
  exact h_iret K hE rfl dL_smudge_18 (by omega) (by omega) rfl rfl
theorem l_smudge_2 {E : gE} {σ σ' : gS} (a b c : Int) (nn : Nat) (hn : nn ≤ 1) (hc : gCt E mX6_smudge 12 nn [rf 0 0, iv a, iv b, iv c] σ (.inr "java/lang/UnsupportedOperationException") σ') : hCt E mL_smudge hhL_smudge 13 1 [rf 0 0, iv a, iv b, iv c, rf 23 0] σ (.inl (some (iv (2)))) σ' := by
  refine hCt_of (L := [some (rf 0 0), some (iv a), some (iv b), some (iv c), some (rf 23 0), none]) (by decide +kernel) rfl rfl (Nat.le_of_ble_eq_true rfl) (fun X K hE => ?_)
  refine h_aload_4 K dL_smudge_0 ?_
  refine h_iconst K dL_smudge_2 ?_
  refine h_aload_0 K dL_smudge_3 ?_
  refine h_iload_1 K dL_smudge_4 ?_
  refine h_iload_2 K dL_smudge_5 ?_
  refine h_iload_3 K dL_smudge_6 ?_
  refine h_catV3 K hc mtX6_smudge miX6_smudge rc0 ⟨by decide, by decide⟩ lkRL_40 ⟨by decide, by omega, by omega⟩ rfl (Nat.le_of_ble_eq_true rfl) dL_smudge_7 ⟨[(0, 12, 15, 20)], (0, 12, 19, 15), [], "java/lang/UnsupportedOperationException", rfl, (List.forall_mem_cons.mpr ⟨⟨by decide, "java/lang/IndexOutOfBoundsException", (g_mem 571 (by decide +kernel)), by decide +kernel⟩, fun _ h => absurd h List.not_mem_nil⟩), by decide, by decide, (g_mem 297 (by decide +kernel)), (g_mem 475 (by decide +kernel)), rfl⟩ (fun q => ?_)
  refine h_astorec_5 K dL_smudge_19 rfl ?_
  refine h_iconst K dL_smudge_21 ?_
  exact h_iret K hE rfl dL_smudge_22 (by omega) (by omega) rfl rfl
abbrev mL_rowSum : gMt := (yL_rowSum, cL_rowSum, 5, (Option.some Jvm.ClassFile.FieldType.int))
abbrev hhL_rowSum : List (Nat × Nat × Nat × Nat) := [(0, 10, 13, 20), (0, 10, 17, 46)]
theorem l_rowSum {E : gE} {σ σ' : gS} (a b : Int) (r : Int) (nn : Nat) (hn : nn ≤ 1) (hc : gCt E mX6_rowSum 12 nn [rf 0 0, iv a, iv b] σ (.inl (some (iv r))) σ') : hCt E mL_rowSum hhL_rowSum 13 1 [rf 0 0, iv a, iv b, rf 23 0] σ (.inl (some (iv (0)))) (gOl σ' (lv r)) := by
  refine hCt_of (L := [some (rf 0 0), some (iv a), some (iv b), some (rf 23 0), none]) (by decide +kernel) rfl rfl (Nat.le_of_ble_eq_true rfl) (fun X K hE => ?_)
  refine h_aload_3 K dL_rowSum_0 ?_
  refine h_iconst K dL_rowSum_1 ?_
  refine h_aload_0 K dL_rowSum_2 ?_
  refine h_iload_1 K dL_rowSum_3 ?_
  refine h_iload_2 K dL_rowSum_4 ?_
  refine h_callV2 K hc mtX6_rowSum miX6_rowSum rc0 ⟨by decide, by decide⟩ lkRL_43 ⟨by decide, by omega, by omega⟩ rfl (Nat.le_of_ble_eq_true rfl) dL_rowSum_5 ?_
  refine h_i2l K dL_rowSum_8 ?_
  refine h_last K dL_rowSum_9 ?_
  refine h_goto (tgt := 21) K dL_rowSum_10 (by decide) ?_
  refine h_iconst K dL_rowSum_21 ?_
  exact h_iret K hE rfl dL_rowSum_22 (by omega) (by omega) rfl rfl
theorem l_rowSum_1 {E : gE} {σ σ' : gS} (a b : Int) (nn : Nat) (hn : nn ≤ 1) (hc : gCt E mX6_rowSum 12 nn [rf 0 0, iv a, iv b] σ (.inr "java/lang/IndexOutOfBoundsException") σ') : hCt E mL_rowSum hhL_rowSum 13 1 [rf 0 0, iv a, iv b, rf 23 0] σ (.inl (some (iv (1)))) σ' := by
  refine hCt_of (L := [some (rf 0 0), some (iv a), some (iv b), some (rf 23 0), none]) (by decide +kernel) rfl rfl (Nat.le_of_ble_eq_true rfl) (fun X K hE => ?_)
  refine h_aload_3 K dL_rowSum_0 ?_
  refine h_iconst K dL_rowSum_1 ?_
  refine h_aload_0 K dL_rowSum_2 ?_
  refine h_iload_1 K dL_rowSum_3 ?_
  refine h_iload_2 K dL_rowSum_4 ?_
  refine h_catV2 K hc mtX6_rowSum miX6_rowSum rc0 ⟨by decide, by decide⟩ lkRL_43 ⟨by decide, by omega, by omega⟩ rfl (Nat.le_of_ble_eq_true rfl) dL_rowSum_5 ⟨[], (0, 10, 13, 20), [(0, 10, 17, 46)], "java/lang/IndexOutOfBoundsException", rfl, (fun q hq => absurd hq List.not_mem_nil), by decide, by decide, (g_mem 571 (by decide +kernel)), (g_mem 387 (by decide +kernel)), rfl⟩ (fun q => ?_)
  refine h_astorec_4 K dL_rowSum_13 rfl ?_
  refine h_iconst K dL_rowSum_15 ?_
  exact h_iret K hE rfl dL_rowSum_16 (by omega) (by omega) rfl rfl
theorem l_rowSum_2 {E : gE} {σ σ' : gS} (a b : Int) (nn : Nat) (hn : nn ≤ 1) (hc : gCt E mX6_rowSum 12 nn [rf 0 0, iv a, iv b] σ (.inr "java/util/NoSuchElementException") σ') : hCt E mL_rowSum hhL_rowSum 13 1 [rf 0 0, iv a, iv b, rf 23 0] σ (.inl (some (iv (2)))) σ' := by
  refine hCt_of (L := [some (rf 0 0), some (iv a), some (iv b), some (rf 23 0), none]) (by decide +kernel) rfl rfl (Nat.le_of_ble_eq_true rfl) (fun X K hE => ?_)
  refine h_aload_3 K dL_rowSum_0 ?_
  refine h_iconst K dL_rowSum_1 ?_
  refine h_aload_0 K dL_rowSum_2 ?_
  refine h_iload_1 K dL_rowSum_3 ?_
  refine h_iload_2 K dL_rowSum_4 ?_
  refine h_catV2 K hc mtX6_rowSum miX6_rowSum rc0 ⟨by decide, by decide⟩ lkRL_43 ⟨by decide, by omega, by omega⟩ rfl (Nat.le_of_ble_eq_true rfl) dL_rowSum_5 ⟨[(0, 10, 13, 20)], (0, 10, 17, 46), [], "java/util/NoSuchElementException", rfl, (List.forall_mem_cons.mpr ⟨⟨by decide, "java/lang/IndexOutOfBoundsException", (g_mem 571 (by decide +kernel)), by decide +kernel⟩, fun _ h => absurd h List.not_mem_nil⟩), by decide, by decide, (g_mem 666 (by decide +kernel)), (g_mem 682 (by decide +kernel)), rfl⟩ (fun q => ?_)
  refine h_astorec_4 K dL_rowSum_17 rfl ?_
  refine h_iconst K dL_rowSum_19 ?_
  exact h_iret K hE rfl dL_rowSum_20 (by omega) (by omega) rfl rfl
abbrev mL_columnSum : gMt := (yL_columnSum, cL_columnSum, 5, (Option.some Jvm.ClassFile.FieldType.int))
abbrev hhL_columnSum : List (Nat × Nat × Nat × Nat) := [(0, 10, 13, 20), (0, 10, 17, 46)]
theorem l_columnSum {E : gE} {σ σ' : gS} (a b : Int) (r : Int) (nn : Nat) (hn : nn ≤ 1) (hc : gCt E mX6_columnSum 12 nn [rf 0 0, iv a, iv b] σ (.inl (some (iv r))) σ') : hCt E mL_columnSum hhL_columnSum 13 1 [rf 0 0, iv a, iv b, rf 23 0] σ (.inl (some (iv (0)))) (gOl σ' (lv r)) := by
  refine hCt_of (L := [some (rf 0 0), some (iv a), some (iv b), some (rf 23 0), none]) (by decide +kernel) rfl rfl (Nat.le_of_ble_eq_true rfl) (fun X K hE => ?_)
  refine h_aload_3 K dL_columnSum_0 ?_
  refine h_iconst K dL_columnSum_1 ?_
  refine h_aload_0 K dL_columnSum_2 ?_
  refine h_iload_1 K dL_columnSum_3 ?_
  refine h_iload_2 K dL_columnSum_4 ?_
  refine h_callV2 K hc mtX6_columnSum miX6_columnSum rc0 ⟨by decide, by decide⟩ lkRL_48 ⟨by decide, by omega, by omega⟩ rfl (Nat.le_of_ble_eq_true rfl) dL_columnSum_5 ?_
  refine h_i2l K dL_columnSum_8 ?_
  refine h_last K dL_columnSum_9 ?_
  refine h_goto (tgt := 21) K dL_columnSum_10 (by decide) ?_
  refine h_iconst K dL_columnSum_21 ?_
  exact h_iret K hE rfl dL_columnSum_22 (by omega) (by omega) rfl rfl
theorem l_columnSum_1 {E : gE} {σ σ' : gS} (a b : Int) (nn : Nat) (hn : nn ≤ 1) (hc : gCt E mX6_columnSum 12 nn [rf 0 0, iv a, iv b] σ (.inr "java/lang/IndexOutOfBoundsException") σ') : hCt E mL_columnSum hhL_columnSum 13 1 [rf 0 0, iv a, iv b, rf 23 0] σ (.inl (some (iv (1)))) σ' := by
  refine hCt_of (L := [some (rf 0 0), some (iv a), some (iv b), some (rf 23 0), none]) (by decide +kernel) rfl rfl (Nat.le_of_ble_eq_true rfl) (fun X K hE => ?_)
  refine h_aload_3 K dL_columnSum_0 ?_
  refine h_iconst K dL_columnSum_1 ?_
  refine h_aload_0 K dL_columnSum_2 ?_
  refine h_iload_1 K dL_columnSum_3 ?_
  refine h_iload_2 K dL_columnSum_4 ?_
  refine h_catV2 K hc mtX6_columnSum miX6_columnSum rc0 ⟨by decide, by decide⟩ lkRL_48 ⟨by decide, by omega, by omega⟩ rfl (Nat.le_of_ble_eq_true rfl) dL_columnSum_5 ⟨[], (0, 10, 13, 20), [(0, 10, 17, 46)], "java/lang/IndexOutOfBoundsException", rfl, (fun q hq => absurd hq List.not_mem_nil), by decide, by decide, (g_mem 571 (by decide +kernel)), (g_mem 387 (by decide +kernel)), rfl⟩ (fun q => ?_)
  refine h_astorec_4 K dL_columnSum_13 rfl ?_
  refine h_iconst K dL_columnSum_15 ?_
  exact h_iret K hE rfl dL_columnSum_16 (by omega) (by omega) rfl rfl
theorem l_columnSum_2 {E : gE} {σ σ' : gS} (a b : Int) (nn : Nat) (hn : nn ≤ 1) (hc : gCt E mX6_columnSum 12 nn [rf 0 0, iv a, iv b] σ (.inr "java/util/NoSuchElementException") σ') : hCt E mL_columnSum hhL_columnSum 13 1 [rf 0 0, iv a, iv b, rf 23 0] σ (.inl (some (iv (2)))) σ' := by
  refine hCt_of (L := [some (rf 0 0), some (iv a), some (iv b), some (rf 23 0), none]) (by decide +kernel) rfl rfl (Nat.le_of_ble_eq_true rfl) (fun X K hE => ?_)
  refine h_aload_3 K dL_columnSum_0 ?_
  refine h_iconst K dL_columnSum_1 ?_
  refine h_aload_0 K dL_columnSum_2 ?_
  refine h_iload_1 K dL_columnSum_3 ?_
  refine h_iload_2 K dL_columnSum_4 ?_
  refine h_catV2 K hc mtX6_columnSum miX6_columnSum rc0 ⟨by decide, by decide⟩ lkRL_48 ⟨by decide, by omega, by omega⟩ rfl (Nat.le_of_ble_eq_true rfl) dL_columnSum_5 ⟨[(0, 10, 13, 20)], (0, 10, 17, 46), [], "java/util/NoSuchElementException", rfl, (List.forall_mem_cons.mpr ⟨⟨by decide, "java/lang/IndexOutOfBoundsException", (g_mem 571 (by decide +kernel)), by decide +kernel⟩, fun _ h => absurd h List.not_mem_nil⟩), by decide, by decide, (g_mem 666 (by decide +kernel)), (g_mem 682 (by decide +kernel)), rfl⟩ (fun q => ?_)
  refine h_astorec_4 K dL_columnSum_17 rfl ?_
  refine h_iconst K dL_columnSum_19 ?_
  exact h_iret K hE rfl dL_columnSum_20 (by omega) (by omega) rfl rfl
abbrev mL_rowFault : gMt := (yL_rowFault, cL_rowFault, 5, (Option.some Jvm.ClassFile.FieldType.int))
abbrev hhL_rowFault : List (Nat × Nat × Nat × Nat) := [(0, 10, 13, 20), (0, 10, 17, 46)]
theorem l_rowFault {E : gE} {σ σ' : gS} (a b : Int) (r : Int) (nn : Nat) (hn : nn ≤ 1) (hc : gCt E mX6_rowFault 12 nn [rf 0 0, iv a, iv b] σ (.inl (some (iv r))) σ') : hCt E mL_rowFault hhL_rowFault 13 1 [rf 0 0, iv a, iv b, rf 23 0] σ (.inl (some (iv (0)))) (gOl σ' (lv r)) := by
  refine hCt_of (L := [some (rf 0 0), some (iv a), some (iv b), some (rf 23 0), none]) (by decide +kernel) rfl rfl (Nat.le_of_ble_eq_true rfl) (fun X K hE => ?_)
  refine h_aload_3 K dL_rowFault_0 ?_
  refine h_iconst K dL_rowFault_1 ?_
  refine h_aload_0 K dL_rowFault_2 ?_
  refine h_iload_1 K dL_rowFault_3 ?_
  refine h_iload_2 K dL_rowFault_4 ?_
  refine h_callV2 K hc mtX6_rowFault miX6_rowFault rc0 ⟨by decide, by decide⟩ lkRL_51 ⟨by decide, by omega, by omega⟩ rfl (Nat.le_of_ble_eq_true rfl) dL_rowFault_5 ?_
  refine h_i2l K dL_rowFault_8 ?_
  refine h_last K dL_rowFault_9 ?_
  refine h_goto (tgt := 21) K dL_rowFault_10 (by decide) ?_
  refine h_iconst K dL_rowFault_21 ?_
  exact h_iret K hE rfl dL_rowFault_22 (by omega) (by omega) rfl rfl
theorem l_rowFault_1 {E : gE} {σ σ' : gS} (a b : Int) (nn : Nat) (hn : nn ≤ 1) (hc : gCt E mX6_rowFault 12 nn [rf 0 0, iv a, iv b] σ (.inr "java/lang/IndexOutOfBoundsException") σ') : hCt E mL_rowFault hhL_rowFault 13 1 [rf 0 0, iv a, iv b, rf 23 0] σ (.inl (some (iv (1)))) σ' := by
  refine hCt_of (L := [some (rf 0 0), some (iv a), some (iv b), some (rf 23 0), none]) (by decide +kernel) rfl rfl (Nat.le_of_ble_eq_true rfl) (fun X K hE => ?_)
  refine h_aload_3 K dL_rowFault_0 ?_
  refine h_iconst K dL_rowFault_1 ?_
  refine h_aload_0 K dL_rowFault_2 ?_
  refine h_iload_1 K dL_rowFault_3 ?_
  refine h_iload_2 K dL_rowFault_4 ?_
  refine h_catV2 K hc mtX6_rowFault miX6_rowFault rc0 ⟨by decide, by decide⟩ lkRL_51 ⟨by decide, by omega, by omega⟩ rfl (Nat.le_of_ble_eq_true rfl) dL_rowFault_5 ⟨[], (0, 10, 13, 20), [(0, 10, 17, 46)], "java/lang/IndexOutOfBoundsException", rfl, (fun q hq => absurd hq List.not_mem_nil), by decide, by decide, (g_mem 571 (by decide +kernel)), (g_mem 387 (by decide +kernel)), rfl⟩ (fun q => ?_)
  refine h_astorec_4 K dL_rowFault_13 rfl ?_
  refine h_iconst K dL_rowFault_15 ?_
  exact h_iret K hE rfl dL_rowFault_16 (by omega) (by omega) rfl rfl
theorem l_rowFault_2 {E : gE} {σ σ' : gS} (a b : Int) (nn : Nat) (hn : nn ≤ 1) (hc : gCt E mX6_rowFault 12 nn [rf 0 0, iv a, iv b] σ (.inr "java/util/NoSuchElementException") σ') : hCt E mL_rowFault hhL_rowFault 13 1 [rf 0 0, iv a, iv b, rf 23 0] σ (.inl (some (iv (2)))) σ' := by
  refine hCt_of (L := [some (rf 0 0), some (iv a), some (iv b), some (rf 23 0), none]) (by decide +kernel) rfl rfl (Nat.le_of_ble_eq_true rfl) (fun X K hE => ?_)
  refine h_aload_3 K dL_rowFault_0 ?_
  refine h_iconst K dL_rowFault_1 ?_
  refine h_aload_0 K dL_rowFault_2 ?_
  refine h_iload_1 K dL_rowFault_3 ?_
  refine h_iload_2 K dL_rowFault_4 ?_
  refine h_catV2 K hc mtX6_rowFault miX6_rowFault rc0 ⟨by decide, by decide⟩ lkRL_51 ⟨by decide, by omega, by omega⟩ rfl (Nat.le_of_ble_eq_true rfl) dL_rowFault_5 ⟨[(0, 10, 13, 20)], (0, 10, 17, 46), [], "java/util/NoSuchElementException", rfl, (List.forall_mem_cons.mpr ⟨⟨by decide, "java/lang/IndexOutOfBoundsException", (g_mem 571 (by decide +kernel)), by decide +kernel⟩, fun _ h => absurd h List.not_mem_nil⟩), by decide, by decide, (g_mem 666 (by decide +kernel)), (g_mem 682 (by decide +kernel)), rfl⟩ (fun q => ?_)
  refine h_astorec_4 K dL_rowFault_17 rfl ?_
  refine h_iconst K dL_rowFault_19 ?_
  exact h_iret K hE rfl dL_rowFault_20 (by omega) (by omega) rfl rfl
abbrev mL_columnFault : gMt := (yL_columnFault, cL_columnFault, 5, (Option.some Jvm.ClassFile.FieldType.int))
abbrev hhL_columnFault : List (Nat × Nat × Nat × Nat) := [(0, 10, 13, 20), (0, 10, 17, 46)]
theorem l_columnFault {E : gE} {σ σ' : gS} (a b : Int) (r : Int) (nn : Nat) (hn : nn ≤ 1) (hc : gCt E mX6_columnFault 12 nn [rf 0 0, iv a, iv b] σ (.inl (some (iv r))) σ') : hCt E mL_columnFault hhL_columnFault 13 1 [rf 0 0, iv a, iv b, rf 23 0] σ (.inl (some (iv (0)))) (gOl σ' (lv r)) := by
  refine hCt_of (L := [some (rf 0 0), some (iv a), some (iv b), some (rf 23 0), none]) (by decide +kernel) rfl rfl (Nat.le_of_ble_eq_true rfl) (fun X K hE => ?_)
  refine h_aload_3 K dL_columnFault_0 ?_
  refine h_iconst K dL_columnFault_1 ?_
  refine h_aload_0 K dL_columnFault_2 ?_
  refine h_iload_1 K dL_columnFault_3 ?_
  refine h_iload_2 K dL_columnFault_4 ?_
  refine h_callV2 K hc mtX6_columnFault miX6_columnFault rc0 ⟨by decide, by decide⟩ lkRL_54 ⟨by decide, by omega, by omega⟩ rfl (Nat.le_of_ble_eq_true rfl) dL_columnFault_5 ?_
  refine h_i2l K dL_columnFault_8 ?_
  refine h_last K dL_columnFault_9 ?_
  refine h_goto (tgt := 21) K dL_columnFault_10 (by decide) ?_
  refine h_iconst K dL_columnFault_21 ?_
  exact h_iret K hE rfl dL_columnFault_22 (by omega) (by omega) rfl rfl
theorem l_columnFault_1 {E : gE} {σ σ' : gS} (a b : Int) (nn : Nat) (hn : nn ≤ 1) (hc : gCt E mX6_columnFault 12 nn [rf 0 0, iv a, iv b] σ (.inr "java/lang/IndexOutOfBoundsException") σ') : hCt E mL_columnFault hhL_columnFault 13 1 [rf 0 0, iv a, iv b, rf 23 0] σ (.inl (some (iv (1)))) σ' := by
  refine hCt_of (L := [some (rf 0 0), some (iv a), some (iv b), some (rf 23 0), none]) (by decide +kernel) rfl rfl (Nat.le_of_ble_eq_true rfl) (fun X K hE => ?_)
  refine h_aload_3 K dL_columnFault_0 ?_
  refine h_iconst K dL_columnFault_1 ?_
  refine h_aload_0 K dL_columnFault_2 ?_
  refine h_iload_1 K dL_columnFault_3 ?_
  refine h_iload_2 K dL_columnFault_4 ?_
  refine h_catV2 K hc mtX6_columnFault miX6_columnFault rc0 ⟨by decide, by decide⟩ lkRL_54 ⟨by decide, by omega, by omega⟩ rfl (Nat.le_of_ble_eq_true rfl) dL_columnFault_5 ⟨[], (0, 10, 13, 20), [(0, 10, 17, 46)], "java/lang/IndexOutOfBoundsException", rfl, (fun q hq => absurd hq List.not_mem_nil), by decide, by decide, (g_mem 571 (by decide +kernel)), (g_mem 387 (by decide +kernel)), rfl⟩ (fun q => ?_)
  refine h_astorec_4 K dL_columnFault_13 rfl ?_
  refine h_iconst K dL_columnFault_15 ?_
  exact h_iret K hE rfl dL_columnFault_16 (by omega) (by omega) rfl rfl
theorem l_columnFault_2 {E : gE} {σ σ' : gS} (a b : Int) (nn : Nat) (hn : nn ≤ 1) (hc : gCt E mX6_columnFault 12 nn [rf 0 0, iv a, iv b] σ (.inr "java/util/NoSuchElementException") σ') : hCt E mL_columnFault hhL_columnFault 13 1 [rf 0 0, iv a, iv b, rf 23 0] σ (.inl (some (iv (2)))) σ' := by
  refine hCt_of (L := [some (rf 0 0), some (iv a), some (iv b), some (rf 23 0), none]) (by decide +kernel) rfl rfl (Nat.le_of_ble_eq_true rfl) (fun X K hE => ?_)
  refine h_aload_3 K dL_columnFault_0 ?_
  refine h_iconst K dL_columnFault_1 ?_
  refine h_aload_0 K dL_columnFault_2 ?_
  refine h_iload_1 K dL_columnFault_3 ?_
  refine h_iload_2 K dL_columnFault_4 ?_
  refine h_catV2 K hc mtX6_columnFault miX6_columnFault rc0 ⟨by decide, by decide⟩ lkRL_54 ⟨by decide, by omega, by omega⟩ rfl (Nat.le_of_ble_eq_true rfl) dL_columnFault_5 ⟨[(0, 10, 13, 20)], (0, 10, 17, 46), [], "java/util/NoSuchElementException", rfl, (List.forall_mem_cons.mpr ⟨⟨by decide, "java/lang/IndexOutOfBoundsException", (g_mem 571 (by decide +kernel)), by decide +kernel⟩, fun _ h => absurd h List.not_mem_nil⟩), by decide, by decide, (g_mem 666 (by decide +kernel)), (g_mem 682 (by decide +kernel)), rfl⟩ (fun q => ?_)
  refine h_astorec_4 K dL_columnFault_17 rfl ?_
  refine h_iconst K dL_columnFault_19 ?_
  exact h_iret K hE rfl dL_columnFault_20 (by omega) (by omega) rfl rfl
abbrev mL_wrongRows : gMt := (yL_wrongRows, cL_wrongRows, 4, (Option.some Jvm.ClassFile.FieldType.int))
abbrev hhL_wrongRows : List (Nat × Nat × Nat × Nat) := [(0, 9, 12, 20), (0, 9, 15, 46)]
theorem l_wrongRows {E : gE} {σ σ' : gS} (a : Int) (r : Int) (nn : Nat) (hn : nn ≤ 1) (hc : gCt E mX6_wrongRows 12 nn [rf 0 0, iv a] σ (.inl (some (iv r))) σ') : hCt E mL_wrongRows hhL_wrongRows 13 1 [rf 0 0, iv a, rf 23 0] σ (.inl (some (iv (0)))) (gOl σ' (lv r)) := by
  refine hCt_of (L := [some (rf 0 0), some (iv a), some (rf 23 0), none]) (by decide +kernel) rfl rfl (Nat.le_of_ble_eq_true rfl) (fun X K hE => ?_)
  refine h_aload_2 K dL_wrongRows_0 ?_
  refine h_iconst K dL_wrongRows_1 ?_
  refine h_aload_0 K dL_wrongRows_2 ?_
  refine h_iload_1 K dL_wrongRows_3 ?_
  refine h_callV1 K hc mtX6_wrongRows miX6_wrongRows rc0 ⟨by decide, by decide⟩ lkRL_57 ⟨by decide, by omega, by omega⟩ rfl (Nat.le_of_ble_eq_true rfl) dL_wrongRows_4 ?_
  refine h_i2l K dL_wrongRows_7 ?_
  refine h_last K dL_wrongRows_8 ?_
  refine h_goto (tgt := 18) K dL_wrongRows_9 (by decide) ?_
  refine h_iconst K dL_wrongRows_18 ?_
  exact h_iret K hE rfl dL_wrongRows_19 (by omega) (by omega) rfl rfl
theorem l_wrongRows_1 {E : gE} {σ σ' : gS} (a : Int) (nn : Nat) (hn : nn ≤ 1) (hc : gCt E mX6_wrongRows 12 nn [rf 0 0, iv a] σ (.inr "java/lang/IndexOutOfBoundsException") σ') : hCt E mL_wrongRows hhL_wrongRows 13 1 [rf 0 0, iv a, rf 23 0] σ (.inl (some (iv (1)))) σ' := by
  refine hCt_of (L := [some (rf 0 0), some (iv a), some (rf 23 0), none]) (by decide +kernel) rfl rfl (Nat.le_of_ble_eq_true rfl) (fun X K hE => ?_)
  refine h_aload_2 K dL_wrongRows_0 ?_
  refine h_iconst K dL_wrongRows_1 ?_
  refine h_aload_0 K dL_wrongRows_2 ?_
  refine h_iload_1 K dL_wrongRows_3 ?_
  refine h_catV1 K hc mtX6_wrongRows miX6_wrongRows rc0 ⟨by decide, by decide⟩ lkRL_57 ⟨by decide, by omega, by omega⟩ rfl (Nat.le_of_ble_eq_true rfl) dL_wrongRows_4 ⟨[], (0, 9, 12, 20), [(0, 9, 15, 46)], "java/lang/IndexOutOfBoundsException", rfl, (fun q hq => absurd hq List.not_mem_nil), by decide, by decide, (g_mem 571 (by decide +kernel)), (g_mem 387 (by decide +kernel)), rfl⟩ (fun q => ?_)
  refine h_astorec_3 K dL_wrongRows_12 rfl ?_
  refine h_iconst K dL_wrongRows_13 ?_
  exact h_iret K hE rfl dL_wrongRows_14 (by omega) (by omega) rfl rfl
theorem l_wrongRows_2 {E : gE} {σ σ' : gS} (a : Int) (nn : Nat) (hn : nn ≤ 1) (hc : gCt E mX6_wrongRows 12 nn [rf 0 0, iv a] σ (.inr "java/util/NoSuchElementException") σ') : hCt E mL_wrongRows hhL_wrongRows 13 1 [rf 0 0, iv a, rf 23 0] σ (.inl (some (iv (2)))) σ' := by
  refine hCt_of (L := [some (rf 0 0), some (iv a), some (rf 23 0), none]) (by decide +kernel) rfl rfl (Nat.le_of_ble_eq_true rfl) (fun X K hE => ?_)
  refine h_aload_2 K dL_wrongRows_0 ?_
  refine h_iconst K dL_wrongRows_1 ?_
  refine h_aload_0 K dL_wrongRows_2 ?_
  refine h_iload_1 K dL_wrongRows_3 ?_
  refine h_catV1 K hc mtX6_wrongRows miX6_wrongRows rc0 ⟨by decide, by decide⟩ lkRL_57 ⟨by decide, by omega, by omega⟩ rfl (Nat.le_of_ble_eq_true rfl) dL_wrongRows_4 ⟨[(0, 9, 12, 20)], (0, 9, 15, 46), [], "java/util/NoSuchElementException", rfl, (List.forall_mem_cons.mpr ⟨⟨by decide, "java/lang/IndexOutOfBoundsException", (g_mem 571 (by decide +kernel)), by decide +kernel⟩, fun _ h => absurd h List.not_mem_nil⟩), by decide, by decide, (g_mem 666 (by decide +kernel)), (g_mem 682 (by decide +kernel)), rfl⟩ (fun q => ?_)
  refine h_astorec_3 K dL_wrongRows_15 rfl ?_
  refine h_iconst K dL_wrongRows_16 ?_
  exact h_iret K hE rfl dL_wrongRows_17 (by omega) (by omega) rfl rfl
abbrev mL_wrongColumns : gMt := (yL_wrongColumns, cL_wrongColumns, 4, (Option.some Jvm.ClassFile.FieldType.int))
abbrev hhL_wrongColumns : List (Nat × Nat × Nat × Nat) := [(0, 9, 12, 20), (0, 9, 15, 46)]
theorem l_wrongColumns {E : gE} {σ σ' : gS} (a : Int) (r : Int) (nn : Nat) (hn : nn ≤ 1) (hc : gCt E mX6_wrongColumns 12 nn [rf 0 0, iv a] σ (.inl (some (iv r))) σ') : hCt E mL_wrongColumns hhL_wrongColumns 13 1 [rf 0 0, iv a, rf 23 0] σ (.inl (some (iv (0)))) (gOl σ' (lv r)) := by
  refine hCt_of (L := [some (rf 0 0), some (iv a), some (rf 23 0), none]) (by decide +kernel) rfl rfl (Nat.le_of_ble_eq_true rfl) (fun X K hE => ?_)
  refine h_aload_2 K dL_wrongColumns_0 ?_
  refine h_iconst K dL_wrongColumns_1 ?_
  refine h_aload_0 K dL_wrongColumns_2 ?_
  refine h_iload_1 K dL_wrongColumns_3 ?_
  refine h_callV1 K hc mtX6_wrongColumns miX6_wrongColumns rc0 ⟨by decide, by decide⟩ lkRL_60 ⟨by decide, by omega, by omega⟩ rfl (Nat.le_of_ble_eq_true rfl) dL_wrongColumns_4 ?_
  refine h_i2l K dL_wrongColumns_7 ?_
  refine h_last K dL_wrongColumns_8 ?_
  refine h_goto (tgt := 18) K dL_wrongColumns_9 (by decide) ?_
  refine h_iconst K dL_wrongColumns_18 ?_
  exact h_iret K hE rfl dL_wrongColumns_19 (by omega) (by omega) rfl rfl
theorem l_wrongColumns_1 {E : gE} {σ σ' : gS} (a : Int) (nn : Nat) (hn : nn ≤ 1) (hc : gCt E mX6_wrongColumns 12 nn [rf 0 0, iv a] σ (.inr "java/lang/IndexOutOfBoundsException") σ') : hCt E mL_wrongColumns hhL_wrongColumns 13 1 [rf 0 0, iv a, rf 23 0] σ (.inl (some (iv (1)))) σ' := by
  refine hCt_of (L := [some (rf 0 0), some (iv a), some (rf 23 0), none]) (by decide +kernel) rfl rfl (Nat.le_of_ble_eq_true rfl) (fun X K hE => ?_)
  refine h_aload_2 K dL_wrongColumns_0 ?_
  refine h_iconst K dL_wrongColumns_1 ?_
  refine h_aload_0 K dL_wrongColumns_2 ?_
  refine h_iload_1 K dL_wrongColumns_3 ?_
  refine h_catV1 K hc mtX6_wrongColumns miX6_wrongColumns rc0 ⟨by decide, by decide⟩ lkRL_60 ⟨by decide, by omega, by omega⟩ rfl (Nat.le_of_ble_eq_true rfl) dL_wrongColumns_4 ⟨[], (0, 9, 12, 20), [(0, 9, 15, 46)], "java/lang/IndexOutOfBoundsException", rfl, (fun q hq => absurd hq List.not_mem_nil), by decide, by decide, (g_mem 571 (by decide +kernel)), (g_mem 387 (by decide +kernel)), rfl⟩ (fun q => ?_)
  refine h_astorec_3 K dL_wrongColumns_12 rfl ?_
  refine h_iconst K dL_wrongColumns_13 ?_
  exact h_iret K hE rfl dL_wrongColumns_14 (by omega) (by omega) rfl rfl
theorem l_wrongColumns_2 {E : gE} {σ σ' : gS} (a : Int) (nn : Nat) (hn : nn ≤ 1) (hc : gCt E mX6_wrongColumns 12 nn [rf 0 0, iv a] σ (.inr "java/util/NoSuchElementException") σ') : hCt E mL_wrongColumns hhL_wrongColumns 13 1 [rf 0 0, iv a, rf 23 0] σ (.inl (some (iv (2)))) σ' := by
  refine hCt_of (L := [some (rf 0 0), some (iv a), some (rf 23 0), none]) (by decide +kernel) rfl rfl (Nat.le_of_ble_eq_true rfl) (fun X K hE => ?_)
  refine h_aload_2 K dL_wrongColumns_0 ?_
  refine h_iconst K dL_wrongColumns_1 ?_
  refine h_aload_0 K dL_wrongColumns_2 ?_
  refine h_iload_1 K dL_wrongColumns_3 ?_
  refine h_catV1 K hc mtX6_wrongColumns miX6_wrongColumns rc0 ⟨by decide, by decide⟩ lkRL_60 ⟨by decide, by omega, by omega⟩ rfl (Nat.le_of_ble_eq_true rfl) dL_wrongColumns_4 ⟨[(0, 9, 12, 20)], (0, 9, 15, 46), [], "java/util/NoSuchElementException", rfl, (List.forall_mem_cons.mpr ⟨⟨by decide, "java/lang/IndexOutOfBoundsException", (g_mem 571 (by decide +kernel)), by decide +kernel⟩, fun _ h => absurd h List.not_mem_nil⟩), by decide, by decide, (g_mem 666 (by decide +kernel)), (g_mem 682 (by decide +kernel)), rfl⟩ (fun q => ?_)
  refine h_astorec_3 K dL_wrongColumns_15 rfl ?_
  refine h_iconst K dL_wrongColumns_16 ?_
  exact h_iret K hE rfl dL_wrongColumns_17 (by omega) (by omega) rfl rfl
abbrev mL_isInDoubt : gMt := (yL_isInDoubt, cL_isInDoubt, 6, (Option.some Jvm.ClassFile.FieldType.int))
abbrev hhL_isInDoubt : List (Nat × Nat × Nat × Nat) := [(0, 19, 22, 20)]
theorem l_isInDoubt {E : gE} {σ σ' : gS} (a b c : Int) (r : Int) (h01 : r = 0 ∨ r = 1) (nn : Nat) (hn : nn ≤ 1) (hc : gCt E mX6_isInDoubt 12 nn [rf 0 0, iv a, iv b, iv c] σ (.inl (some (iv r))) σ') : hCt E mL_isInDoubt hhL_isInDoubt 13 1 [rf 0 0, iv a, iv b, iv c, rf 23 0] σ (.inl (some (iv (0)))) (gOl σ' (lv r)) := by
  refine hCt_of (L := [some (rf 0 0), some (iv a), some (iv b), some (iv c), some (rf 23 0), none]) (by decide +kernel) rfl rfl (Nat.le_of_ble_eq_true rfl) (fun X K hE => ?_)
  refine h_aload_4 K dL_isInDoubt_0 ?_
  refine h_iconst K dL_isInDoubt_2 ?_
  refine h_aload_0 K dL_isInDoubt_3 ?_
  refine h_iload_1 K dL_isInDoubt_4 ?_
  refine h_iload_2 K dL_isInDoubt_5 ?_
  refine h_iload_3 K dL_isInDoubt_6 ?_
  refine h_callV3 K hc mtX6_isInDoubt miX6_isInDoubt rc0 ⟨by decide, by decide⟩ lkRL_63 ⟨by decide, by omega, by omega⟩ rfl (Nat.le_of_ble_eq_true rfl) dL_isInDoubt_7 ?_
  rcases h01 with rfl | rfl
  · refine h_if_eq (tgt := 17) K (by omega) dL_isInDoubt_10 (by decide) (fun h => ?_) (fun h => absurd rfl h)
    refine h_lconst K dL_isInDoubt_17 ?_
    refine h_last K dL_isInDoubt_18 ?_
    refine h_goto (tgt := 26) K dL_isInDoubt_19 (by decide) ?_
    refine h_iconst K dL_isInDoubt_26 ?_
    exact h_iret K hE rfl dL_isInDoubt_27 (by omega) (by omega) rfl rfl
  · refine h_if_eq (tgt := 17) K (by omega) dL_isInDoubt_10 (by decide) (fun h => absurd h (by omega)) (fun h => ?_)
    refine h_lconst K dL_isInDoubt_13 ?_
    refine h_goto (tgt := 18) K dL_isInDoubt_14 (by decide) ?_
    refine h_last K dL_isInDoubt_18 ?_
    refine h_goto (tgt := 26) K dL_isInDoubt_19 (by decide) ?_
    refine h_iconst K dL_isInDoubt_26 ?_
    exact h_iret K hE rfl dL_isInDoubt_27 (by omega) (by omega) rfl rfl
theorem l_isInDoubt_1 {E : gE} {σ σ' : gS} (a b c : Int) (nn : Nat) (hn : nn ≤ 1) (hc : gCt E mX6_isInDoubt 12 nn [rf 0 0, iv a, iv b, iv c] σ (.inr "java/lang/IndexOutOfBoundsException") σ') : hCt E mL_isInDoubt hhL_isInDoubt 13 1 [rf 0 0, iv a, iv b, iv c, rf 23 0] σ (.inl (some (iv (1)))) σ' := by
  refine hCt_of (L := [some (rf 0 0), some (iv a), some (iv b), some (iv c), some (rf 23 0), none]) (by decide +kernel) rfl rfl (Nat.le_of_ble_eq_true rfl) (fun X K hE => ?_)
  refine h_aload_4 K dL_isInDoubt_0 ?_
  refine h_iconst K dL_isInDoubt_2 ?_
  refine h_aload_0 K dL_isInDoubt_3 ?_
  refine h_iload_1 K dL_isInDoubt_4 ?_
  refine h_iload_2 K dL_isInDoubt_5 ?_
  refine h_iload_3 K dL_isInDoubt_6 ?_
  refine h_catV3 K hc mtX6_isInDoubt miX6_isInDoubt rc0 ⟨by decide, by decide⟩ lkRL_63 ⟨by decide, by omega, by omega⟩ rfl (Nat.le_of_ble_eq_true rfl) dL_isInDoubt_7 ⟨[], (0, 19, 22, 20), [], "java/lang/IndexOutOfBoundsException", rfl, (fun q hq => absurd hq List.not_mem_nil), by decide, by decide, (g_mem 571 (by decide +kernel)), (g_mem 387 (by decide +kernel)), rfl⟩ (fun q => ?_)
  refine h_astorec_5 K dL_isInDoubt_22 rfl ?_
  refine h_iconst K dL_isInDoubt_24 ?_
  exact h_iret K hE rfl dL_isInDoubt_25 (by omega) (by omega) rfl rfl
abbrev mL_doubts : gMt := (yL_doubts, cL_doubts, 4, (Option.some Jvm.ClassFile.FieldType.int))
abbrev hhL_doubts : List (Nat × Nat × Nat × Nat) := [(0, 9, 12, 20)]
theorem l_doubts {E : gE} {σ σ' : gS} (a : Int) (r : Int) (nn : Nat) (hn : nn ≤ 1) (hc : gCt E mX6_doubts 12 nn [rf 0 0, iv a] σ (.inl (some (iv r))) σ') : hCt E mL_doubts hhL_doubts 13 1 [rf 0 0, iv a, rf 23 0] σ (.inl (some (iv (0)))) (gOl σ' (lv r)) := by
  refine hCt_of (L := [some (rf 0 0), some (iv a), some (rf 23 0), none]) (by decide +kernel) rfl rfl (Nat.le_of_ble_eq_true rfl) (fun X K hE => ?_)
  refine h_aload_2 K dL_doubts_0 ?_
  refine h_iconst K dL_doubts_1 ?_
  refine h_aload_0 K dL_doubts_2 ?_
  refine h_iload_1 K dL_doubts_3 ?_
  refine h_callV1 K hc mtX6_doubts miX6_doubts rc0 ⟨by decide, by decide⟩ lkRL_67 ⟨by decide, by omega, by omega⟩ rfl (Nat.le_of_ble_eq_true rfl) dL_doubts_4 ?_
  refine h_i2l K dL_doubts_7 ?_
  refine h_last K dL_doubts_8 ?_
  refine h_goto (tgt := 15) K dL_doubts_9 (by decide) ?_
  refine h_iconst K dL_doubts_15 ?_
  exact h_iret K hE rfl dL_doubts_16 (by omega) (by omega) rfl rfl
theorem l_doubts_1 {E : gE} {σ σ' : gS} (a : Int) (nn : Nat) (hn : nn ≤ 1) (hc : gCt E mX6_doubts 12 nn [rf 0 0, iv a] σ (.inr "java/lang/IndexOutOfBoundsException") σ') : hCt E mL_doubts hhL_doubts 13 1 [rf 0 0, iv a, rf 23 0] σ (.inl (some (iv (1)))) σ' := by
  refine hCt_of (L := [some (rf 0 0), some (iv a), some (rf 23 0), none]) (by decide +kernel) rfl rfl (Nat.le_of_ble_eq_true rfl) (fun X K hE => ?_)
  refine h_aload_2 K dL_doubts_0 ?_
  refine h_iconst K dL_doubts_1 ?_
  refine h_aload_0 K dL_doubts_2 ?_
  refine h_iload_1 K dL_doubts_3 ?_
  refine h_catV1 K hc mtX6_doubts miX6_doubts rc0 ⟨by decide, by decide⟩ lkRL_67 ⟨by decide, by omega, by omega⟩ rfl (Nat.le_of_ble_eq_true rfl) dL_doubts_4 ⟨[], (0, 9, 12, 20), [], "java/lang/IndexOutOfBoundsException", rfl, (fun q hq => absurd hq List.not_mem_nil), by decide, by decide, (g_mem 571 (by decide +kernel)), (g_mem 387 (by decide +kernel)), rfl⟩ (fun q => ?_)
  refine h_astorec_3 K dL_doubts_12 rfl ?_
  refine h_iconst K dL_doubts_13 ?_
  exact h_iret K hE rfl dL_doubts_14 (by omega) (by omega) rfl rfl
abbrev mL_doubtsAgain : gMt := (yL_doubtsAgain, cL_doubtsAgain, 4, (Option.some Jvm.ClassFile.FieldType.int))
abbrev hhL_doubtsAgain : List (Nat × Nat × Nat × Nat) := [(0, 9, 12, 20)]
theorem l_doubtsAgain {E : gE} {σ σ' : gS} (a : Int) (r : Int) (nn : Nat) (hn : nn ≤ 1) (hc : gCt E mX6_doubtsAgain 12 nn [rf 0 0, iv a] σ (.inl (some (iv r))) σ') : hCt E mL_doubtsAgain hhL_doubtsAgain 13 1 [rf 0 0, iv a, rf 23 0] σ (.inl (some (iv (0)))) (gOl σ' (lv r)) := by
  refine hCt_of (L := [some (rf 0 0), some (iv a), some (rf 23 0), none]) (by decide +kernel) rfl rfl (Nat.le_of_ble_eq_true rfl) (fun X K hE => ?_)
  refine h_aload_2 K dL_doubtsAgain_0 ?_
  refine h_iconst K dL_doubtsAgain_1 ?_
  refine h_aload_0 K dL_doubtsAgain_2 ?_
  refine h_iload_1 K dL_doubtsAgain_3 ?_
  refine h_callV1 K hc mtX6_doubtsAgain miX6_doubtsAgain rc0 ⟨by decide, by decide⟩ lkRL_70 ⟨by decide, by omega, by omega⟩ rfl (Nat.le_of_ble_eq_true rfl) dL_doubtsAgain_4 ?_
  refine h_i2l K dL_doubtsAgain_7 ?_
  refine h_last K dL_doubtsAgain_8 ?_
  refine h_goto (tgt := 15) K dL_doubtsAgain_9 (by decide) ?_
  refine h_iconst K dL_doubtsAgain_15 ?_
  exact h_iret K hE rfl dL_doubtsAgain_16 (by omega) (by omega) rfl rfl
theorem l_doubtsAgain_1 {E : gE} {σ σ' : gS} (a : Int) (nn : Nat) (hn : nn ≤ 1) (hc : gCt E mX6_doubtsAgain 12 nn [rf 0 0, iv a] σ (.inr "java/lang/IndexOutOfBoundsException") σ') : hCt E mL_doubtsAgain hhL_doubtsAgain 13 1 [rf 0 0, iv a, rf 23 0] σ (.inl (some (iv (1)))) σ' := by
  refine hCt_of (L := [some (rf 0 0), some (iv a), some (rf 23 0), none]) (by decide +kernel) rfl rfl (Nat.le_of_ble_eq_true rfl) (fun X K hE => ?_)
  refine h_aload_2 K dL_doubtsAgain_0 ?_
  refine h_iconst K dL_doubtsAgain_1 ?_
  refine h_aload_0 K dL_doubtsAgain_2 ?_
  refine h_iload_1 K dL_doubtsAgain_3 ?_
  refine h_catV1 K hc mtX6_doubtsAgain miX6_doubtsAgain rc0 ⟨by decide, by decide⟩ lkRL_70 ⟨by decide, by omega, by omega⟩ rfl (Nat.le_of_ble_eq_true rfl) dL_doubtsAgain_4 ⟨[], (0, 9, 12, 20), [], "java/lang/IndexOutOfBoundsException", rfl, (fun q hq => absurd hq List.not_mem_nil), by decide, by decide, (g_mem 571 (by decide +kernel)), (g_mem 387 (by decide +kernel)), rfl⟩ (fun q => ?_)
  refine h_astorec_3 K dL_doubtsAgain_12 rfl ?_
  refine h_iconst K dL_doubtsAgain_13 ?_
  exact h_iret K hE rfl dL_doubtsAgain_14 (by omega) (by omega) rfl rfl
abbrev mL_mend : gMt := (yL_mend, cL_mend, 4, (Option.some Jvm.ClassFile.FieldType.int))
abbrev hhL_mend : List (Nat × Nat × Nat × Nat) := [(0, 9, 12, 20), (0, 9, 15, 15)]
theorem l_mend {E : gE} {σ σ' : gS} (a : Int) (r : Int) (nn : Nat) (hn : nn ≤ 1) (hc : gCt E mX6_mend 12 nn [rf 0 0, iv a] σ (.inl (some (iv r))) σ') : hCt E mL_mend hhL_mend 13 1 [rf 0 0, iv a, rf 23 0] σ (.inl (some (iv (0)))) (gOl σ' (lv r)) := by
  refine hCt_of (L := [some (rf 0 0), some (iv a), some (rf 23 0), none]) (by decide +kernel) rfl rfl (Nat.le_of_ble_eq_true rfl) (fun X K hE => ?_)
  refine h_aload_2 K dL_mend_0 ?_
  refine h_iconst K dL_mend_1 ?_
  refine h_aload_0 K dL_mend_2 ?_
  refine h_iload_1 K dL_mend_3 ?_
  refine h_callV1 K hc mtX6_mend miX6_mend rc0 ⟨by decide, by decide⟩ lkRL_73 ⟨by decide, by omega, by omega⟩ rfl (Nat.le_of_ble_eq_true rfl) dL_mend_4 ?_
  refine h_i2l K dL_mend_7 ?_
  refine h_last K dL_mend_8 ?_
  refine h_goto (tgt := 18) K dL_mend_9 (by decide) ?_
  refine h_iconst K dL_mend_18 ?_
  exact h_iret K hE rfl dL_mend_19 (by omega) (by omega) rfl rfl
theorem l_mend_1 {E : gE} {σ σ' : gS} (a : Int) (nn : Nat) (hn : nn ≤ 1) (hc : gCt E mX6_mend 12 nn [rf 0 0, iv a] σ (.inr "java/lang/IndexOutOfBoundsException") σ') : hCt E mL_mend hhL_mend 13 1 [rf 0 0, iv a, rf 23 0] σ (.inl (some (iv (1)))) σ' := by
  refine hCt_of (L := [some (rf 0 0), some (iv a), some (rf 23 0), none]) (by decide +kernel) rfl rfl (Nat.le_of_ble_eq_true rfl) (fun X K hE => ?_)
  refine h_aload_2 K dL_mend_0 ?_
  refine h_iconst K dL_mend_1 ?_
  refine h_aload_0 K dL_mend_2 ?_
  refine h_iload_1 K dL_mend_3 ?_
  refine h_catV1 K hc mtX6_mend miX6_mend rc0 ⟨by decide, by decide⟩ lkRL_73 ⟨by decide, by omega, by omega⟩ rfl (Nat.le_of_ble_eq_true rfl) dL_mend_4 ⟨[], (0, 9, 12, 20), [(0, 9, 15, 15)], "java/lang/IndexOutOfBoundsException", rfl, (fun q hq => absurd hq List.not_mem_nil), by decide, by decide, (g_mem 571 (by decide +kernel)), (g_mem 387 (by decide +kernel)), rfl⟩ (fun q => ?_)
  refine h_astorec_3 K dL_mend_12 rfl ?_
  refine h_iconst K dL_mend_13 ?_
  exact h_iret K hE rfl dL_mend_14 (by omega) (by omega) rfl rfl
theorem l_mend_2 {E : gE} {σ σ' : gS} (a : Int) (nn : Nat) (hn : nn ≤ 1) (hc : gCt E mX6_mend 12 nn [rf 0 0, iv a] σ (.inr "java/lang/UnsupportedOperationException") σ') : hCt E mL_mend hhL_mend 13 1 [rf 0 0, iv a, rf 23 0] σ (.inl (some (iv (2)))) σ' := by
  refine hCt_of (L := [some (rf 0 0), some (iv a), some (rf 23 0), none]) (by decide +kernel) rfl rfl (Nat.le_of_ble_eq_true rfl) (fun X K hE => ?_)
  refine h_aload_2 K dL_mend_0 ?_
  refine h_iconst K dL_mend_1 ?_
  refine h_aload_0 K dL_mend_2 ?_
  refine h_iload_1 K dL_mend_3 ?_
  refine h_catV1 K hc mtX6_mend miX6_mend rc0 ⟨by decide, by decide⟩ lkRL_73 ⟨by decide, by omega, by omega⟩ rfl (Nat.le_of_ble_eq_true rfl) dL_mend_4 ⟨[(0, 9, 12, 20)], (0, 9, 15, 15), [], "java/lang/UnsupportedOperationException", rfl, (List.forall_mem_cons.mpr ⟨⟨by decide, "java/lang/IndexOutOfBoundsException", (g_mem 571 (by decide +kernel)), by decide +kernel⟩, fun _ h => absurd h List.not_mem_nil⟩), by decide, by decide, (g_mem 297 (by decide +kernel)), (g_mem 475 (by decide +kernel)), rfl⟩ (fun q => ?_)
  refine h_astorec_3 K dL_mend_15 rfl ?_
  refine h_iconst K dL_mend_16 ?_
  exact h_iret K hE rfl dL_mend_17 (by omega) (by omega) rfl rfl
abbrev mL_wouldMend : gMt := (yL_wouldMend, cL_wouldMend, 4, (Option.some Jvm.ClassFile.FieldType.int))
abbrev hhL_wouldMend : List (Nat × Nat × Nat × Nat) := [(0, 9, 12, 20), (0, 9, 15, 46)]
theorem l_wouldMend {E : gE} {σ σ' : gS} (a : Int) (r : Int) (nn : Nat) (hn : nn ≤ 1) (hc : gCt E mX6_wouldMend 12 nn [rf 0 0, iv a] σ (.inl (some (iv r))) σ') : hCt E mL_wouldMend hhL_wouldMend 13 1 [rf 0 0, iv a, rf 23 0] σ (.inl (some (iv (0)))) (gOl σ' (lv r)) := by
  refine hCt_of (L := [some (rf 0 0), some (iv a), some (rf 23 0), none]) (by decide +kernel) rfl rfl (Nat.le_of_ble_eq_true rfl) (fun X K hE => ?_)
  refine h_aload_2 K dL_wouldMend_0 ?_
  refine h_iconst K dL_wouldMend_1 ?_
  refine h_aload_0 K dL_wouldMend_2 ?_
  refine h_iload_1 K dL_wouldMend_3 ?_
  refine h_callV1 K hc mtX6_wouldMend miX6_wouldMend rc0 ⟨by decide, by decide⟩ lkRL_76 ⟨by decide, by omega, by omega⟩ rfl (Nat.le_of_ble_eq_true rfl) dL_wouldMend_4 ?_
  refine h_i2l K dL_wouldMend_7 ?_
  refine h_last K dL_wouldMend_8 ?_
  refine h_goto (tgt := 18) K dL_wouldMend_9 (by decide) ?_
  refine h_iconst K dL_wouldMend_18 ?_
  exact h_iret K hE rfl dL_wouldMend_19 (by omega) (by omega) rfl rfl
theorem l_wouldMend_1 {E : gE} {σ σ' : gS} (a : Int) (nn : Nat) (hn : nn ≤ 1) (hc : gCt E mX6_wouldMend 12 nn [rf 0 0, iv a] σ (.inr "java/lang/IndexOutOfBoundsException") σ') : hCt E mL_wouldMend hhL_wouldMend 13 1 [rf 0 0, iv a, rf 23 0] σ (.inl (some (iv (1)))) σ' := by
  refine hCt_of (L := [some (rf 0 0), some (iv a), some (rf 23 0), none]) (by decide +kernel) rfl rfl (Nat.le_of_ble_eq_true rfl) (fun X K hE => ?_)
  refine h_aload_2 K dL_wouldMend_0 ?_
  refine h_iconst K dL_wouldMend_1 ?_
  refine h_aload_0 K dL_wouldMend_2 ?_
  refine h_iload_1 K dL_wouldMend_3 ?_
  refine h_catV1 K hc mtX6_wouldMend miX6_wouldMend rc0 ⟨by decide, by decide⟩ lkRL_76 ⟨by decide, by omega, by omega⟩ rfl (Nat.le_of_ble_eq_true rfl) dL_wouldMend_4 ⟨[], (0, 9, 12, 20), [(0, 9, 15, 46)], "java/lang/IndexOutOfBoundsException", rfl, (fun q hq => absurd hq List.not_mem_nil), by decide, by decide, (g_mem 571 (by decide +kernel)), (g_mem 387 (by decide +kernel)), rfl⟩ (fun q => ?_)
  refine h_astorec_3 K dL_wouldMend_12 rfl ?_
  refine h_iconst K dL_wouldMend_13 ?_
  exact h_iret K hE rfl dL_wouldMend_14 (by omega) (by omega) rfl rfl
theorem l_wouldMend_2 {E : gE} {σ σ' : gS} (a : Int) (nn : Nat) (hn : nn ≤ 1) (hc : gCt E mX6_wouldMend 12 nn [rf 0 0, iv a] σ (.inr "java/util/NoSuchElementException") σ') : hCt E mL_wouldMend hhL_wouldMend 13 1 [rf 0 0, iv a, rf 23 0] σ (.inl (some (iv (2)))) σ' := by
  refine hCt_of (L := [some (rf 0 0), some (iv a), some (rf 23 0), none]) (by decide +kernel) rfl rfl (Nat.le_of_ble_eq_true rfl) (fun X K hE => ?_)
  refine h_aload_2 K dL_wouldMend_0 ?_
  refine h_iconst K dL_wouldMend_1 ?_
  refine h_aload_0 K dL_wouldMend_2 ?_
  refine h_iload_1 K dL_wouldMend_3 ?_
  refine h_catV1 K hc mtX6_wouldMend miX6_wouldMend rc0 ⟨by decide, by decide⟩ lkRL_76 ⟨by decide, by omega, by omega⟩ rfl (Nat.le_of_ble_eq_true rfl) dL_wouldMend_4 ⟨[(0, 9, 12, 20)], (0, 9, 15, 46), [], "java/util/NoSuchElementException", rfl, (List.forall_mem_cons.mpr ⟨⟨by decide, "java/lang/IndexOutOfBoundsException", (g_mem 571 (by decide +kernel)), by decide +kernel⟩, fun _ h => absurd h List.not_mem_nil⟩), by decide, by decide, (g_mem 666 (by decide +kernel)), (g_mem 682 (by decide +kernel)), rfl⟩ (fun q => ?_)
  refine h_astorec_3 K dL_wouldMend_15 rfl ?_
  refine h_iconst K dL_wouldMend_16 ?_
  exact h_iret K hE rfl dL_wouldMend_17 (by omega) (by omega) rfl rfl
abbrev mL_mendAgain : gMt := (yL_mendAgain, cL_mendAgain, 4, (Option.some Jvm.ClassFile.FieldType.int))
abbrev hhL_mendAgain : List (Nat × Nat × Nat × Nat) := [(0, 9, 12, 20), (0, 9, 15, 46)]
theorem l_mendAgain {E : gE} {σ σ' : gS} (a : Int) (r : Int) (nn : Nat) (hn : nn ≤ 1) (hc : gCt E mX6_mendAgain 12 nn [rf 0 0, iv a] σ (.inl (some (iv r))) σ') : hCt E mL_mendAgain hhL_mendAgain 13 1 [rf 0 0, iv a, rf 23 0] σ (.inl (some (iv (0)))) (gOl σ' (lv r)) := by
  refine hCt_of (L := [some (rf 0 0), some (iv a), some (rf 23 0), none]) (by decide +kernel) rfl rfl (Nat.le_of_ble_eq_true rfl) (fun X K hE => ?_)
  refine h_aload_2 K dL_mendAgain_0 ?_
  refine h_iconst K dL_mendAgain_1 ?_
  refine h_aload_0 K dL_mendAgain_2 ?_
  refine h_iload_1 K dL_mendAgain_3 ?_
  refine h_callV1 K hc mtX6_mendAgain miX6_mendAgain rc0 ⟨by decide, by decide⟩ lkRL_79 ⟨by decide, by omega, by omega⟩ rfl (Nat.le_of_ble_eq_true rfl) dL_mendAgain_4 ?_
  refine h_i2l K dL_mendAgain_7 ?_
  refine h_last K dL_mendAgain_8 ?_
  refine h_goto (tgt := 18) K dL_mendAgain_9 (by decide) ?_
  refine h_iconst K dL_mendAgain_18 ?_
  exact h_iret K hE rfl dL_mendAgain_19 (by omega) (by omega) rfl rfl
theorem l_mendAgain_1 {E : gE} {σ σ' : gS} (a : Int) (nn : Nat) (hn : nn ≤ 1) (hc : gCt E mX6_mendAgain 12 nn [rf 0 0, iv a] σ (.inr "java/lang/IndexOutOfBoundsException") σ') : hCt E mL_mendAgain hhL_mendAgain 13 1 [rf 0 0, iv a, rf 23 0] σ (.inl (some (iv (1)))) σ' := by
  refine hCt_of (L := [some (rf 0 0), some (iv a), some (rf 23 0), none]) (by decide +kernel) rfl rfl (Nat.le_of_ble_eq_true rfl) (fun X K hE => ?_)
  refine h_aload_2 K dL_mendAgain_0 ?_
  refine h_iconst K dL_mendAgain_1 ?_
  refine h_aload_0 K dL_mendAgain_2 ?_
  refine h_iload_1 K dL_mendAgain_3 ?_
  refine h_catV1 K hc mtX6_mendAgain miX6_mendAgain rc0 ⟨by decide, by decide⟩ lkRL_79 ⟨by decide, by omega, by omega⟩ rfl (Nat.le_of_ble_eq_true rfl) dL_mendAgain_4 ⟨[], (0, 9, 12, 20), [(0, 9, 15, 46)], "java/lang/IndexOutOfBoundsException", rfl, (fun q hq => absurd hq List.not_mem_nil), by decide, by decide, (g_mem 571 (by decide +kernel)), (g_mem 387 (by decide +kernel)), rfl⟩ (fun q => ?_)
  refine h_astorec_3 K dL_mendAgain_12 rfl ?_
  refine h_iconst K dL_mendAgain_13 ?_
  exact h_iret K hE rfl dL_mendAgain_14 (by omega) (by omega) rfl rfl
theorem l_mendAgain_2 {E : gE} {σ σ' : gS} (a : Int) (nn : Nat) (hn : nn ≤ 1) (hc : gCt E mX6_mendAgain 12 nn [rf 0 0, iv a] σ (.inr "java/util/NoSuchElementException") σ') : hCt E mL_mendAgain hhL_mendAgain 13 1 [rf 0 0, iv a, rf 23 0] σ (.inl (some (iv (2)))) σ' := by
  refine hCt_of (L := [some (rf 0 0), some (iv a), some (rf 23 0), none]) (by decide +kernel) rfl rfl (Nat.le_of_ble_eq_true rfl) (fun X K hE => ?_)
  refine h_aload_2 K dL_mendAgain_0 ?_
  refine h_iconst K dL_mendAgain_1 ?_
  refine h_aload_0 K dL_mendAgain_2 ?_
  refine h_iload_1 K dL_mendAgain_3 ?_
  refine h_catV1 K hc mtX6_mendAgain miX6_mendAgain rc0 ⟨by decide, by decide⟩ lkRL_79 ⟨by decide, by omega, by omega⟩ rfl (Nat.le_of_ble_eq_true rfl) dL_mendAgain_4 ⟨[(0, 9, 12, 20)], (0, 9, 15, 46), [], "java/util/NoSuchElementException", rfl, (List.forall_mem_cons.mpr ⟨⟨by decide, "java/lang/IndexOutOfBoundsException", (g_mem 571 (by decide +kernel)), by decide +kernel⟩, fun _ h => absurd h List.not_mem_nil⟩), by decide, by decide, (g_mem 666 (by decide +kernel)), (g_mem 682 (by decide +kernel)), rfl⟩ (fun q => ?_)
  refine h_astorec_3 K dL_mendAgain_15 rfl ?_
  refine h_iconst K dL_mendAgain_16 ?_
  exact h_iret K hE rfl dL_mendAgain_17 (by omega) (by omega) rfl rfl
abbrev mL_fill : gMt := (yL_fill, cL_fill, 4, (Option.some Jvm.ClassFile.FieldType.int))
abbrev hhL_fill : List (Nat × Nat × Nat × Nat) := [(0, 9, 12, 20), (0, 9, 15, 15)]
theorem l_fill {E : gE} {σ σ' : gS} (a : Int) (r : Int) (nn : Nat) (hn : nn ≤ 1) (hc : gCt E mX6_fill 12 nn [rf 0 0, iv a] σ (.inl (some (iv r))) σ') : hCt E mL_fill hhL_fill 13 1 [rf 0 0, iv a, rf 23 0] σ (.inl (some (iv (0)))) (gOl σ' (lv r)) := by
  refine hCt_of (L := [some (rf 0 0), some (iv a), some (rf 23 0), none]) (by decide +kernel) rfl rfl (Nat.le_of_ble_eq_true rfl) (fun X K hE => ?_)
  refine h_aload_2 K dL_fill_0 ?_
  refine h_iconst K dL_fill_1 ?_
  refine h_aload_0 K dL_fill_2 ?_
  refine h_iload_1 K dL_fill_3 ?_
  refine h_callV1 K hc mtX6_fill miX6_fill rc0 ⟨by decide, by decide⟩ lkRL_82 ⟨by decide, by omega, by omega⟩ rfl (Nat.le_of_ble_eq_true rfl) dL_fill_4 ?_
  refine h_i2l K dL_fill_7 ?_
  refine h_last K dL_fill_8 ?_
  refine h_goto (tgt := 18) K dL_fill_9 (by decide) ?_
  refine h_iconst K dL_fill_18 ?_
  exact h_iret K hE rfl dL_fill_19 (by omega) (by omega) rfl rfl
theorem l_fill_1 {E : gE} {σ σ' : gS} (a : Int) (nn : Nat) (hn : nn ≤ 1) (hc : gCt E mX6_fill 12 nn [rf 0 0, iv a] σ (.inr "java/lang/IndexOutOfBoundsException") σ') : hCt E mL_fill hhL_fill 13 1 [rf 0 0, iv a, rf 23 0] σ (.inl (some (iv (1)))) σ' := by
  refine hCt_of (L := [some (rf 0 0), some (iv a), some (rf 23 0), none]) (by decide +kernel) rfl rfl (Nat.le_of_ble_eq_true rfl) (fun X K hE => ?_)
  refine h_aload_2 K dL_fill_0 ?_
  refine h_iconst K dL_fill_1 ?_
  refine h_aload_0 K dL_fill_2 ?_
  refine h_iload_1 K dL_fill_3 ?_
  refine h_catV1 K hc mtX6_fill miX6_fill rc0 ⟨by decide, by decide⟩ lkRL_82 ⟨by decide, by omega, by omega⟩ rfl (Nat.le_of_ble_eq_true rfl) dL_fill_4 ⟨[], (0, 9, 12, 20), [(0, 9, 15, 15)], "java/lang/IndexOutOfBoundsException", rfl, (fun q hq => absurd hq List.not_mem_nil), by decide, by decide, (g_mem 571 (by decide +kernel)), (g_mem 387 (by decide +kernel)), rfl⟩ (fun q => ?_)
  refine h_astorec_3 K dL_fill_12 rfl ?_
  refine h_iconst K dL_fill_13 ?_
  exact h_iret K hE rfl dL_fill_14 (by omega) (by omega) rfl rfl
theorem l_fill_2 {E : gE} {σ σ' : gS} (a : Int) (nn : Nat) (hn : nn ≤ 1) (hc : gCt E mX6_fill 12 nn [rf 0 0, iv a] σ (.inr "java/lang/UnsupportedOperationException") σ') : hCt E mL_fill hhL_fill 13 1 [rf 0 0, iv a, rf 23 0] σ (.inl (some (iv (2)))) σ' := by
  refine hCt_of (L := [some (rf 0 0), some (iv a), some (rf 23 0), none]) (by decide +kernel) rfl rfl (Nat.le_of_ble_eq_true rfl) (fun X K hE => ?_)
  refine h_aload_2 K dL_fill_0 ?_
  refine h_iconst K dL_fill_1 ?_
  refine h_aload_0 K dL_fill_2 ?_
  refine h_iload_1 K dL_fill_3 ?_
  refine h_catV1 K hc mtX6_fill miX6_fill rc0 ⟨by decide, by decide⟩ lkRL_82 ⟨by decide, by omega, by omega⟩ rfl (Nat.le_of_ble_eq_true rfl) dL_fill_4 ⟨[(0, 9, 12, 20)], (0, 9, 15, 15), [], "java/lang/UnsupportedOperationException", rfl, (List.forall_mem_cons.mpr ⟨⟨by decide, "java/lang/IndexOutOfBoundsException", (g_mem 571 (by decide +kernel)), by decide +kernel⟩, fun _ h => absurd h List.not_mem_nil⟩), by decide, by decide, (g_mem 297 (by decide +kernel)), (g_mem 475 (by decide +kernel)), rfl⟩ (fun q => ?_)
  refine h_astorec_3 K dL_fill_15 rfl ?_
  refine h_iconst K dL_fill_16 ?_
  exact h_iret K hE rfl dL_fill_17 (by omega) (by omega) rfl rfl
abbrev mL_wouldFill : gMt := (yL_wouldFill, cL_wouldFill, 6, (Option.some Jvm.ClassFile.FieldType.int))
abbrev hhL_wouldFill : List (Nat × Nat × Nat × Nat) := [(0, 12, 15, 20), (0, 12, 19, 46)]
theorem l_wouldFill {E : gE} {σ σ' : gS} (a b c : Int) (r : Int) (nn : Nat) (hn : nn ≤ 1) (hc : gCt E mX6_wouldFill 12 nn [rf 0 0, iv a, iv b, iv c] σ (.inl (some (iv r))) σ') : hCt E mL_wouldFill hhL_wouldFill 13 1 [rf 0 0, iv a, iv b, iv c, rf 23 0] σ (.inl (some (iv (0)))) (gOl σ' (lv r)) := by
  refine hCt_of (L := [some (rf 0 0), some (iv a), some (iv b), some (iv c), some (rf 23 0), none]) (by decide +kernel) rfl rfl (Nat.le_of_ble_eq_true rfl) (fun X K hE => ?_)
  refine h_aload_4 K dL_wouldFill_0 ?_
  refine h_iconst K dL_wouldFill_2 ?_
  refine h_aload_0 K dL_wouldFill_3 ?_
  refine h_iload_1 K dL_wouldFill_4 ?_
  refine h_iload_2 K dL_wouldFill_5 ?_
  refine h_iload_3 K dL_wouldFill_6 ?_
  refine h_callV3 K hc mtX6_wouldFill miX6_wouldFill rc0 ⟨by decide, by decide⟩ lkRL_85 ⟨by decide, by omega, by omega⟩ rfl (Nat.le_of_ble_eq_true rfl) dL_wouldFill_7 ?_
  refine h_i2l K dL_wouldFill_10 ?_
  refine h_last K dL_wouldFill_11 ?_
  refine h_goto (tgt := 23) K dL_wouldFill_12 (by decide) ?_
  refine h_iconst K dL_wouldFill_23 ?_
  exact h_iret K hE rfl dL_wouldFill_24 (by omega) (by omega) rfl rfl
theorem l_wouldFill_1 {E : gE} {σ σ' : gS} (a b c : Int) (nn : Nat) (hn : nn ≤ 1) (hc : gCt E mX6_wouldFill 12 nn [rf 0 0, iv a, iv b, iv c] σ (.inr "java/lang/IndexOutOfBoundsException") σ') : hCt E mL_wouldFill hhL_wouldFill 13 1 [rf 0 0, iv a, iv b, iv c, rf 23 0] σ (.inl (some (iv (1)))) σ' := by
  refine hCt_of (L := [some (rf 0 0), some (iv a), some (iv b), some (iv c), some (rf 23 0), none]) (by decide +kernel) rfl rfl (Nat.le_of_ble_eq_true rfl) (fun X K hE => ?_)
  refine h_aload_4 K dL_wouldFill_0 ?_
  refine h_iconst K dL_wouldFill_2 ?_
  refine h_aload_0 K dL_wouldFill_3 ?_
  refine h_iload_1 K dL_wouldFill_4 ?_
  refine h_iload_2 K dL_wouldFill_5 ?_
  refine h_iload_3 K dL_wouldFill_6 ?_
  refine h_catV3 K hc mtX6_wouldFill miX6_wouldFill rc0 ⟨by decide, by decide⟩ lkRL_85 ⟨by decide, by omega, by omega⟩ rfl (Nat.le_of_ble_eq_true rfl) dL_wouldFill_7 ⟨[], (0, 12, 15, 20), [(0, 12, 19, 46)], "java/lang/IndexOutOfBoundsException", rfl, (fun q hq => absurd hq List.not_mem_nil), by decide, by decide, (g_mem 571 (by decide +kernel)), (g_mem 387 (by decide +kernel)), rfl⟩ (fun q => ?_)
  refine h_astorec_5 K dL_wouldFill_15 rfl ?_
  refine h_iconst K dL_wouldFill_17 ?_
  exact h_iret K hE rfl dL_wouldFill_18 (by omega) (by omega) rfl rfl
theorem l_wouldFill_2 {E : gE} {σ σ' : gS} (a b c : Int) (nn : Nat) (hn : nn ≤ 1) (hc : gCt E mX6_wouldFill 12 nn [rf 0 0, iv a, iv b, iv c] σ (.inr "java/util/NoSuchElementException") σ') : hCt E mL_wouldFill hhL_wouldFill 13 1 [rf 0 0, iv a, iv b, iv c, rf 23 0] σ (.inl (some (iv (2)))) σ' := by
  refine hCt_of (L := [some (rf 0 0), some (iv a), some (iv b), some (iv c), some (rf 23 0), none]) (by decide +kernel) rfl rfl (Nat.le_of_ble_eq_true rfl) (fun X K hE => ?_)
  refine h_aload_4 K dL_wouldFill_0 ?_
  refine h_iconst K dL_wouldFill_2 ?_
  refine h_aload_0 K dL_wouldFill_3 ?_
  refine h_iload_1 K dL_wouldFill_4 ?_
  refine h_iload_2 K dL_wouldFill_5 ?_
  refine h_iload_3 K dL_wouldFill_6 ?_
  refine h_catV3 K hc mtX6_wouldFill miX6_wouldFill rc0 ⟨by decide, by decide⟩ lkRL_85 ⟨by decide, by omega, by omega⟩ rfl (Nat.le_of_ble_eq_true rfl) dL_wouldFill_7 ⟨[(0, 12, 15, 20)], (0, 12, 19, 46), [], "java/util/NoSuchElementException", rfl, (List.forall_mem_cons.mpr ⟨⟨by decide, "java/lang/IndexOutOfBoundsException", (g_mem 571 (by decide +kernel)), by decide +kernel⟩, fun _ h => absurd h List.not_mem_nil⟩), by decide, by decide, (g_mem 666 (by decide +kernel)), (g_mem 682 (by decide +kernel)), rfl⟩ (fun q => ?_)
  refine h_astorec_5 K dL_wouldFill_19 rfl ?_
  refine h_iconst K dL_wouldFill_21 ?_
  exact h_iret K hE rfl dL_wouldFill_22 (by omega) (by omega) rfl rfl
abbrev mL_differ : gMt := (yL_differ, cL_differ, 5, (Option.some Jvm.ClassFile.FieldType.int))
abbrev hhL_differ : List (Nat × Nat × Nat × Nat) := [(0, 10, 13, 20), (0, 10, 17, 13)]
theorem l_differ {E : gE} {σ σ' : gS} (a b : Int) (r : Int) (nn : Nat) (hn : nn ≤ 1) (hc : gCt E mX6_differ 12 nn [rf 0 0, iv a, iv b] σ (.inl (some (iv r))) σ') : hCt E mL_differ hhL_differ 13 1 [rf 0 0, iv a, iv b, rf 23 0] σ (.inl (some (iv (0)))) (gOl σ' (lv r)) := by
  refine hCt_of (L := [some (rf 0 0), some (iv a), some (iv b), some (rf 23 0), none]) (by decide +kernel) rfl rfl (Nat.le_of_ble_eq_true rfl) (fun X K hE => ?_)
  refine h_aload_3 K dL_differ_0 ?_
  refine h_iconst K dL_differ_1 ?_
  refine h_aload_0 K dL_differ_2 ?_
  refine h_iload_1 K dL_differ_3 ?_
  refine h_iload_2 K dL_differ_4 ?_
  refine h_callV2 K hc mtX6_differ miX6_differ rc0 ⟨by decide, by decide⟩ lkRL_88 ⟨by decide, by omega, by omega⟩ rfl (Nat.le_of_ble_eq_true rfl) dL_differ_5 ?_
  refine h_i2l K dL_differ_8 ?_
  refine h_last K dL_differ_9 ?_
  refine h_goto (tgt := 21) K dL_differ_10 (by decide) ?_
  refine h_iconst K dL_differ_21 ?_
  exact h_iret K hE rfl dL_differ_22 (by omega) (by omega) rfl rfl
theorem l_differ_1 {E : gE} {σ σ' : gS} (a b : Int) (nn : Nat) (hn : nn ≤ 1) (hc : gCt E mX6_differ 12 nn [rf 0 0, iv a, iv b] σ (.inr "java/lang/IndexOutOfBoundsException") σ') : hCt E mL_differ hhL_differ 13 1 [rf 0 0, iv a, iv b, rf 23 0] σ (.inl (some (iv (1)))) σ' := by
  refine hCt_of (L := [some (rf 0 0), some (iv a), some (iv b), some (rf 23 0), none]) (by decide +kernel) rfl rfl (Nat.le_of_ble_eq_true rfl) (fun X K hE => ?_)
  refine h_aload_3 K dL_differ_0 ?_
  refine h_iconst K dL_differ_1 ?_
  refine h_aload_0 K dL_differ_2 ?_
  refine h_iload_1 K dL_differ_3 ?_
  refine h_iload_2 K dL_differ_4 ?_
  refine h_catV2 K hc mtX6_differ miX6_differ rc0 ⟨by decide, by decide⟩ lkRL_88 ⟨by decide, by omega, by omega⟩ rfl (Nat.le_of_ble_eq_true rfl) dL_differ_5 ⟨[], (0, 10, 13, 20), [(0, 10, 17, 13)], "java/lang/IndexOutOfBoundsException", rfl, (fun q hq => absurd hq List.not_mem_nil), by decide, by decide, (g_mem 571 (by decide +kernel)), (g_mem 387 (by decide +kernel)), rfl⟩ (fun q => ?_)
  refine h_astorec_4 K dL_differ_13 rfl ?_
  refine h_iconst K dL_differ_15 ?_
  exact h_iret K hE rfl dL_differ_16 (by omega) (by omega) rfl rfl
theorem l_differ_2 {E : gE} {σ σ' : gS} (a b : Int) (nn : Nat) (hn : nn ≤ 1) (hc : gCt E mX6_differ 12 nn [rf 0 0, iv a, iv b] σ (.inr "java/lang/IllegalArgumentException") σ') : hCt E mL_differ hhL_differ 13 1 [rf 0 0, iv a, iv b, rf 23 0] σ (.inl (some (iv (2)))) σ' := by
  refine hCt_of (L := [some (rf 0 0), some (iv a), some (iv b), some (rf 23 0), none]) (by decide +kernel) rfl rfl (Nat.le_of_ble_eq_true rfl) (fun X K hE => ?_)
  refine h_aload_3 K dL_differ_0 ?_
  refine h_iconst K dL_differ_1 ?_
  refine h_aload_0 K dL_differ_2 ?_
  refine h_iload_1 K dL_differ_3 ?_
  refine h_iload_2 K dL_differ_4 ?_
  refine h_catV2 K hc mtX6_differ miX6_differ rc0 ⟨by decide, by decide⟩ lkRL_88 ⟨by decide, by omega, by omega⟩ rfl (Nat.le_of_ble_eq_true rfl) dL_differ_5 ⟨[(0, 10, 13, 20)], (0, 10, 17, 13), [], "java/lang/IllegalArgumentException", rfl, (List.forall_mem_cons.mpr ⟨⟨by decide, "java/lang/IndexOutOfBoundsException", (g_mem 571 (by decide +kernel)), by decide +kernel⟩, fun _ h => absurd h List.not_mem_nil⟩), by decide, by decide, (g_mem 296 (by decide +kernel)), (g_mem 459 (by decide +kernel)), rfl⟩ (fun q => ?_)
  refine h_astorec_4 K dL_differ_17 rfl ?_
  refine h_iconst K dL_differ_19 ?_
  exact h_iret K hE rfl dL_differ_20 (by omega) (by omega) rfl rfl
abbrev mL_ranked : gMt := (yL_ranked, cL_ranked, 4, (Option.some Jvm.ClassFile.FieldType.int))
abbrev hhL_ranked : List (Nat × Nat × Nat × Nat) := [(0, 9, 12, 46)]
theorem l_ranked {E : gE} {σ σ' : gS} (a : Int) (r : Int) (nn : Nat) (hn : nn ≤ 1) (hc : gCt E mX6_ranked 12 nn [rf 0 0, iv a] σ (.inl (some (iv r))) σ') : hCt E mL_ranked hhL_ranked 13 1 [rf 0 0, iv a, rf 23 0] σ (.inl (some (iv (0)))) (gOl σ' (lv r)) := by
  refine hCt_of (L := [some (rf 0 0), some (iv a), some (rf 23 0), none]) (by decide +kernel) rfl rfl (Nat.le_of_ble_eq_true rfl) (fun X K hE => ?_)
  refine h_aload_2 K dL_ranked_0 ?_
  refine h_iconst K dL_ranked_1 ?_
  refine h_aload_0 K dL_ranked_2 ?_
  refine h_iload_1 K dL_ranked_3 ?_
  refine h_callV1 K hc mtX6_ranked miX6_ranked rc0 ⟨by decide, by decide⟩ lkRL_91 ⟨by decide, by omega, by omega⟩ rfl (Nat.le_of_ble_eq_true rfl) dL_ranked_4 ?_
  refine h_i2l K dL_ranked_7 ?_
  refine h_last K dL_ranked_8 ?_
  refine h_goto (tgt := 15) K dL_ranked_9 (by decide) ?_
  refine h_iconst K dL_ranked_15 ?_
  exact h_iret K hE rfl dL_ranked_16 (by omega) (by omega) rfl rfl
theorem l_ranked_1 {E : gE} {σ σ' : gS} (a : Int) (nn : Nat) (hn : nn ≤ 1) (hc : gCt E mX6_ranked 12 nn [rf 0 0, iv a] σ (.inr "java/util/NoSuchElementException") σ') : hCt E mL_ranked hhL_ranked 13 1 [rf 0 0, iv a, rf 23 0] σ (.inl (some (iv (1)))) σ' := by
  refine hCt_of (L := [some (rf 0 0), some (iv a), some (rf 23 0), none]) (by decide +kernel) rfl rfl (Nat.le_of_ble_eq_true rfl) (fun X K hE => ?_)
  refine h_aload_2 K dL_ranked_0 ?_
  refine h_iconst K dL_ranked_1 ?_
  refine h_aload_0 K dL_ranked_2 ?_
  refine h_iload_1 K dL_ranked_3 ?_
  refine h_catV1 K hc mtX6_ranked miX6_ranked rc0 ⟨by decide, by decide⟩ lkRL_91 ⟨by decide, by omega, by omega⟩ rfl (Nat.le_of_ble_eq_true rfl) dL_ranked_4 ⟨[], (0, 9, 12, 46), [], "java/util/NoSuchElementException", rfl, (fun q hq => absurd hq List.not_mem_nil), by decide, by decide, (g_mem 666 (by decide +kernel)), (g_mem 682 (by decide +kernel)), rfl⟩ (fun q => ?_)
  refine h_astorec_3 K dL_ranked_12 rfl ?_
  refine h_iconst K dL_ranked_13 ?_
  exact h_iret K hE rfl dL_ranked_14 (by omega) (by omega) rfl rfl
abbrev mL_count : gMt := (yL_count, cL_count, 5, (Option.some Jvm.ClassFile.FieldType.int))
abbrev hhL_count : List (Nat × Nat × Nat × Nat) := [(0, 10, 13, 20), (0, 10, 17, 13)]
theorem l_count {E : gE} {σ σ' : gS} (a b : Int) (r : Int) (nn : Nat) (hn : nn ≤ 1) (hc : gCt E mX6_count 12 nn [rf 0 0, iv a, iv b] σ (.inl (some (iv r))) σ') : hCt E mL_count hhL_count 13 1 [rf 0 0, iv a, iv b, rf 23 0] σ (.inl (some (iv (0)))) (gOl σ' (lv r)) := by
  refine hCt_of (L := [some (rf 0 0), some (iv a), some (iv b), some (rf 23 0), none]) (by decide +kernel) rfl rfl (Nat.le_of_ble_eq_true rfl) (fun X K hE => ?_)
  refine h_aload_3 K dL_count_0 ?_
  refine h_iconst K dL_count_1 ?_
  refine h_aload_0 K dL_count_2 ?_
  refine h_iload_1 K dL_count_3 ?_
  refine h_iload_2 K dL_count_4 ?_
  refine h_callV2 K hc mtX6_count miX6_count rc0 ⟨by decide, by decide⟩ lkRL_94 ⟨by decide, by omega, by omega⟩ rfl (Nat.le_of_ble_eq_true rfl) dL_count_5 ?_
  refine h_i2l K dL_count_8 ?_
  refine h_last K dL_count_9 ?_
  refine h_goto (tgt := 21) K dL_count_10 (by decide) ?_
  refine h_iconst K dL_count_21 ?_
  exact h_iret K hE rfl dL_count_22 (by omega) (by omega) rfl rfl
theorem l_count_1 {E : gE} {σ σ' : gS} (a b : Int) (nn : Nat) (hn : nn ≤ 1) (hc : gCt E mX6_count 12 nn [rf 0 0, iv a, iv b] σ (.inr "java/lang/IndexOutOfBoundsException") σ') : hCt E mL_count hhL_count 13 1 [rf 0 0, iv a, iv b, rf 23 0] σ (.inl (some (iv (1)))) σ' := by
  refine hCt_of (L := [some (rf 0 0), some (iv a), some (iv b), some (rf 23 0), none]) (by decide +kernel) rfl rfl (Nat.le_of_ble_eq_true rfl) (fun X K hE => ?_)
  refine h_aload_3 K dL_count_0 ?_
  refine h_iconst K dL_count_1 ?_
  refine h_aload_0 K dL_count_2 ?_
  refine h_iload_1 K dL_count_3 ?_
  refine h_iload_2 K dL_count_4 ?_
  refine h_catV2 K hc mtX6_count miX6_count rc0 ⟨by decide, by decide⟩ lkRL_94 ⟨by decide, by omega, by omega⟩ rfl (Nat.le_of_ble_eq_true rfl) dL_count_5 ⟨[], (0, 10, 13, 20), [(0, 10, 17, 13)], "java/lang/IndexOutOfBoundsException", rfl, (fun q hq => absurd hq List.not_mem_nil), by decide, by decide, (g_mem 571 (by decide +kernel)), (g_mem 387 (by decide +kernel)), rfl⟩ (fun q => ?_)
  refine h_astorec_4 K dL_count_13 rfl ?_
  refine h_iconst K dL_count_15 ?_
  exact h_iret K hE rfl dL_count_16 (by omega) (by omega) rfl rfl
theorem l_count_2 {E : gE} {σ σ' : gS} (a b : Int) (nn : Nat) (hn : nn ≤ 1) (hc : gCt E mX6_count 12 nn [rf 0 0, iv a, iv b] σ (.inr "java/lang/IllegalArgumentException") σ') : hCt E mL_count hhL_count 13 1 [rf 0 0, iv a, iv b, rf 23 0] σ (.inl (some (iv (2)))) σ' := by
  refine hCt_of (L := [some (rf 0 0), some (iv a), some (iv b), some (rf 23 0), none]) (by decide +kernel) rfl rfl (Nat.le_of_ble_eq_true rfl) (fun X K hE => ?_)
  refine h_aload_3 K dL_count_0 ?_
  refine h_iconst K dL_count_1 ?_
  refine h_aload_0 K dL_count_2 ?_
  refine h_iload_1 K dL_count_3 ?_
  refine h_iload_2 K dL_count_4 ?_
  refine h_catV2 K hc mtX6_count miX6_count rc0 ⟨by decide, by decide⟩ lkRL_94 ⟨by decide, by omega, by omega⟩ rfl (Nat.le_of_ble_eq_true rfl) dL_count_5 ⟨[(0, 10, 13, 20)], (0, 10, 17, 13), [], "java/lang/IllegalArgumentException", rfl, (List.forall_mem_cons.mpr ⟨⟨by decide, "java/lang/IndexOutOfBoundsException", (g_mem 571 (by decide +kernel)), by decide +kernel⟩, fun _ h => absurd h List.not_mem_nil⟩), by decide, by decide, (g_mem 296 (by decide +kernel)), (g_mem 459 (by decide +kernel)), rfl⟩ (fun q => ?_)
  refine h_astorec_4 K dL_count_17 rfl ?_
  refine h_iconst K dL_count_19 ?_
  exact h_iret K hE rfl dL_count_20 (by omega) (by omega) rfl rfl
abbrev mL_line : gMt := (yL_line, cL_line, 5, (Option.some Jvm.ClassFile.FieldType.int))
abbrev hhL_line : List (Nat × Nat × Nat × Nat) := [(0, 10, 13, 20)]
theorem l_line {E : gE} {σ σ' : gS} (a b : Int) (r : Int) (nn : Nat) (hn : nn ≤ 1) (hc : gCt E mX6_line 12 nn [rf 0 0, iv a, iv b] σ (.inl (some (iv r))) σ') : hCt E mL_line hhL_line 13 1 [rf 0 0, iv a, iv b, rf 23 0] σ (.inl (some (iv (0)))) (gOl σ' (lv r)) := by
  refine hCt_of (L := [some (rf 0 0), some (iv a), some (iv b), some (rf 23 0), none]) (by decide +kernel) rfl rfl (Nat.le_of_ble_eq_true rfl) (fun X K hE => ?_)
  refine h_aload_3 K dL_line_0 ?_
  refine h_iconst K dL_line_1 ?_
  refine h_aload_0 K dL_line_2 ?_
  refine h_iload_1 K dL_line_3 ?_
  refine h_iload_2 K dL_line_4 ?_
  refine h_callV2 K hc mtX6_line miX6_line rc0 ⟨by decide, by decide⟩ lkRL_97 ⟨by decide, by omega, by omega⟩ rfl (Nat.le_of_ble_eq_true rfl) dL_line_5 ?_
  refine h_i2l K dL_line_8 ?_
  refine h_last K dL_line_9 ?_
  refine h_goto (tgt := 17) K dL_line_10 (by decide) ?_
  refine h_iconst K dL_line_17 ?_
  exact h_iret K hE rfl dL_line_18 (by omega) (by omega) rfl rfl
theorem l_line_1 {E : gE} {σ σ' : gS} (a b : Int) (nn : Nat) (hn : nn ≤ 1) (hc : gCt E mX6_line 12 nn [rf 0 0, iv a, iv b] σ (.inr "java/lang/IndexOutOfBoundsException") σ') : hCt E mL_line hhL_line 13 1 [rf 0 0, iv a, iv b, rf 23 0] σ (.inl (some (iv (1)))) σ' := by
  refine hCt_of (L := [some (rf 0 0), some (iv a), some (iv b), some (rf 23 0), none]) (by decide +kernel) rfl rfl (Nat.le_of_ble_eq_true rfl) (fun X K hE => ?_)
  refine h_aload_3 K dL_line_0 ?_
  refine h_iconst K dL_line_1 ?_
  refine h_aload_0 K dL_line_2 ?_
  refine h_iload_1 K dL_line_3 ?_
  refine h_iload_2 K dL_line_4 ?_
  refine h_catV2 K hc mtX6_line miX6_line rc0 ⟨by decide, by decide⟩ lkRL_97 ⟨by decide, by omega, by omega⟩ rfl (Nat.le_of_ble_eq_true rfl) dL_line_5 ⟨[], (0, 10, 13, 20), [], "java/lang/IndexOutOfBoundsException", rfl, (fun q hq => absurd hq List.not_mem_nil), by decide, by decide, (g_mem 571 (by decide +kernel)), (g_mem 387 (by decide +kernel)), rfl⟩ (fun q => ?_)
  refine h_astorec_4 K dL_line_13 rfl ?_
  refine h_iconst K dL_line_15 ?_
  exact h_iret K hE rfl dL_line_16 (by omega) (by omega) rfl rfl
abbrev mL_character : gMt := (yL_character, cL_character, 4, (Option.some Jvm.ClassFile.FieldType.int))
abbrev hhL_character : List (Nat × Nat × Nat × Nat) := [(0, 9, 12, 20)]
theorem l_character {E : gE} {σ σ' : gS} (a : Int) (r : Int) (nn : Nat) (hn : nn ≤ 1) (hc : gCt E mX6_character 12 nn [rf 0 0, iv a] σ (.inl (some (iv r))) σ') : hCt E mL_character hhL_character 13 1 [rf 0 0, iv a, rf 23 0] σ (.inl (some (iv (0)))) (gOl σ' (lv r)) := by
  refine hCt_of (L := [some (rf 0 0), some (iv a), some (rf 23 0), none]) (by decide +kernel) rfl rfl (Nat.le_of_ble_eq_true rfl) (fun X K hE => ?_)
  refine h_aload_2 K dL_character_0 ?_
  refine h_iconst K dL_character_1 ?_
  refine h_aload_0 K dL_character_2 ?_
  refine h_iload_1 K dL_character_3 ?_
  refine h_callV1 K hc mtX6_character miX6_character rc0 ⟨by decide, by decide⟩ lkRL_100 ⟨by decide, by omega, by omega⟩ rfl (Nat.le_of_ble_eq_true rfl) dL_character_4 ?_
  refine h_i2l K dL_character_7 ?_
  refine h_last K dL_character_8 ?_
  refine h_goto (tgt := 15) K dL_character_9 (by decide) ?_
  refine h_iconst K dL_character_15 ?_
  exact h_iret K hE rfl dL_character_16 (by omega) (by omega) rfl rfl
theorem l_character_1 {E : gE} {σ σ' : gS} (a : Int) (nn : Nat) (hn : nn ≤ 1) (hc : gCt E mX6_character 12 nn [rf 0 0, iv a] σ (.inr "java/lang/IndexOutOfBoundsException") σ') : hCt E mL_character hhL_character 13 1 [rf 0 0, iv a, rf 23 0] σ (.inl (some (iv (1)))) σ' := by
  refine hCt_of (L := [some (rf 0 0), some (iv a), some (rf 23 0), none]) (by decide +kernel) rfl rfl (Nat.le_of_ble_eq_true rfl) (fun X K hE => ?_)
  refine h_aload_2 K dL_character_0 ?_
  refine h_iconst K dL_character_1 ?_
  refine h_aload_0 K dL_character_2 ?_
  refine h_iload_1 K dL_character_3 ?_
  refine h_catV1 K hc mtX6_character miX6_character rc0 ⟨by decide, by decide⟩ lkRL_100 ⟨by decide, by omega, by omega⟩ rfl (Nat.le_of_ble_eq_true rfl) dL_character_4 ⟨[], (0, 9, 12, 20), [], "java/lang/IndexOutOfBoundsException", rfl, (fun q hq => absurd hq List.not_mem_nil), by decide, by decide, (g_mem 571 (by decide +kernel)), (g_mem 387 (by decide +kernel)), rfl⟩ (fun q => ?_)
  refine h_astorec_3 K dL_character_12 rfl ?_
  refine h_iconst K dL_character_13 ?_
  exact h_iret K hE rfl dL_character_14 (by omega) (by omega) rfl rfl
abbrev mL_append : gMt := (yL_append, cL_append, 4, (Option.some Jvm.ClassFile.FieldType.int))
abbrev hhL_append : List (Nat × Nat × Nat × Nat) := [(0, 9, 12, 108)]
theorem l_append {E : gE} {σ σ' : gS} (a : Int) (r : Int) (nn : Nat) (hn : nn ≤ 1) (hc : gCt E mX6_append 12 nn [rf 0 0, iv a] σ (.inl (some (iv r))) σ') : hCt E mL_append hhL_append 13 1 [rf 0 0, iv a, rf 23 0] σ (.inl (some (iv (0)))) (gOl σ' (lv r)) := by
  refine hCt_of (L := [some (rf 0 0), some (iv a), some (rf 23 0), none]) (by decide +kernel) rfl rfl (Nat.le_of_ble_eq_true rfl) (fun X K hE => ?_)
  refine h_aload_2 K dL_append_0 ?_
  refine h_iconst K dL_append_1 ?_
  refine h_aload_0 K dL_append_2 ?_
  refine h_iload_1 K dL_append_3 ?_
  refine h_callV1 K hc mtX6_append miX6_append rc0 ⟨by decide, by decide⟩ lkRL_104 ⟨by decide, by omega, by omega⟩ rfl (Nat.le_of_ble_eq_true rfl) dL_append_4 ?_
  refine h_i2l K dL_append_7 ?_
  refine h_last K dL_append_8 ?_
  refine h_goto (tgt := 15) K dL_append_9 (by decide) ?_
  refine h_iconst K dL_append_15 ?_
  exact h_iret K hE rfl dL_append_16 (by omega) (by omega) rfl rfl
theorem l_append_1 {E : gE} {σ σ' : gS} (a : Int) (nn : Nat) (hn : nn ≤ 1) (hc : gCt E mX6_append 12 nn [rf 0 0, iv a] σ (.inr "java/lang/IllegalStateException") σ') : hCt E mL_append hhL_append 13 1 [rf 0 0, iv a, rf 23 0] σ (.inl (some (iv (1)))) σ' := by
  refine hCt_of (L := [some (rf 0 0), some (iv a), some (rf 23 0), none]) (by decide +kernel) rfl rfl (Nat.le_of_ble_eq_true rfl) (fun X K hE => ?_)
  refine h_aload_2 K dL_append_0 ?_
  refine h_iconst K dL_append_1 ?_
  refine h_aload_0 K dL_append_2 ?_
  refine h_iload_1 K dL_append_3 ?_
  refine h_catV1 K hc mtX6_append miX6_append rc0 ⟨by decide, by decide⟩ lkRL_104 ⟨by decide, by omega, by omega⟩ rfl (Nat.le_of_ble_eq_true rfl) dL_append_4 ⟨[], (0, 9, 12, 108), [], "java/lang/IllegalStateException", rfl, (fun q hq => absurd hq List.not_mem_nil), by decide, by decide, (g_mem 1189 (by decide +kernel)), (g_mem 1200 (by decide +kernel)), rfl⟩ (fun q => ?_)
  refine h_astorec_3 K dL_append_12 rfl ?_
  refine h_iconst K dL_append_13 ?_
  exact h_iret K hE rfl dL_append_14 (by omega) (by omega) rfl rfl
abbrev mL_read : gMt := (yL_read, cL_read, 3, (Option.some Jvm.ClassFile.FieldType.int))
abbrev hhL_read : List (Nat × Nat × Nat × Nat) := [(0, 8, 11, 13), (0, 8, 14, 15)]
theorem l_read {E : gE} {σ σ' : gS} (r : Int) (nn : Nat) (hn : nn ≤ 1) (hc : gCt E mX6_read 12 nn [rf 0 0] σ (.inl (some (iv r))) σ') : hCt E mL_read hhL_read 13 1 [rf 0 0, rf 23 0] σ (.inl (some (iv (0)))) (gOl σ' (lv r)) := by
  refine hCt_of (L := [some (rf 0 0), some (rf 23 0), none]) (by decide +kernel) rfl rfl (Nat.le_of_ble_eq_true rfl) (fun X K hE => ?_)
  refine h_aload_1 K dL_read_0 ?_
  refine h_iconst K dL_read_1 ?_
  refine h_aload_0 K dL_read_2 ?_
  refine h_callV0 K hc mtX6_read miX6_read rc0 ⟨by decide, by decide⟩ lkRL_110 ⟨by decide, by omega, by omega⟩ rfl (Nat.le_of_ble_eq_true rfl) dL_read_3 ?_
  refine h_i2l K dL_read_6 ?_
  refine h_last K dL_read_7 ?_
  refine h_goto (tgt := 17) K dL_read_8 (by decide) ?_
  refine h_iconst K dL_read_17 ?_
  exact h_iret K hE rfl dL_read_18 (by omega) (by omega) rfl rfl
theorem l_read_1 {E : gE} {σ σ' : gS} (nn : Nat) (hn : nn ≤ 1) (hc : gCt E mX6_read 12 nn [rf 0 0] σ (.inr "java/lang/IllegalArgumentException") σ') : hCt E mL_read hhL_read 13 1 [rf 0 0, rf 23 0] σ (.inl (some (iv (1)))) σ' := by
  refine hCt_of (L := [some (rf 0 0), some (rf 23 0), none]) (by decide +kernel) rfl rfl (Nat.le_of_ble_eq_true rfl) (fun X K hE => ?_)
  refine h_aload_1 K dL_read_0 ?_
  refine h_iconst K dL_read_1 ?_
  refine h_aload_0 K dL_read_2 ?_
  refine h_catV0 K hc mtX6_read miX6_read rc0 ⟨by decide, by decide⟩ lkRL_110 ⟨by decide, by omega, by omega⟩ rfl (Nat.le_of_ble_eq_true rfl) dL_read_3 ⟨[], (0, 8, 11, 13), [(0, 8, 14, 15)], "java/lang/IllegalArgumentException", rfl, (fun q hq => absurd hq List.not_mem_nil), by decide, by decide, (g_mem 296 (by decide +kernel)), (g_mem 459 (by decide +kernel)), rfl⟩ (fun q => ?_)
  refine h_astorec_2 K dL_read_11 rfl ?_
  refine h_iconst K dL_read_12 ?_
  exact h_iret K hE rfl dL_read_13 (by omega) (by omega) rfl rfl
theorem l_read_2 {E : gE} {σ σ' : gS} (nn : Nat) (hn : nn ≤ 1) (hc : gCt E mX6_read 12 nn [rf 0 0] σ (.inr "java/lang/UnsupportedOperationException") σ') : hCt E mL_read hhL_read 13 1 [rf 0 0, rf 23 0] σ (.inl (some (iv (2)))) σ' := by
  refine hCt_of (L := [some (rf 0 0), some (rf 23 0), none]) (by decide +kernel) rfl rfl (Nat.le_of_ble_eq_true rfl) (fun X K hE => ?_)
  refine h_aload_1 K dL_read_0 ?_
  refine h_iconst K dL_read_1 ?_
  refine h_aload_0 K dL_read_2 ?_
  refine h_catV0 K hc mtX6_read miX6_read rc0 ⟨by decide, by decide⟩ lkRL_110 ⟨by decide, by omega, by omega⟩ rfl (Nat.le_of_ble_eq_true rfl) dL_read_3 ⟨[(0, 8, 11, 13)], (0, 8, 14, 15), [], "java/lang/UnsupportedOperationException", rfl, (List.forall_mem_cons.mpr ⟨⟨by decide, "java/lang/IllegalArgumentException", (g_mem 296 (by decide +kernel)), by decide +kernel⟩, fun _ h => absurd h List.not_mem_nil⟩), by decide, by decide, (g_mem 297 (by decide +kernel)), (g_mem 475 (by decide +kernel)), rfl⟩ (fun q => ?_)
  refine h_astorec_2 K dL_read_14 rfl ?_
  refine h_iconst K dL_read_15 ?_
  exact h_iret K hE rfl dL_read_16 (by omega) (by omega) rfl rfl
abbrev mL_refusal : gMt := (yL_refusal, cL_refusal, 4, (Option.some Jvm.ClassFile.FieldType.int))
abbrev hhL_refusal : List (Nat × Nat × Nat × Nat) := [(0, 9, 12, 46)]
theorem l_refusal {E : gE} {σ σ' : gS} (a : Int) (r : Int) (nn : Nat) (hn : nn ≤ 1) (hc : gCt E mX6_refusal 12 nn [rf 0 0, iv a] σ (.inl (some (iv r))) σ') : hCt E mL_refusal hhL_refusal 13 1 [rf 0 0, iv a, rf 23 0] σ (.inl (some (iv (0)))) (gOl σ' (lv r)) := by
  refine hCt_of (L := [some (rf 0 0), some (iv a), some (rf 23 0), none]) (by decide +kernel) rfl rfl (Nat.le_of_ble_eq_true rfl) (fun X K hE => ?_)
  refine h_aload_2 K dL_refusal_0 ?_
  refine h_iconst K dL_refusal_1 ?_
  refine h_aload_0 K dL_refusal_2 ?_
  refine h_iload_1 K dL_refusal_3 ?_
  refine h_callV1 K hc mtX6_refusal miX6_refusal rc0 ⟨by decide, by decide⟩ lkRL_114 ⟨by decide, by omega, by omega⟩ rfl (Nat.le_of_ble_eq_true rfl) dL_refusal_4 ?_
  refine h_i2l K dL_refusal_7 ?_
  refine h_last K dL_refusal_8 ?_
  refine h_goto (tgt := 15) K dL_refusal_9 (by decide) ?_
  refine h_iconst K dL_refusal_15 ?_
  exact h_iret K hE rfl dL_refusal_16 (by omega) (by omega) rfl rfl
theorem l_refusal_1 {E : gE} {σ σ' : gS} (a : Int) (nn : Nat) (hn : nn ≤ 1) (hc : gCt E mX6_refusal 12 nn [rf 0 0, iv a] σ (.inr "java/util/NoSuchElementException") σ') : hCt E mL_refusal hhL_refusal 13 1 [rf 0 0, iv a, rf 23 0] σ (.inl (some (iv (1)))) σ' := by
  refine hCt_of (L := [some (rf 0 0), some (iv a), some (rf 23 0), none]) (by decide +kernel) rfl rfl (Nat.le_of_ble_eq_true rfl) (fun X K hE => ?_)
  refine h_aload_2 K dL_refusal_0 ?_
  refine h_iconst K dL_refusal_1 ?_
  refine h_aload_0 K dL_refusal_2 ?_
  refine h_iload_1 K dL_refusal_3 ?_
  refine h_catV1 K hc mtX6_refusal miX6_refusal rc0 ⟨by decide, by decide⟩ lkRL_114 ⟨by decide, by omega, by omega⟩ rfl (Nat.le_of_ble_eq_true rfl) dL_refusal_4 ⟨[], (0, 9, 12, 46), [], "java/util/NoSuchElementException", rfl, (fun q hq => absurd hq List.not_mem_nil), by decide, by decide, (g_mem 666 (by decide +kernel)), (g_mem 682 (by decide +kernel)), rfl⟩ (fun q => ?_)
  refine h_astorec_3 K dL_refusal_12 rfl ?_
  refine h_iconst K dL_refusal_13 ?_
  exact h_iret K hE rfl dL_refusal_14 (by omega) (by omega) rfl rfl
abbrev mL_account : gMt := (yL_account, cL_account, 4, (Option.some Jvm.ClassFile.FieldType.int))
abbrev hhL_account : List (Nat × Nat × Nat × Nat) := [(0, 9, 12, 13)]
theorem l_account {E : gE} {σ σ' : gS} (a : Int) (r : Int) (nn : Nat) (hn : nn ≤ 1) (hc : gCt E mX6_account 12 nn [rf 0 0, iv a] σ (.inl (some (iv r))) σ') : hCt E mL_account hhL_account 13 1 [rf 0 0, iv a, rf 23 0] σ (.inl (some (iv (0)))) (gOl σ' (lv r)) := by
  refine hCt_of (L := [some (rf 0 0), some (iv a), some (rf 23 0), none]) (by decide +kernel) rfl rfl (Nat.le_of_ble_eq_true rfl) (fun X K hE => ?_)
  refine h_aload_2 K dL_account_0 ?_
  refine h_iconst K dL_account_1 ?_
  refine h_aload_0 K dL_account_2 ?_
  refine h_iload_1 K dL_account_3 ?_
  refine h_callV1 K hc mtX6_account miX6_account rc0 ⟨by decide, by decide⟩ lkRL_118 ⟨by decide, by omega, by omega⟩ rfl (Nat.le_of_ble_eq_true rfl) dL_account_4 ?_
  refine h_i2l K dL_account_7 ?_
  refine h_last K dL_account_8 ?_
  refine h_goto (tgt := 15) K dL_account_9 (by decide) ?_
  refine h_iconst K dL_account_15 ?_
  exact h_iret K hE rfl dL_account_16 (by omega) (by omega) rfl rfl
theorem l_account_1 {E : gE} {σ σ' : gS} (a : Int) (nn : Nat) (hn : nn ≤ 1) (hc : gCt E mX6_account 12 nn [rf 0 0, iv a] σ (.inr "java/lang/IllegalArgumentException") σ') : hCt E mL_account hhL_account 13 1 [rf 0 0, iv a, rf 23 0] σ (.inl (some (iv (1)))) σ' := by
  refine hCt_of (L := [some (rf 0 0), some (iv a), some (rf 23 0), none]) (by decide +kernel) rfl rfl (Nat.le_of_ble_eq_true rfl) (fun X K hE => ?_)
  refine h_aload_2 K dL_account_0 ?_
  refine h_iconst K dL_account_1 ?_
  refine h_aload_0 K dL_account_2 ?_
  refine h_iload_1 K dL_account_3 ?_
  refine h_catV1 K hc mtX6_account miX6_account rc0 ⟨by decide, by decide⟩ lkRL_118 ⟨by decide, by omega, by omega⟩ rfl (Nat.le_of_ble_eq_true rfl) dL_account_4 ⟨[], (0, 9, 12, 13), [], "java/lang/IllegalArgumentException", rfl, (fun q hq => absurd hq List.not_mem_nil), by decide, by decide, (g_mem 296 (by decide +kernel)), (g_mem 459 (by decide +kernel)), rfl⟩ (fun q => ?_)
  refine h_astorec_3 K dL_account_12 rfl ?_
  refine h_iconst K dL_account_13 ?_
  exact h_iret K hE rfl dL_account_14 (by omega) (by omega) rfl rfl
abbrev mL_meanSign : gMt := (yL_meanSign, cL_meanSign, 4, (Option.some Jvm.ClassFile.FieldType.int))
abbrev hhL_meanSign : List (Nat × Nat × Nat × Nat) := [(0, 8, 11, 20), (0, 8, 14, 125)]
theorem l_meanSign {E : gE} {σ σ' : gS} (a : Int) (x : UInt64) (nn : Nat) (hn : nn ≤ 1) (hc : gCt E mX6_meanSign 12 nn [rf 0 0, iv a] σ (.inl (some (.inl (.double x)))) σ') : hCt E mL_meanSign hhL_meanSign 13 1 [rf 0 0, iv a, rf 24 0] σ (.inl (some (iv (0)))) (gOd σ' x) := by
  refine hCt_of (L := [some (rf 0 0), some (iv a), some (rf 24 0), none]) (by decide +kernel) rfl rfl (Nat.le_of_ble_eq_true rfl) (fun X K hE => ?_)
  refine h_aload_2 K dL_meanSign_0 ?_
  refine h_iconst K dL_meanSign_1 ?_
  refine h_aload_0 K dL_meanSign_2 ?_
  refine h_iload_1 K dL_meanSign_3 ?_
  refine h_callV1 K hc mtX6_meanSign miX6_meanSign rc0 ⟨by decide, by decide⟩ lkRL_121 ⟨by decide, by omega, by omega⟩ rfl (Nat.le_of_ble_eq_true rfl) dL_meanSign_4 ?_
  refine h_dast K dL_meanSign_7 ?_
  refine h_goto (tgt := 17) K dL_meanSign_8 (by decide) ?_
  refine h_iconst K dL_meanSign_17 ?_
  exact h_iret K hE rfl dL_meanSign_18 (by omega) (by omega) rfl rfl
theorem l_meanSign_1 {E : gE} {σ σ' : gS} (a : Int) (nn : Nat) (hn : nn ≤ 1) (hc : gCt E mX6_meanSign 12 nn [rf 0 0, iv a] σ (.inr "java/lang/IndexOutOfBoundsException") σ') : hCt E mL_meanSign hhL_meanSign 13 1 [rf 0 0, iv a, rf 24 0] σ (.inl (some (iv (1)))) σ' := by
  refine hCt_of (L := [some (rf 0 0), some (iv a), some (rf 24 0), none]) (by decide +kernel) rfl rfl (Nat.le_of_ble_eq_true rfl) (fun X K hE => ?_)
  refine h_aload_2 K dL_meanSign_0 ?_
  refine h_iconst K dL_meanSign_1 ?_
  refine h_aload_0 K dL_meanSign_2 ?_
  refine h_iload_1 K dL_meanSign_3 ?_
  refine h_catV1 K hc mtX6_meanSign miX6_meanSign rc0 ⟨by decide, by decide⟩ lkRL_121 ⟨by decide, by omega, by omega⟩ rfl (Nat.le_of_ble_eq_true rfl) dL_meanSign_4 ⟨[], (0, 8, 11, 20), [(0, 8, 14, 125)], "java/lang/IndexOutOfBoundsException", rfl, (fun q hq => absurd hq List.not_mem_nil), by decide, by decide, (g_mem 571 (by decide +kernel)), (g_mem 387 (by decide +kernel)), rfl⟩ (fun q => ?_)
  refine h_astorec_3 K dL_meanSign_11 rfl ?_
  refine h_iconst K dL_meanSign_12 ?_
  exact h_iret K hE rfl dL_meanSign_13 (by omega) (by omega) rfl rfl
theorem l_meanSign_2 {E : gE} {σ σ' : gS} (a : Int) (nn : Nat) (hn : nn ≤ 1) (hc : gCt E mX6_meanSign 12 nn [rf 0 0, iv a] σ (.inr "java/lang/ArithmeticException") σ') : hCt E mL_meanSign hhL_meanSign 13 1 [rf 0 0, iv a, rf 24 0] σ (.inl (some (iv (2)))) σ' := by
  refine hCt_of (L := [some (rf 0 0), some (iv a), some (rf 24 0), none]) (by decide +kernel) rfl rfl (Nat.le_of_ble_eq_true rfl) (fun X K hE => ?_)
  refine h_aload_2 K dL_meanSign_0 ?_
  refine h_iconst K dL_meanSign_1 ?_
  refine h_aload_0 K dL_meanSign_2 ?_
  refine h_iload_1 K dL_meanSign_3 ?_
  refine h_catV1 K hc mtX6_meanSign miX6_meanSign rc0 ⟨by decide, by decide⟩ lkRL_121 ⟨by decide, by omega, by omega⟩ rfl (Nat.le_of_ble_eq_true rfl) dL_meanSign_4 ⟨[(0, 8, 11, 20)], (0, 8, 14, 125), [], "java/lang/ArithmeticException", rfl, (List.forall_mem_cons.mpr ⟨⟨by decide, "java/lang/IndexOutOfBoundsException", (g_mem 571 (by decide +kernel)), by decide +kernel⟩, fun _ h => absurd h List.not_mem_nil⟩), by decide, by decide, (g_mem 1316 (by decide +kernel)), (g_mem 1328 (by decide +kernel)), rfl⟩ (fun q => ?_)
  refine h_astorec_3 K dL_meanSign_14 rfl ?_
  refine h_iconst K dL_meanSign_15 ?_
  exact h_iret K hE rfl dL_meanSign_16 (by omega) (by omega) rfl rfl
abbrev mL_doubtShare : gMt := (yL_doubtShare, cL_doubtShare, 4, (Option.some Jvm.ClassFile.FieldType.int))
abbrev hhL_doubtShare : List (Nat × Nat × Nat × Nat) := [(0, 9, 12, 20)]
theorem l_doubtShare {E : gE} {σ σ' : gS} (a : Int) (x : UInt32) (hx : vf_n64 (FP.f2d x)) (nn : Nat) (hn : nn ≤ 1) (hc : gCt E mX6_doubtShare 12 nn [rf 0 0, iv a] σ (.inl (some (.inl (.float x)))) σ') : hCt E mL_doubtShare hhL_doubtShare 13 1 [rf 0 0, iv a, rf 24 0] σ (.inl (some (iv (0)))) (gOd σ' (FP.f2d x)) := by
  refine hCt_of (L := [some (rf 0 0), some (iv a), some (rf 24 0), none]) (by decide +kernel) rfl rfl (Nat.le_of_ble_eq_true rfl) (fun X K hE => ?_)
  refine h_aload_2 K dL_doubtShare_0 ?_
  refine h_iconst K dL_doubtShare_1 ?_
  refine h_aload_0 K dL_doubtShare_2 ?_
  refine h_iload_1 K dL_doubtShare_3 ?_
  refine h_callV1 K hc mtX6_doubtShare miX6_doubtShare rc0 ⟨by decide, by decide⟩ lkRL_127 ⟨by decide, by omega, by omega⟩ rfl (Nat.le_of_ble_eq_true rfl) dL_doubtShare_4 ?_
  refine h_f2d K hx dL_doubtShare_7 ?_
  refine h_dast K dL_doubtShare_8 ?_
  refine h_goto (tgt := 15) K dL_doubtShare_9 (by decide) ?_
  refine h_iconst K dL_doubtShare_15 ?_
  exact h_iret K hE rfl dL_doubtShare_16 (by omega) (by omega) rfl rfl
theorem l_doubtShare_1 {E : gE} {σ σ' : gS} (a : Int) (nn : Nat) (hn : nn ≤ 1) (hc : gCt E mX6_doubtShare 12 nn [rf 0 0, iv a] σ (.inr "java/lang/IndexOutOfBoundsException") σ') : hCt E mL_doubtShare hhL_doubtShare 13 1 [rf 0 0, iv a, rf 24 0] σ (.inl (some (iv (1)))) σ' := by
  refine hCt_of (L := [some (rf 0 0), some (iv a), some (rf 24 0), none]) (by decide +kernel) rfl rfl (Nat.le_of_ble_eq_true rfl) (fun X K hE => ?_)
  refine h_aload_2 K dL_doubtShare_0 ?_
  refine h_iconst K dL_doubtShare_1 ?_
  refine h_aload_0 K dL_doubtShare_2 ?_
  refine h_iload_1 K dL_doubtShare_3 ?_
  refine h_catV1 K hc mtX6_doubtShare miX6_doubtShare rc0 ⟨by decide, by decide⟩ lkRL_127 ⟨by decide, by omega, by omega⟩ rfl (Nat.le_of_ble_eq_true rfl) dL_doubtShare_4 ⟨[], (0, 9, 12, 20), [], "java/lang/IndexOutOfBoundsException", rfl, (fun q hq => absurd hq List.not_mem_nil), by decide, by decide, (g_mem 571 (by decide +kernel)), (g_mem 387 (by decide +kernel)), rfl⟩ (fun q => ?_)
  refine h_astorec_3 K dL_doubtShare_12 rfl ?_
  refine h_iconst K dL_doubtShare_13 ?_
  exact h_iret K hE rfl dL_doubtShare_14 (by omega) (by omega) rfl rfl
abbrev mL_undo : gMt := (yL_undo, cL_undo, 3, (Option.some Jvm.ClassFile.FieldType.int))
abbrev hhL_undo : List (Nat × Nat × Nat × Nat) := [(0, 8, 11, 108)]
theorem l_undo {E : gE} {σ σ' : gS} (r : Int) (nn : Nat) (hn : nn ≤ 1) (hc : gCt E mX6_undo 12 nn [rf 0 0] σ (.inl (some (iv r))) σ') : hCt E mL_undo hhL_undo 13 1 [rf 0 0, rf 23 0] σ (.inl (some (iv (0)))) (gOl σ' (lv r)) := by
  refine hCt_of (L := [some (rf 0 0), some (rf 23 0), none]) (by decide +kernel) rfl rfl (Nat.le_of_ble_eq_true rfl) (fun X K hE => ?_)
  refine h_aload_1 K dL_undo_0 ?_
  refine h_iconst K dL_undo_1 ?_
  refine h_aload_0 K dL_undo_2 ?_
  refine h_callV0 K hc mtX6_undo miX6_undo rc0 ⟨by decide, by decide⟩ lkRL_131 ⟨by decide, by omega, by omega⟩ rfl (Nat.le_of_ble_eq_true rfl) dL_undo_3 ?_
  refine h_i2l K dL_undo_6 ?_
  refine h_last K dL_undo_7 ?_
  refine h_goto (tgt := 14) K dL_undo_8 (by decide) ?_
  refine h_iconst K dL_undo_14 ?_
  exact h_iret K hE rfl dL_undo_15 (by omega) (by omega) rfl rfl
theorem l_undo_1 {E : gE} {σ σ' : gS} (nn : Nat) (hn : nn ≤ 1) (hc : gCt E mX6_undo 12 nn [rf 0 0] σ (.inr "java/lang/IllegalStateException") σ') : hCt E mL_undo hhL_undo 13 1 [rf 0 0, rf 23 0] σ (.inl (some (iv (1)))) σ' := by
  refine hCt_of (L := [some (rf 0 0), some (rf 23 0), none]) (by decide +kernel) rfl rfl (Nat.le_of_ble_eq_true rfl) (fun X K hE => ?_)
  refine h_aload_1 K dL_undo_0 ?_
  refine h_iconst K dL_undo_1 ?_
  refine h_aload_0 K dL_undo_2 ?_
  refine h_catV0 K hc mtX6_undo miX6_undo rc0 ⟨by decide, by decide⟩ lkRL_131 ⟨by decide, by omega, by omega⟩ rfl (Nat.le_of_ble_eq_true rfl) dL_undo_3 ⟨[], (0, 8, 11, 108), [], "java/lang/IllegalStateException", rfl, (fun q hq => absurd hq List.not_mem_nil), by decide, by decide, (g_mem 1189 (by decide +kernel)), (g_mem 1200 (by decide +kernel)), rfl⟩ (fun q => ?_)
  refine h_astorec_2 K dL_undo_11 rfl ?_
  refine h_iconst K dL_undo_12 ?_
  exact h_iret K hE rfl dL_undo_13 (by omega) (by omega) rfl rfl
abbrev mL_restore : gMt := (yL_restore, cL_restore, 3, (Option.some Jvm.ClassFile.FieldType.int))
abbrev hhL_restore : List (Nat × Nat × Nat × Nat) := [(0, 8, 11, 108)]
theorem l_restore {E : gE} {σ σ' : gS} (r : Int) (nn : Nat) (hn : nn ≤ 1) (hc : gCt E mX6_restore 12 nn [rf 0 0] σ (.inl (some (iv r))) σ') : hCt E mL_restore hhL_restore 13 1 [rf 0 0, rf 23 0] σ (.inl (some (iv (0)))) (gOl σ' (lv r)) := by
  refine hCt_of (L := [some (rf 0 0), some (rf 23 0), none]) (by decide +kernel) rfl rfl (Nat.le_of_ble_eq_true rfl) (fun X K hE => ?_)
  refine h_aload_1 K dL_restore_0 ?_
  refine h_iconst K dL_restore_1 ?_
  refine h_aload_0 K dL_restore_2 ?_
  refine h_callV0 K hc mtX6_restore miX6_restore rc0 ⟨by decide, by decide⟩ lkRL_134 ⟨by decide, by omega, by omega⟩ rfl (Nat.le_of_ble_eq_true rfl) dL_restore_3 ?_
  refine h_i2l K dL_restore_6 ?_
  refine h_last K dL_restore_7 ?_
  refine h_goto (tgt := 14) K dL_restore_8 (by decide) ?_
  refine h_iconst K dL_restore_14 ?_
  exact h_iret K hE rfl dL_restore_15 (by omega) (by omega) rfl rfl
theorem l_restore_1 {E : gE} {σ σ' : gS} (nn : Nat) (hn : nn ≤ 1) (hc : gCt E mX6_restore 12 nn [rf 0 0] σ (.inr "java/lang/IllegalStateException") σ') : hCt E mL_restore hhL_restore 13 1 [rf 0 0, rf 23 0] σ (.inl (some (iv (1)))) σ' := by
  refine hCt_of (L := [some (rf 0 0), some (rf 23 0), none]) (by decide +kernel) rfl rfl (Nat.le_of_ble_eq_true rfl) (fun X K hE => ?_)
  refine h_aload_1 K dL_restore_0 ?_
  refine h_iconst K dL_restore_1 ?_
  refine h_aload_0 K dL_restore_2 ?_
  refine h_catV0 K hc mtX6_restore miX6_restore rc0 ⟨by decide, by decide⟩ lkRL_134 ⟨by decide, by omega, by omega⟩ rfl (Nat.le_of_ble_eq_true rfl) dL_restore_3 ⟨[], (0, 8, 11, 108), [], "java/lang/IllegalStateException", rfl, (fun q hq => absurd hq List.not_mem_nil), by decide, by decide, (g_mem 1189 (by decide +kernel)), (g_mem 1200 (by decide +kernel)), rfl⟩ (fun q => ?_)
  refine h_astorec_2 K dL_restore_11 rfl ?_
  refine h_iconst K dL_restore_12 ?_
  exact h_iret K hE rfl dL_restore_13 (by omega) (by omega) rfl rfl
