/-! ===== the law: rows of its own ===== -/
abbrev mL_law : gMt := (x, code, 9, some .boolean)
def sx (xs : Nat → Int32) (j : Nat) : Int := (xs j).toInt
theorem sx_r (xs : Nat → Int32) (j : Nat) : -2147483648 ≤ sx xs j ∧ sx xs j < 2147483648 := ⟨by have := Int32.le_toInt (xs j); unfold sx; simpa using this, by have := Int32.toInt_lt (xs j); unfold sx; simpa using this⟩
def hSc (X : gM) (E : gE) (b L9 : Nat) (xs : Nat → Int32) : Prop := va_X b L9 xs X.2.2.2.2.1 X.2.2.2.2.1.heap ∧ X.2.2.2.2.1.heap.size = gB E ∧ b < gB E ∧ L9 ≤ 2560
def gMthH (N : gMt) (hh : List (Nat × Nat × Nat × Nat)) (k : Nat) : Prop := Cond.codeWith N.1 N.2.1 N.2.2.1 N.2.2.2 hh ∈ lw_tbl ∧ Cond.initialized N.1.cls ∈ lw_tbl ∧ (N.1.cls ≠ "java/lang/invoke/MethodHandle" ∧ N.1.cls ≠ "java/lang/invoke/VarHandle") ∧ (parseMethodDescriptor N.1.desc).map (fun d => d.parameters.length) = some k ∧ N.2.2.1 ≤ 40
abbrev wL (b i : Nat) : List (Option gV) := [some (.inl (.ref b)), some (rf 0 0), some (rf 14 0), some (rf 23 0), some (rf 24 0), some (iv (i : Int)), none, none, none]
section GL
variable {X : gM} {E : gE} {M : gMt} {D n cells slots pc : Nat} {L : List (Option gV)} {st : List gV} {σ σ' : gS} {hh : List (Nat × Nat × Nat × Nat)}
theorem x_sld (K : gK X E M D n) {b L9 : Nat} {xs : Nat → Int32} (S : hSc X E b L9 xs) {z : Int} (j : Nat) (hz : z = (j : Int)) (hj : j < L9) (d : decode M.2.1 pc = .ok (.iaload, 1)) (kk : gWX X E cells slots (pc + 1) L (iv (sx xs j) :: st) σ) : gWX X E cells slots pc L (iv z :: .inl (.ref b) :: st) σ := by
  subst hz
  obtain ⟨s1, s2, s3, s4⟩ := S
  intro H locs ls hP hS hl
  refine va_sld K.1 K.2.1 s1 (by omega) (show ¬ gB E ≤ b by omega) hS (i := Int32.ofInt (j : Int)) (g_in hj (by omega)) d ?_
  rw [g_cl (by omega)]
  have h := kk H locs ls hP hS hl
  have e : (gc E (iv (sx xs j))) = .int (xs j) := by
    show Value.int (Int32.ofInt (xs j).toInt) = _
    rw [Int32.ofInt_toInt]
  rw [List.map_cons, e] at h
  exact h
theorem x_slen (K : gK X E M D n) {b L9 : Nat} {xs : Nat → Int32} (S : hSc X E b L9 xs) (d : decode M.2.1 pc = .ok (.arraylength, 1)) (kk : gWX X E cells slots (pc + 1) L (iv (L9 : Int) :: st) σ) : gWX X E cells slots pc L (.inl (.ref b) :: st) σ := by
  obtain ⟨s1, s2, s3, s4⟩ := S
  intro H locs ls hP hS hl
  refine va_slen K.1 K.2.1 s1 (by omega) (show ¬ gB E ≤ b by omega) hS d ?_
  rw [← Int32.ofInt_eq_ofNat]
  exact kk H locs ls hP hS hl
theorem x_lcmpE (K : gK X E M D n) {v : Int64} (d : decode M.2.1 pc = .ok (.lcmp, 1)) (kk : gWX X E cells slots (pc + 1) L (iv 0 :: st) σ) : gWX X E cells slots pc L (.inl (.long v) :: .inl (.long v) :: st) σ := by
  intro H locs ls hP hS hl
  refine W.lcmp K.1 K.2.1 d ?_
  have e : lg_cmp v v = 0 := by
    unfold lg_cmp
    rw [if_neg (fun h => absurd h (Int64.lt_irrefl)), if_pos rfl]
  rw [e]
  exact kk H locs ls hP hS hl
theorem gSt2 {v : UInt64} {ls' : Array Slot} (h : lv_has ls' L.length ((7, Value.double v) :: (gAsc E 0 L).filter (fun q => !(q.1 == 7) && (!(q.1 == 7 + 1) && !(q.1 + 1 == 7 && q.2.category == 2))))) (hp : gC1 (L[6]?.join) = true) : lv_has ls' ((L.set 7 (some (.inl (.double v)))).set 8 none).length (gAsc E 0 ((L.set 7 (some (.inl (.double v)))).set 8 none)) := by
  refine ⟨by rw [List.length_set, List.length_set]; exact h.1, h.2.1, fun q hq => ?_⟩
  obtain ⟨j, w, h1, h2⟩ := gAsc_in _ 0 hq
  rw [Nat.zero_add] at h2
  subst h2
  by_cases h8 : 8 = j
  · subst h8
    have hl := (List.getElem?_eq_some_iff.mp h1).1
    rw [List.length_set, List.length_set] at hl
    rw [List.getElem?_set_self (by rw [List.length_set]; exact hl)] at h1
    cases h1
  · rw [List.getElem?_set_ne h8] at h1
    by_cases h7 : 7 = j
    · subst h7
      have hl := (List.getElem?_eq_some_iff.mp h1).1
      rw [List.length_set] at hl
      rw [List.getElem?_set_self hl] at h1
      have e := Option.some.inj (Option.some.inj h1)
      subst e
      exact h.2.2 _ List.mem_cons_self
    · rw [List.getElem?_set_ne h7] at h1
      refine h.2.2 _ (List.mem_cons_of_mem _ (List.mem_filter.mpr ⟨?_, ?_⟩))
      · have := gAsc_mem (E := E) L 0 j h1
        rw [Nat.zero_add] at this
        exact this
      · show (!(j == 7) && (!(j == 7 + 1) && !(j + 1 == 7 && (gc E w).category == 2))) = true
        have e1 : (j == 7) = false := by simpa using fun q => h7 q.symm
        have e2 : (j == 7 + 1) = false := by simpa using fun q => h8 q.symm
        rw [e1, e2]
        by_cases h6 : j = 6
        · subst h6
          rw [h1] at hp
          have h4 : (gc E w).category = 1 := gC1_cat hp
          rw [h4]; rfl
        · have e3 : (j + 1 == 7) = false := by simpa using fun q => h6 (by omega)
          rw [e3]; rfl
theorem x_dstore7 (K : gK X E M D n) {v : UInt64} (hL : L.length = 9) (hp : gC1 (L[6]?.join) = true) (d : decode M.2.1 pc = .ok (.dstore 7, 2)) (kk : gWX X E cells slots (pc + 2) ((L.set 7 (some (.inl (.double v)))).set 8 none) st σ) : gWX X E cells slots pc L (.inl (.double v) :: st) σ :=
  fun H locs ls hP hS hl => lv_dstore K.1 K.2.1 d hl (by omega) rfl (fun ls' hl' => kk H locs ls' hP hS (gSt2 hl' hp))
theorem x_dload7 (K : gK X E M D n) {v : UInt64} (h7 : L[7]? = some (some (.inl (.double v)))) (d : decode M.2.1 pc = .ok (.dload 7, 2)) (kk : gWX X E cells slots (pc + 2) L (.inl (.double v) :: st) σ) : gWX X E cells slots pc L st σ :=
  fun H locs ls hP hS hl => lv_dload K.1 K.2.1 d (gLd (i := 7) hl h7) (kk H locs ls hP hS hl)
theorem x_fstore7 (K : gK X E M D n) {v : UInt32} (hL : L.length = 9) (hp : gPr L 7) (d : decode M.2.1 pc = .ok (.fstore 7, 2)) (kk : gWX X E cells slots (pc + 2) (L.set 7 (some (.inl (.float v)))) st σ) : gWX X E cells slots pc L (.inl (.float v) :: st) σ :=
  fun H locs ls hP hS hl => lv_fstore K.1 K.2.1 d hl (by omega) rfl (fun ls' hl' => kk H locs ls' hP hS (gSt1 (v := .inl (.float v)) hl' hp))
theorem x_fload7 (K : gK X E M D n) {v : UInt32} (h7 : L[7]? = some (some (.inl (.float v)))) (d : decode M.2.1 pc = .ok (.fload 7, 2)) (kk : gWX X E cells slots (pc + 2) L (.inl (.float v) :: st) σ) : gWX X E cells slots pc L st σ :=
  fun H locs ls hP hS hl => lv_fload K.1 K.2.1 d (gLd (i := 7) hl h7) (kk H locs ls hP hS hl)
theorem gRunH (K : gK X E M D n) {N : gMt} {d n' idx : Nat} {as : List gV} {o : gO} {H : Heap} {locs : List Loc} {ls : Array Slot} (hc : hCt E N hh d n' as σ o σ') (hm : gMthH N hh as.length) (hi : Cond.static N.1 ∈ lw_tbl) (hl : Cond.methodLink M.1.cls idx N.1 ∈ lw_tbl) (hf : gFit D d n cells slots n') (hL : ls.size = M.2.2.1) (hst : gCats st ≤ 8) (hP : va_P (gD E) gCl (gW E σ) H) (hS : va_S (gA E) X.2.2.2.2.1.heap H locs) (dd : decode M.2.1 pc = .ok (.invokestatic idx, 3)) :
    gRun X E H locs cells slots n' pc ls ((as.map (gc E)).reverse ++ st.map (gc E)) (st.map (gc E)) σ o σ' := by
  have hN := K.2.2.2.2.1
  have hR := K.2.2.2.2.2.2.2.2.2
  have h40 : 8 + (N.2.2.1 + 11) + 64 * d ≤ 64 * D := by have h1 := hm.2.2.2.2; have h2 := hf.1; omega
  unfold hCt at hc
  rw [← K.2.2.2.2.2.2.1] at hc
  have S : CallFix X.1 X.2.2.2.2.2.1 X.2.2.2.2.2.2.2.2.2.1 M.2.1 M.2.2.1 X.2.2.2.2.1 X.2.2.2.2.2.2.1 [] M.1.cls := ⟨K.1, K.2.1, K.2.2.1, K.2.2.2.1, fun w h => by cases h⟩
  have hp : PreS X.2.2.2.2.1 H (va_Pc (List.map (gc E) as) (gI E σ)) (as.map (gc E)) := ⟨gPc_blind, gPc_at K hP hS⟩
  have hW : 2 * (F0 X.2.2.2.2.2.1 pc ls ((as.map (gc E)).reverse ++ st.map (gc E))).monitorRoom + ((st.map (gc E)).map fun v => v.category).sum ≤ 8 := lv_room (Nat.le_trans (gCats_le st) hst)
  have hr : cells + n' ≤ X.2.2.2.1.cells ∧ slots + 6 * n' ≤ X.2.2.2.1.slots := by rw [hR]; exact hf.2
  have hpay : ∀ w ∈ [Cond.codeWith N.1 N.2.1 N.2.2.1 N.2.2.2 hh], ∀ (a' : Array Value) (U : State), X.2.2.2.2.1.WarmedH U.vm → w.before a' U = true := by
    intro w hw a' U hW
    rw [List.mem_singleton] at hw
    subst hw
    exact word_at hW (Or.inl rfl) (gN_word K.2.2.2.2.1 hm.1 rfl #[])
  have hlen : ∀ sig, parseMethodDescriptor N.1.desc = some sig → as.length = sig.parameters.length := by
    intro sig h
    have h2 := hm.2.2.2.1
    rw [h] at h2
    exact (Option.some.inj h2).symm
  exact vx_runSX (As := as.map (gc E)) (rest := st.map (gc E)) S hc ⟨⟨rfl, rfl, by rw [hR]; exact hf.1, by rw [hR]; exact h40, hpay, List.mem_singleton.mpr rfl⟩, gN_word hN hm.1 rfl _, gN_word hN hm.2.1 rfl _, hm.2.2.1, hlen, gN_word hN hl rfl _, gN_word hN hi rfl _⟩ hp rfl (by rw [List.length_map]) hL rfl hW dd hr
theorem x_callH2 (K : gK X E M D n) {N : gMt} {d n' idx : Nat} {v1 v2 : gV} {r : gV} (hc : hCt E N hh d n' ([v1, v2]) σ (.inl (some r)) σ') (hm : gMthH N hh 2) (hi : Cond.static N.1 ∈ lw_tbl) (hl : Cond.methodLink M.1.cls idx N.1 ∈ lw_tbl) (hf : gFit D d n cells slots n') (hL : L.length = M.2.2.1) (hst : gCats st ≤ 8) (dd : decode M.2.1 pc = .ok (.invokestatic idx, 3)) (kk : gWX X E (cells + n') (slots + 6 * n') (pc + 3) L (r :: st) σ') : gWX X E cells slots pc L (v2 :: v1 :: st) σ :=
  fun H locs ls hP hS hlv => gBack (L := L) (st := st) (gRunH K (as := [v1, v2]) hc hm hi hl hf (hlv.1.trans hL) hst hP hS dd) hS hlv kk
theorem x_callH3 (K : gK X E M D n) {N : gMt} {d n' idx : Nat} {v1 v2 v3 : gV} {r : gV} (hc : hCt E N hh d n' ([v1, v2, v3]) σ (.inl (some r)) σ') (hm : gMthH N hh 3) (hi : Cond.static N.1 ∈ lw_tbl) (hl : Cond.methodLink M.1.cls idx N.1 ∈ lw_tbl) (hf : gFit D d n cells slots n') (hL : L.length = M.2.2.1) (hst : gCats st ≤ 8) (dd : decode M.2.1 pc = .ok (.invokestatic idx, 3)) (kk : gWX X E (cells + n') (slots + 6 * n') (pc + 3) L (r :: st) σ') : gWX X E cells slots pc L (v3 :: v2 :: v1 :: st) σ :=
  fun H locs ls hP hS hlv => gBack (L := L) (st := st) (gRunH K (as := [v1, v2, v3]) hc hm hi hl hf (hlv.1.trans hL) hst hP hS dd) hS hlv kk
theorem x_callH4 (K : gK X E M D n) {N : gMt} {d n' idx : Nat} {v1 v2 v3 v4 : gV} {r : gV} (hc : hCt E N hh d n' ([v1, v2, v3, v4]) σ (.inl (some r)) σ') (hm : gMthH N hh 4) (hi : Cond.static N.1 ∈ lw_tbl) (hl : Cond.methodLink M.1.cls idx N.1 ∈ lw_tbl) (hf : gFit D d n cells slots n') (hL : L.length = M.2.2.1) (hst : gCats st ≤ 8) (dd : decode M.2.1 pc = .ok (.invokestatic idx, 3)) (kk : gWX X E (cells + n') (slots + 6 * n') (pc + 3) L (r :: st) σ') : gWX X E cells slots pc L (v4 :: v3 :: v2 :: v1 :: st) σ :=
  fun H locs ls hP hS hlv => gBack (L := L) (st := st) (gRunH K (as := [v1, v2, v3, v4]) hc hm hi hl hf (hlv.1.trans hL) hst hP hS dd) hS hlv kk
theorem x_callH5 (K : gK X E M D n) {N : gMt} {d n' idx : Nat} {v1 v2 v3 v4 v5 : gV} {r : gV} (hc : hCt E N hh d n' ([v1, v2, v3, v4, v5]) σ (.inl (some r)) σ') (hm : gMthH N hh 5) (hi : Cond.static N.1 ∈ lw_tbl) (hl : Cond.methodLink M.1.cls idx N.1 ∈ lw_tbl) (hf : gFit D d n cells slots n') (hL : L.length = M.2.2.1) (hst : gCats st ≤ 8) (dd : decode M.2.1 pc = .ok (.invokestatic idx, 3)) (kk : gWX X E (cells + n') (slots + 6 * n') (pc + 3) L (r :: st) σ') : gWX X E cells slots pc L (v5 :: v4 :: v3 :: v2 :: v1 :: st) σ :=
  fun H locs ls hP hS hlv => gBack (L := L) (st := st) (gRunH K (as := [v1, v2, v3, v4, v5]) hc hm hi hl hf (hlv.1.trans hL) hst hP hS dd) hS hlv kk
theorem x_callH6 (K : gK X E M D n) {N : gMt} {d n' idx : Nat} {v1 v2 v3 v4 v5 v6 : gV} {r : gV} (hc : hCt E N hh d n' ([v1, v2, v3, v4, v5, v6]) σ (.inl (some r)) σ') (hm : gMthH N hh 6) (hi : Cond.static N.1 ∈ lw_tbl) (hl : Cond.methodLink M.1.cls idx N.1 ∈ lw_tbl) (hf : gFit D d n cells slots n') (hL : L.length = M.2.2.1) (hst : gCats st ≤ 8) (dd : decode M.2.1 pc = .ok (.invokestatic idx, 3)) (kk : gWX X E (cells + n') (slots + 6 * n') (pc + 3) L (r :: st) σ') : gWX X E cells slots pc L (v6 :: v5 :: v4 :: v3 :: v2 :: v1 :: st) σ :=
  fun H locs ls hP hS hlv => gBack (L := L) (st := st) (gRunH K (as := [v1, v2, v3, v4, v5, v6]) hc hm hi hl hf (hlv.1.trans hL) hst hP hS dd) hS hlv kk
end GL
theorem mtL_scroll : gMthH mL_scroll hhL_scroll 4 := ⟨g_mem 295 (by decide +kernel), g_mem 0 (by decide +kernel), ⟨by decide +kernel, by decide +kernel⟩, by decide +kernel, by decide⟩
theorem msL_scroll : Cond.static mL_scroll.1 ∈ lw_tbl := g_mem 294 (by decide +kernel)
theorem mtL_scrollOf : gMthH mL_scrollOf hhL_scrollOf 4 := ⟨g_mem 570 (by decide +kernel), g_mem 0 (by decide +kernel), ⟨by decide +kernel, by decide +kernel⟩, by decide +kernel, by decide⟩
theorem msL_scrollOf : Cond.static mL_scrollOf.1 ∈ lw_tbl := g_mem 569 (by decide +kernel)
theorem mtL_write : gMthH mL_write hhL_write 6 := ⟨g_mem 606 (by decide +kernel), g_mem 0 (by decide +kernel), ⟨by decide +kernel, by decide +kernel⟩, by decide +kernel, by decide⟩
theorem msL_write : Cond.static mL_write.1 ∈ lw_tbl := g_mem 605 (by decide +kernel)
theorem mtL_signAt : gMthH mL_signAt hhL_signAt 5 := ⟨g_mem 615 (by decide +kernel), g_mem 0 (by decide +kernel), ⟨by decide +kernel, by decide +kernel⟩, by decide +kernel, by decide⟩
theorem msL_signAt : Cond.static mL_signAt.1 ∈ lw_tbl := g_mem 614 (by decide +kernel)
theorem mtL_seal : gMthH mL_seal hhL_seal 3 := ⟨g_mem 629 (by decide +kernel), g_mem 0 (by decide +kernel), ⟨by decide +kernel, by decide +kernel⟩, by decide +kernel, by decide⟩
theorem msL_seal : Cond.static mL_seal.1 ∈ lw_tbl := g_mem 628 (by decide +kernel)
theorem mtL_copy : gMthH mL_copy hhL_copy 3 := ⟨g_mem 638 (by decide +kernel), g_mem 0 (by decide +kernel), ⟨by decide +kernel, by decide +kernel⟩, by decide +kernel, by decide⟩
theorem msL_copy : Cond.static mL_copy.1 ∈ lw_tbl := g_mem 637 (by decide +kernel)
theorem mtL_slip : gMthH mL_slip hhL_slip 6 := ⟨g_mem 647 (by decide +kernel), g_mem 0 (by decide +kernel), ⟨by decide +kernel, by decide +kernel⟩, by decide +kernel, by decide⟩
theorem msL_slip : Cond.static mL_slip.1 ∈ lw_tbl := g_mem 646 (by decide +kernel)
theorem mtL_smudge : gMthH mL_smudge hhL_smudge 5 := ⟨g_mem 656 (by decide +kernel), g_mem 0 (by decide +kernel), ⟨by decide +kernel, by decide +kernel⟩, by decide +kernel, by decide⟩
theorem msL_smudge : Cond.static mL_smudge.1 ∈ lw_tbl := g_mem 655 (by decide +kernel)
theorem mtL_rowSum : gMthH mL_rowSum hhL_rowSum 4 := ⟨g_mem 665 (by decide +kernel), g_mem 0 (by decide +kernel), ⟨by decide +kernel, by decide +kernel⟩, by decide +kernel, by decide⟩
theorem msL_rowSum : Cond.static mL_rowSum.1 ∈ lw_tbl := g_mem 664 (by decide +kernel)
theorem mtL_columnSum : gMthH mL_columnSum hhL_columnSum 4 := ⟨g_mem 699 (by decide +kernel), g_mem 0 (by decide +kernel), ⟨by decide +kernel, by decide +kernel⟩, by decide +kernel, by decide⟩
theorem msL_columnSum : Cond.static mL_columnSum.1 ∈ lw_tbl := g_mem 698 (by decide +kernel)
theorem mtL_rowFault : gMthH mL_rowFault hhL_rowFault 4 := ⟨g_mem 712 (by decide +kernel), g_mem 0 (by decide +kernel), ⟨by decide +kernel, by decide +kernel⟩, by decide +kernel, by decide⟩
theorem msL_rowFault : Cond.static mL_rowFault.1 ∈ lw_tbl := g_mem 711 (by decide +kernel)
theorem mtL_columnFault : gMthH mL_columnFault hhL_columnFault 4 := ⟨g_mem 720 (by decide +kernel), g_mem 0 (by decide +kernel), ⟨by decide +kernel, by decide +kernel⟩, by decide +kernel, by decide⟩
theorem msL_columnFault : Cond.static mL_columnFault.1 ∈ lw_tbl := g_mem 719 (by decide +kernel)
theorem mtL_wrongRows : gMthH mL_wrongRows hhL_wrongRows 3 := ⟨g_mem 727 (by decide +kernel), g_mem 0 (by decide +kernel), ⟨by decide +kernel, by decide +kernel⟩, by decide +kernel, by decide⟩
theorem msL_wrongRows : Cond.static mL_wrongRows.1 ∈ lw_tbl := g_mem 726 (by decide +kernel)
theorem mtL_wrongColumns : gMthH mL_wrongColumns hhL_wrongColumns 3 := ⟨g_mem 735 (by decide +kernel), g_mem 0 (by decide +kernel), ⟨by decide +kernel, by decide +kernel⟩, by decide +kernel, by decide⟩
theorem msL_wrongColumns : Cond.static mL_wrongColumns.1 ∈ lw_tbl := g_mem 734 (by decide +kernel)
theorem mtL_isInDoubt : gMthH mL_isInDoubt hhL_isInDoubt 5 := ⟨g_mem 743 (by decide +kernel), g_mem 0 (by decide +kernel), ⟨by decide +kernel, by decide +kernel⟩, by decide +kernel, by decide⟩
theorem msL_isInDoubt : Cond.static mL_isInDoubt.1 ∈ lw_tbl := g_mem 742 (by decide +kernel)
theorem mtL_doubts : gMthH mL_doubts hhL_doubts 3 := ⟨g_mem 754 (by decide +kernel), g_mem 0 (by decide +kernel), ⟨by decide +kernel, by decide +kernel⟩, by decide +kernel, by decide⟩
theorem msL_doubts : Cond.static mL_doubts.1 ∈ lw_tbl := g_mem 753 (by decide +kernel)
theorem mtL_doubtsAgain : gMthH mL_doubtsAgain hhL_doubtsAgain 3 := ⟨g_mem 766 (by decide +kernel), g_mem 0 (by decide +kernel), ⟨by decide +kernel, by decide +kernel⟩, by decide +kernel, by decide⟩
theorem msL_doubtsAgain : Cond.static mL_doubtsAgain.1 ∈ lw_tbl := g_mem 765 (by decide +kernel)
theorem mtL_mend : gMthH mL_mend hhL_mend 3 := ⟨g_mem 777 (by decide +kernel), g_mem 0 (by decide +kernel), ⟨by decide +kernel, by decide +kernel⟩, by decide +kernel, by decide⟩
theorem msL_mend : Cond.static mL_mend.1 ∈ lw_tbl := g_mem 776 (by decide +kernel)
theorem mtL_wouldMend : gMthH mL_wouldMend hhL_wouldMend 3 := ⟨g_mem 786 (by decide +kernel), g_mem 0 (by decide +kernel), ⟨by decide +kernel, by decide +kernel⟩, by decide +kernel, by decide⟩
theorem msL_wouldMend : Cond.static mL_wouldMend.1 ∈ lw_tbl := g_mem 785 (by decide +kernel)
theorem mtL_mendAgain : gMthH mL_mendAgain hhL_mendAgain 3 := ⟨g_mem 799 (by decide +kernel), g_mem 0 (by decide +kernel), ⟨by decide +kernel, by decide +kernel⟩, by decide +kernel, by decide⟩
theorem msL_mendAgain : Cond.static mL_mendAgain.1 ∈ lw_tbl := g_mem 798 (by decide +kernel)
theorem mtL_fill : gMthH mL_fill hhL_fill 3 := ⟨g_mem 819 (by decide +kernel), g_mem 0 (by decide +kernel), ⟨by decide +kernel, by decide +kernel⟩, by decide +kernel, by decide⟩
theorem msL_fill : Cond.static mL_fill.1 ∈ lw_tbl := g_mem 818 (by decide +kernel)
theorem mtL_wouldFill : gMthH mL_wouldFill hhL_wouldFill 5 := ⟨g_mem 828 (by decide +kernel), g_mem 0 (by decide +kernel), ⟨by decide +kernel, by decide +kernel⟩, by decide +kernel, by decide⟩
theorem msL_wouldFill : Cond.static mL_wouldFill.1 ∈ lw_tbl := g_mem 827 (by decide +kernel)
theorem mtL_differ : gMthH mL_differ hhL_differ 4 := ⟨g_mem 839 (by decide +kernel), g_mem 0 (by decide +kernel), ⟨by decide +kernel, by decide +kernel⟩, by decide +kernel, by decide⟩
theorem msL_differ : Cond.static mL_differ.1 ∈ lw_tbl := g_mem 838 (by decide +kernel)
theorem mtL_ranked : gMthH mL_ranked hhL_ranked 3 := ⟨g_mem 851 (by decide +kernel), g_mem 0 (by decide +kernel), ⟨by decide +kernel, by decide +kernel⟩, by decide +kernel, by decide⟩
theorem msL_ranked : Cond.static mL_ranked.1 ∈ lw_tbl := g_mem 850 (by decide +kernel)
theorem mtL_count : gMthH mL_count hhL_count 4 := ⟨g_mem 872 (by decide +kernel), g_mem 0 (by decide +kernel), ⟨by decide +kernel, by decide +kernel⟩, by decide +kernel, by decide⟩
theorem msL_count : Cond.static mL_count.1 ∈ lw_tbl := g_mem 871 (by decide +kernel)
theorem mtL_line : gMthH mL_line hhL_line 4 := ⟨g_mem 885 (by decide +kernel), g_mem 0 (by decide +kernel), ⟨by decide +kernel, by decide +kernel⟩, by decide +kernel, by decide⟩
theorem msL_line : Cond.static mL_line.1 ∈ lw_tbl := g_mem 884 (by decide +kernel)
theorem mtL_character : gMthH mL_character hhL_character 3 := ⟨g_mem 1170 (by decide +kernel), g_mem 0 (by decide +kernel), ⟨by decide +kernel, by decide +kernel⟩, by decide +kernel, by decide⟩
theorem msL_character : Cond.static mL_character.1 ∈ lw_tbl := g_mem 1169 (by decide +kernel)
theorem mtL_append : gMthH mL_append hhL_append 3 := ⟨g_mem 1188 (by decide +kernel), g_mem 0 (by decide +kernel), ⟨by decide +kernel, by decide +kernel⟩, by decide +kernel, by decide⟩
theorem msL_append : Cond.static mL_append.1 ∈ lw_tbl := g_mem 1187 (by decide +kernel)
theorem mtL_read : gMthH mL_read hhL_read 2 := ⟨g_mem 1220 (by decide +kernel), g_mem 0 (by decide +kernel), ⟨by decide +kernel, by decide +kernel⟩, by decide +kernel, by decide⟩
theorem msL_read : Cond.static mL_read.1 ∈ lw_tbl := g_mem 1219 (by decide +kernel)
theorem mtL_refusal : gMthH mL_refusal hhL_refusal 3 := ⟨g_mem 1291 (by decide +kernel), g_mem 0 (by decide +kernel), ⟨by decide +kernel, by decide +kernel⟩, by decide +kernel, by decide⟩
theorem msL_refusal : Cond.static mL_refusal.1 ∈ lw_tbl := g_mem 1290 (by decide +kernel)
theorem mtL_account : gMthH mL_account hhL_account 3 := ⟨g_mem 1299 (by decide +kernel), g_mem 0 (by decide +kernel), ⟨by decide +kernel, by decide +kernel⟩, by decide +kernel, by decide⟩
theorem msL_account : Cond.static mL_account.1 ∈ lw_tbl := g_mem 1298 (by decide +kernel)
theorem mtL_meanSign : gMthH mL_meanSign hhL_meanSign 3 := ⟨g_mem 1315 (by decide +kernel), g_mem 0 (by decide +kernel), ⟨by decide +kernel, by decide +kernel⟩, by decide +kernel, by decide⟩
theorem msL_meanSign : Cond.static mL_meanSign.1 ∈ lw_tbl := g_mem 1314 (by decide +kernel)
theorem mtL_doubtShare : gMthH mL_doubtShare hhL_doubtShare 3 := ⟨g_mem 1344 (by decide +kernel), g_mem 0 (by decide +kernel), ⟨by decide +kernel, by decide +kernel⟩, by decide +kernel, by decide⟩
theorem msL_doubtShare : Cond.static mL_doubtShare.1 ∈ lw_tbl := g_mem 1343 (by decide +kernel)
theorem mtL_undo : gMthH mL_undo hhL_undo 2 := ⟨g_mem 1351 (by decide +kernel), g_mem 0 (by decide +kernel), ⟨by decide +kernel, by decide +kernel⟩, by decide +kernel, by decide⟩
theorem msL_undo : Cond.static mL_undo.1 ∈ lw_tbl := g_mem 1350 (by decide +kernel)
theorem mtL_restore : gMthH mL_restore hhL_restore 2 := ⟨g_mem 1363 (by decide +kernel), g_mem 0 (by decide +kernel), ⟨by decide +kernel, by decide +kernel⟩, by decide +kernel, by decide⟩
theorem msL_restore : Cond.static mL_restore.1 ∈ lw_tbl := g_mem 1362 (by decide +kernel)
