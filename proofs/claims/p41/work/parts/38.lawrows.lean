/-! ===== the law: calls of its helpers, contracts that leave the answer open, cells of its own ===== -/
def gMthH (N : gMt) (hh : List (Nat × Nat × Nat × Nat)) (k : Nat) : Prop := Cond.codeWith N.1 N.2.1 N.2.2.1 N.2.2.2 hh ∈ lw_tbl ∧ Cond.initialized N.1.cls ∈ lw_tbl ∧ (N.1.cls ≠ "java/lang/invoke/MethodHandle" ∧ N.1.cls ≠ "java/lang/invoke/VarHandle") ∧ (parseMethodDescriptor N.1.desc).map (fun d => d.parameters.length) = some k ∧ N.2.2.1 ≤ 40
def sx (xs : Nat → Int32) (j : Nat) : Int := (xs j).toInt
theorem sx_r (xs : Nat → Int32) (j : Nat) : -2147483648 ≤ sx xs j ∧ sx xs j < 2147483648 := ⟨by have := Int32.le_toInt (xs j); unfold sx; simpa using this, by have := Int32.toInt_lt (xs j); unfold sx; simpa using this⟩
/-- the script, at an address below the law's own cells -/
def hSc (E : gE) (b L9 : Nat) (xs : Nat → Int32) : Prop := va_X b L9 xs (gs0 E) (gs0 E).heap ∧ b < gB E ∧ L9 ≤ 260
theorem hSc_at {E : gE} {U : State} {b L9 : Nat} {xs : Nat → Int32} (S : hSc E b L9 xs) (h : gN E U U.heap) : va_X b L9 xs U U.heap ∧ b < U.heap.size :=
  ⟨(va_X.moved h.2.1.alike S.1).kept (h.2.2.2 b S.2.1), Nat.lt_of_lt_of_le S.2.1 h.2.2.1⟩
section GL
variable {X : gM} {E : gE} {M : gMt} {D n cells slots pc : Nat} {L : List (Option gV)} {st : List gV} {σ σ' : gS} {hh : List (Nat × Nat × Nat × Nat)}
theorem x_sld (K : gK X E M D n) {b L9 : Nat} {xs : Nat → Int32} (S : hSc E b L9 xs) {z : Int} (j : Nat) (hz : z = (j : Int)) (hj : j < L9) (d : decode M.2.1 pc = .ok (.iaload, 1)) (kk : gWX X E cells slots (pc + 1) L (iv (sx xs j) :: st) σ) : gWX X E cells slots pc L (iv z :: .inl (.ref b) :: st) σ := by
  subst hz
  obtain ⟨s1, s2⟩ := hSc_at S K.2.2.2.2.1
  obtain ⟨-, s3, s4⟩ := S
  intro H locs ls hP hS hl
  refine va_sld K.1 K.2.1 s1 s2 (show ¬ gB E ≤ b by omega) hS (i := Int32.ofInt (j : Int)) (g_in hj (by omega)) d ?_
  rw [g_cl (by omega)]
  have h := kk H locs ls hP hS hl
  have e : (gc E (iv (sx xs j))) = .int (xs j) := by
    show Value.int (Int32.ofInt (xs j).toInt) = _
    rw [Int32.ofInt_toInt]
  rw [List.map_cons, e] at h
  exact h
theorem x_slen (K : gK X E M D n) {b L9 : Nat} {xs : Nat → Int32} (S : hSc E b L9 xs) (d : decode M.2.1 pc = .ok (.arraylength, 1)) (kk : gWX X E cells slots (pc + 1) L (iv (L9 : Int) :: st) σ) : gWX X E cells slots pc L (.inl (.ref b) :: st) σ := by
  obtain ⟨s1, s2⟩ := hSc_at S K.2.2.2.2.1
  obtain ⟨-, s3, s4⟩ := S
  intro H locs ls hP hS hl
  refine va_slen K.1 K.2.1 s1 s2 (show ¬ gB E ≤ b by omega) hS d ?_
  rw [← Int32.ofInt_eq_ofNat]
  exact kk H locs ls hP hS hl
theorem gRunH (K : gK X E M D n) {N : gMt} {d n' idx : Nat} {as : List gV} {o : gO} {H : Heap} {locs : List Loc} {ls : Array Slot} (hc : hCt E N hh d n' as σ o σ') (hm : gMthH N hh as.length) (hi : Cond.static N.1 ∈ lw_tbl) (hl : Cond.methodLink M.1.cls idx N.1 ∈ lw_tbl) (hf : gFit D d n cells slots n') (hL : ls.size = M.2.2.1) (hst : gCats st ≤ 8) (hP : va_P (gD E) gCl (gW E σ) H) (hS : va_S (gA E) X.2.2.2.2.1.heap H locs) (dd : decode M.2.1 pc = .ok (.invokestatic idx, 3)) :
    gRun X E H locs cells slots n' pc ls ((as.map (gc E)).reverse ++ st.map (gc E)) (st.map (gc E)) σ o σ' := by
  have hN := K.2.2.2.2.1
  have hR := K.2.2.2.2.2.2.2.2.2
  have h40 : 8 + (N.2.2.1 + 11) + 64 * d ≤ 64 * D := by have h1 := hm.2.2.2.2; have h2 := hf.1; omega
  unfold hCt at hc
  rw [← K.2.2.2.2.2.2.1] at hc
  have S : CallFix X.1 X.2.2.2.2.2.1 X.2.2.2.2.2.2.2.2.2.1 M.2.1 M.2.2.1 X.2.2.2.2.1 X.2.2.2.2.2.2.1 [] M.1.cls := ⟨K.1, K.2.1, K.2.2.1, K.2.2.2.1, fun w h => by cases h⟩
  have hp : PreS X.2.2.2.2.1 H (va_Pc (List.map (gc E) as) (gI E σ)) (as.map (gc E)) := ⟨gPc_blind, gPc_at K hP hS⟩
  have hW : 2 * (F0 X.2.2.2.2.2.1 pc ls ((as.map (gc E)).reverse ++ st.map (gc E))).monitorRoom + ((st.map (gc E)).map fun v => v.category).sum ≤ 8 := lv_room (Nat.le_trans (gCats_le st) hst)
  have hr : cells + n' ≤ X.2.2.2.1.cells ∧ slots + 6 * n' ≤ X.2.2.2.1.slots := by rw [hR]; exact hf.2
  have hpay : ∀ w ∈ [Cond.codeWith N.1 N.2.1 N.2.2.1 N.2.2.2 hh], ∀ (a' : Array Value) (U : State), X.2.2.2.2.1.WarmedH U.vm → w.before a' U = true := by
    intro w hw a' U hW
    rw [List.mem_singleton] at hw
    subst hw
    exact word_at hW (Or.inl rfl) (gN_word K.2.2.2.2.1 hm.1 rfl #[])
  have hlen : ∀ sig, parseMethodDescriptor N.1.desc = some sig → as.length = sig.parameters.length := by
    intro sig h
    have h2 := hm.2.2.2.1
    rw [h] at h2
    exact (Option.some.inj h2).symm
  exact vx_runSX (As := as.map (gc E)) (rest := st.map (gc E)) S hc ⟨⟨rfl, rfl, by rw [hR]; exact hf.1, by rw [hR]; exact h40, hpay, List.mem_singleton.mpr rfl⟩, gN_word hN hm.1 rfl _, gN_word hN hm.2.1 rfl _, hm.2.2.1, hlen, gN_word hN hl rfl _, gN_word hN hi rfl _⟩ hp rfl (by rw [List.length_map]) hL rfl hW dd hr
theorem x_callH1 (K : gK X E M D n) {N : gMt} {d n' idx : Nat} {v1 : gV} {r : gV} (hc : hCt E N hh d n' ([v1]) σ (.inl (some r)) σ') (hm : gMthH N hh 1) (hi : Cond.static N.1 ∈ lw_tbl) (hl : Cond.methodLink M.1.cls idx N.1 ∈ lw_tbl) (hf : gFit D d n cells slots n') (hL : L.length = M.2.2.1) (hst : gCats st ≤ 8) (dd : decode M.2.1 pc = .ok (.invokestatic idx, 3)) (kk : gWX X E (cells + n') (slots + 6 * n') (pc + 3) L (r :: st) σ') : gWX X E cells slots pc L (v1 :: st) σ :=
  fun H locs ls hP hS hlv => gBack (L := L) (st := st) (gRunH K (as := [v1]) hc hm hi hl hf (hlv.1.trans hL) hst hP hS dd) hS hlv kk
theorem x_callH2 (K : gK X E M D n) {N : gMt} {d n' idx : Nat} {v1 v2 : gV} {r : gV} (hc : hCt E N hh d n' ([v1, v2]) σ (.inl (some r)) σ') (hm : gMthH N hh 2) (hi : Cond.static N.1 ∈ lw_tbl) (hl : Cond.methodLink M.1.cls idx N.1 ∈ lw_tbl) (hf : gFit D d n cells slots n') (hL : L.length = M.2.2.1) (hst : gCats st ≤ 8) (dd : decode M.2.1 pc = .ok (.invokestatic idx, 3)) (kk : gWX X E (cells + n') (slots + 6 * n') (pc + 3) L (r :: st) σ') : gWX X E cells slots pc L (v2 :: v1 :: st) σ :=
  fun H locs ls hP hS hlv => gBack (L := L) (st := st) (gRunH K (as := [v1, v2]) hc hm hi hl hf (hlv.1.trans hL) hst hP hS dd) hS hlv kk
theorem x_callH3 (K : gK X E M D n) {N : gMt} {d n' idx : Nat} {v1 v2 v3 : gV} {r : gV} (hc : hCt E N hh d n' ([v1, v2, v3]) σ (.inl (some r)) σ') (hm : gMthH N hh 3) (hi : Cond.static N.1 ∈ lw_tbl) (hl : Cond.methodLink M.1.cls idx N.1 ∈ lw_tbl) (hf : gFit D d n cells slots n') (hL : L.length = M.2.2.1) (hst : gCats st ≤ 8) (dd : decode M.2.1 pc = .ok (.invokestatic idx, 3)) (kk : gWX X E (cells + n') (slots + 6 * n') (pc + 3) L (r :: st) σ') : gWX X E cells slots pc L (v3 :: v2 :: v1 :: st) σ :=
  fun H locs ls hP hS hlv => gBack (L := L) (st := st) (gRunH K (as := [v1, v2, v3]) hc hm hi hl hf (hlv.1.trans hL) hst hP hS dd) hS hlv kk
theorem x_callH4 (K : gK X E M D n) {N : gMt} {d n' idx : Nat} {v1 v2 v3 v4 : gV} {r : gV} (hc : hCt E N hh d n' ([v1, v2, v3, v4]) σ (.inl (some r)) σ') (hm : gMthH N hh 4) (hi : Cond.static N.1 ∈ lw_tbl) (hl : Cond.methodLink M.1.cls idx N.1 ∈ lw_tbl) (hf : gFit D d n cells slots n') (hL : L.length = M.2.2.1) (hst : gCats st ≤ 8) (dd : decode M.2.1 pc = .ok (.invokestatic idx, 3)) (kk : gWX X E (cells + n') (slots + 6 * n') (pc + 3) L (r :: st) σ') : gWX X E cells slots pc L (v4 :: v3 :: v2 :: v1 :: st) σ :=
  fun H locs ls hP hS hlv => gBack (L := L) (st := st) (gRunH K (as := [v1, v2, v3, v4]) hc hm hi hl hf (hlv.1.trans hL) hst hP hS dd) hS hlv kk
theorem x_callH5 (K : gK X E M D n) {N : gMt} {d n' idx : Nat} {v1 v2 v3 v4 v5 : gV} {r : gV} (hc : hCt E N hh d n' ([v1, v2, v3, v4, v5]) σ (.inl (some r)) σ') (hm : gMthH N hh 5) (hi : Cond.static N.1 ∈ lw_tbl) (hl : Cond.methodLink M.1.cls idx N.1 ∈ lw_tbl) (hf : gFit D d n cells slots n') (hL : L.length = M.2.2.1) (hst : gCats st ≤ 8) (dd : decode M.2.1 pc = .ok (.invokestatic idx, 3)) (kk : gWX X E (cells + n') (slots + 6 * n') (pc + 3) L (r :: st) σ') : gWX X E cells slots pc L (v5 :: v4 :: v3 :: v2 :: v1 :: st) σ :=
  fun H locs ls hP hS hlv => gBack (L := L) (st := st) (gRunH K (as := [v1, v2, v3, v4, v5]) hc hm hi hl hf (hlv.1.trans hL) hst hP hS dd) hS hlv kk
end GL
theorem mtL_scroll : gMthH mL_scroll hhL_scroll 3 := ⟨g_mem 344 (by decide +kernel), g_mem 0 (by decide +kernel), ⟨by decide +kernel, by decide +kernel⟩, by decide +kernel, by decide⟩
theorem msL_scroll : Cond.static mL_scroll.1 ∈ lw_tbl := g_mem 343 (by decide +kernel)
theorem mtL_of : gMthH mL_of hhL_of 3 := ⟨g_mem 608 (by decide +kernel), g_mem 0 (by decide +kernel), ⟨by decide +kernel, by decide +kernel⟩, by decide +kernel, by decide⟩
theorem msL_of : Cond.static mL_of.1 ∈ lw_tbl := g_mem 607 (by decide +kernel)
theorem mtL_write : gMthH mL_write hhL_write 5 := ⟨g_mem 569 (by decide +kernel), g_mem 0 (by decide +kernel), ⟨by decide +kernel, by decide +kernel⟩, by decide +kernel, by decide⟩
theorem msL_write : Cond.static mL_write.1 ∈ lw_tbl := g_mem 568 (by decide +kernel)
theorem mtL_sign : gMthH mL_sign hhL_sign 4 := ⟨g_mem 719 (by decide +kernel), g_mem 0 (by decide +kernel), ⟨by decide +kernel, by decide +kernel⟩, by decide +kernel, by decide⟩
theorem msL_sign : Cond.static mL_sign.1 ∈ lw_tbl := g_mem 718 (by decide +kernel)
theorem mtL_seal : gMthH mL_seal hhL_seal 2 := ⟨g_mem 599 (by decide +kernel), g_mem 0 (by decide +kernel), ⟨by decide +kernel, by decide +kernel⟩, by decide +kernel, by decide⟩
theorem msL_seal : Cond.static mL_seal.1 ∈ lw_tbl := g_mem 598 (by decide +kernel)
theorem mtL_copy : gMthH mL_copy hhL_copy 2 := ⟨g_mem 623 (by decide +kernel), g_mem 0 (by decide +kernel), ⟨by decide +kernel, by decide +kernel⟩, by decide +kernel, by decide⟩
theorem msL_copy : Cond.static mL_copy.1 ∈ lw_tbl := g_mem 622 (by decide +kernel)
theorem mtL_slip : gMthH mL_slip hhL_slip 5 := ⟨g_mem 632 (by decide +kernel), g_mem 0 (by decide +kernel), ⟨by decide +kernel, by decide +kernel⟩, by decide +kernel, by decide⟩
theorem msL_slip : Cond.static mL_slip.1 ∈ lw_tbl := g_mem 631 (by decide +kernel)
theorem mtL_smudge : gMthH mL_smudge hhL_smudge 4 := ⟨g_mem 641 (by decide +kernel), g_mem 0 (by decide +kernel), ⟨by decide +kernel, by decide +kernel⟩, by decide +kernel, by decide⟩
theorem msL_smudge : Cond.static mL_smudge.1 ∈ lw_tbl := g_mem 640 (by decide +kernel)
theorem mtL_rowSum : gMthH mL_rowSum hhL_rowSum 3 := ⟨g_mem 695 (by decide +kernel), g_mem 0 (by decide +kernel), ⟨by decide +kernel, by decide +kernel⟩, by decide +kernel, by decide⟩
theorem msL_rowSum : Cond.static mL_rowSum.1 ∈ lw_tbl := g_mem 694 (by decide +kernel)
theorem mtL_columnSum : gMthH mL_columnSum hhL_columnSum 3 := ⟨g_mem 736 (by decide +kernel), g_mem 0 (by decide +kernel), ⟨by decide +kernel, by decide +kernel⟩, by decide +kernel, by decide⟩
theorem msL_columnSum : Cond.static mL_columnSum.1 ∈ lw_tbl := g_mem 735 (by decide +kernel)
theorem mtL_rowFault : gMthH mL_rowFault hhL_rowFault 3 := ⟨g_mem 752 (by decide +kernel), g_mem 0 (by decide +kernel), ⟨by decide +kernel, by decide +kernel⟩, by decide +kernel, by decide⟩
theorem msL_rowFault : Cond.static mL_rowFault.1 ∈ lw_tbl := g_mem 751 (by decide +kernel)
theorem mtL_columnFault : gMthH mL_columnFault hhL_columnFault 3 := ⟨g_mem 768 (by decide +kernel), g_mem 0 (by decide +kernel), ⟨by decide +kernel, by decide +kernel⟩, by decide +kernel, by decide⟩
theorem msL_columnFault : Cond.static mL_columnFault.1 ∈ lw_tbl := g_mem 767 (by decide +kernel)
theorem mtL_wrongRows : gMthH mL_wrongRows hhL_wrongRows 2 := ⟨g_mem 812 (by decide +kernel), g_mem 0 (by decide +kernel), ⟨by decide +kernel, by decide +kernel⟩, by decide +kernel, by decide⟩
theorem msL_wrongRows : Cond.static mL_wrongRows.1 ∈ lw_tbl := g_mem 811 (by decide +kernel)
theorem mtL_wrongColumns : gMthH mL_wrongColumns hhL_wrongColumns 2 := ⟨g_mem 820 (by decide +kernel), g_mem 0 (by decide +kernel), ⟨by decide +kernel, by decide +kernel⟩, by decide +kernel, by decide⟩
theorem msL_wrongColumns : Cond.static mL_wrongColumns.1 ∈ lw_tbl := g_mem 819 (by decide +kernel)
theorem mtL_doubt : gMthH mL_doubt hhL_doubt 4 := ⟨g_mem 760 (by decide +kernel), g_mem 0 (by decide +kernel), ⟨by decide +kernel, by decide +kernel⟩, by decide +kernel, by decide⟩
theorem msL_doubt : Cond.static mL_doubt.1 ∈ lw_tbl := g_mem 759 (by decide +kernel)
theorem mtL_doubts : gMthH mL_doubts hhL_doubts 2 := ⟨g_mem 828 (by decide +kernel), g_mem 0 (by decide +kernel), ⟨by decide +kernel, by decide +kernel⟩, by decide +kernel, by decide⟩
theorem msL_doubts : Cond.static mL_doubts.1 ∈ lw_tbl := g_mem 827 (by decide +kernel)
theorem mtL_doubtsAgain : gMthH mL_doubtsAgain hhL_doubtsAgain 2 := ⟨g_mem 836 (by decide +kernel), g_mem 0 (by decide +kernel), ⟨by decide +kernel, by decide +kernel⟩, by decide +kernel, by decide⟩
theorem msL_doubtsAgain : Cond.static mL_doubtsAgain.1 ∈ lw_tbl := g_mem 835 (by decide +kernel)
theorem mtL_mend : gMthH mL_mend hhL_mend 2 := ⟨g_mem 650 (by decide +kernel), g_mem 0 (by decide +kernel), ⟨by decide +kernel, by decide +kernel⟩, by decide +kernel, by decide⟩
theorem msL_mend : Cond.static mL_mend.1 ∈ lw_tbl := g_mem 649 (by decide +kernel)
theorem mtL_wouldMend : gMthH mL_wouldMend hhL_wouldMend 2 := ⟨g_mem 851 (by decide +kernel), g_mem 0 (by decide +kernel), ⟨by decide +kernel, by decide +kernel⟩, by decide +kernel, by decide⟩
theorem msL_wouldMend : Cond.static mL_wouldMend.1 ∈ lw_tbl := g_mem 850 (by decide +kernel)
theorem mtL_mendAgain : gMthH mL_mendAgain hhL_mendAgain 2 := ⟨g_mem 864 (by decide +kernel), g_mem 0 (by decide +kernel), ⟨by decide +kernel, by decide +kernel⟩, by decide +kernel, by decide⟩
theorem msL_mendAgain : Cond.static mL_mendAgain.1 ∈ lw_tbl := g_mem 863 (by decide +kernel)
theorem mtL_fill : gMthH mL_fill hhL_fill 2 := ⟨g_mem 659 (by decide +kernel), g_mem 0 (by decide +kernel), ⟨by decide +kernel, by decide +kernel⟩, by decide +kernel, by decide⟩
theorem msL_fill : Cond.static mL_fill.1 ∈ lw_tbl := g_mem 658 (by decide +kernel)
theorem mtL_wouldFill : gMthH mL_wouldFill hhL_wouldFill 4 := ⟨g_mem 1205 (by decide +kernel), g_mem 0 (by decide +kernel), ⟨by decide +kernel, by decide +kernel⟩, by decide +kernel, by decide⟩
theorem msL_wouldFill : Cond.static mL_wouldFill.1 ∈ lw_tbl := g_mem 1204 (by decide +kernel)
theorem mtL_differ : gMthH mL_differ hhL_differ 3 := ⟨g_mem 1281 (by decide +kernel), g_mem 0 (by decide +kernel), ⟨by decide +kernel, by decide +kernel⟩, by decide +kernel, by decide⟩
theorem msL_differ : Cond.static mL_differ.1 ∈ lw_tbl := g_mem 1280 (by decide +kernel)
theorem mtL_ranked : gMthH mL_ranked hhL_ranked 2 := ⟨g_mem 1264 (by decide +kernel), g_mem 0 (by decide +kernel), ⟨by decide +kernel, by decide +kernel⟩, by decide +kernel, by decide⟩
theorem msL_ranked : Cond.static mL_ranked.1 ∈ lw_tbl := g_mem 1263 (by decide +kernel)
theorem mtL_count : gMthH mL_count hhL_count 3 := ⟨g_mem 775 (by decide +kernel), g_mem 0 (by decide +kernel), ⟨by decide +kernel, by decide +kernel⟩, by decide +kernel, by decide⟩
theorem msL_count : Cond.static mL_count.1 ∈ lw_tbl := g_mem 774 (by decide +kernel)
theorem mtL_line : gMthH mL_line hhL_line 3 := ⟨g_mem 1098 (by decide +kernel), g_mem 0 (by decide +kernel), ⟨by decide +kernel, by decide +kernel⟩, by decide +kernel, by decide⟩
theorem msL_line : Cond.static mL_line.1 ∈ lw_tbl := g_mem 1097 (by decide +kernel)
theorem mtL_append : gMthH mL_append hhL_append 2 := ⟨g_mem 1327 (by decide +kernel), g_mem 0 (by decide +kernel), ⟨by decide +kernel, by decide +kernel⟩, by decide +kernel, by decide⟩
theorem msL_append : Cond.static mL_append.1 ∈ lw_tbl := g_mem 1326 (by decide +kernel)
theorem mtL_reads : gMthH mL_reads hhL_reads 1 := ⟨g_mem 1343 (by decide +kernel), g_mem 0 (by decide +kernel), ⟨by decide +kernel, by decide +kernel⟩, by decide +kernel, by decide⟩
theorem msL_reads : Cond.static mL_reads.1 ∈ lw_tbl := g_mem 1342 (by decide +kernel)
theorem mtL_refusal : gMthH mL_refusal hhL_refusal 2 := ⟨g_mem 668 (by decide +kernel), g_mem 0 (by decide +kernel), ⟨by decide +kernel, by decide +kernel⟩, by decide +kernel, by decide⟩
theorem msL_refusal : Cond.static mL_refusal.1 ∈ lw_tbl := g_mem 667 (by decide +kernel)
theorem mtL_undo : gMthH mL_undo hhL_undo 1 := ⟨g_mem 1229 (by decide +kernel), g_mem 0 (by decide +kernel), ⟨by decide +kernel, by decide +kernel⟩, by decide +kernel, by decide⟩
theorem msL_undo : Cond.static mL_undo.1 ∈ lw_tbl := g_mem 1228 (by decide +kernel)
/-- a contract that tells a relation of the answer and the world behind it -/
def gQrR (E : gE) (R : Option gV → gS → Prop) : Array Value → State → Outcome → State → Prop := fun _ st oc t => ∃ (rv : Option gV) (σ' : gS), R rv σ' ∧ oc = .returned (rv.map (gc E)) ∧ gI E σ' t ∧ va_F (gA E) st t
def gQxN : String → State → State → Prop := fun _ _ _ => False
def gCtR (E : gE) (M : gMt) (D n : Nat) (as : List gV) (σ : gS) (R : Option gV → gS → Prop) : Prop :=
  vx_Met (gL E) M.1 [Cond.code M.1 M.2.1 M.2.2.1 M.2.2.2] (gRm D n) (va_Pc (as.map (gc E)) (gI E σ)) (gQrR E R) gQxN n (6 * n) (gA E)
def gEndR (X : gM) (E : gE) (n : Nat) (R : Option gV → gS → Prop) : Prop :=
  X.2.2.2.2.2.2.2.2.2.2 = vx_MQ X.2.2.2.2.2.2.2.1 (gQrR E R) gQxN X.2.2.2.2.2.2.1 X.2.2.2.2.1 n (6 * n) (gA E)
theorem gCtR_of {E : gE} {M : gMt} {D n : Nat} {as : List gV} {σ : gS} {R : Option gV → gS → Prop} (L : List (Option gV)) (hy : plainName M.1.cls = true) (h1 : as.all (fun v => gC1 (some v)) = true) (hL : L = as.map some ++ List.replicate (M.2.2.1 - as.length) none) (hlen : as.length ≤ M.2.2.1)
    (body : ∀ X : gM, gK X E M D n → gEndR X E n R → gWX X E 0 0 0 L [] σ) : gCtR E M D n as σ R := by
  have h1' : ∀ v ∈ as, gC1 (some v) = true := List.all_eq_true.mp h1
  refine vx_ofW (ws' := []) (cc := M.2.1) (maxL := M.2.2.1) (ret := M.2.2.2) hy rfl ?_
  intro p e s m args below meth c s₁ B hml hxt hv
  obtain ⟨rfl, hN, hP⟩ := hv
  have hb := body (p, gL E, e, gRm D n, s, m, (as.map (gc E)).toArray, below, meth, c, vx_MQ below (gQrR E R) gQxN (as.map (gc E)).toArray s n (6 * n) (gA E)) ⟨B.exec, B.bytes, hml, findClass_of_methodNamed B.named, hN, B.notSynchronized, rfl, B.returns, hxt, rfl⟩ rfl
  have hsl := gSl (E := E) as h1'
  have hl := lv_entry (as.map (gc E)) (n := M.2.2.1) (by rw [hsl]; exact hlen)
  rw [lg_entry_eq]
  refine hb s.heap [] _ hP va_S.rf ?_
  have e1 : L.length = M.2.2.1 := by rw [hL]; simp; omega
  rw [e1, hL, gEntry as 0 _ h1']
  exact hl
/-- the law's own cells E2 has beyond those of E -/
def gMore (E E2 : gE) : Prop := gL E2 = gL E ∧ gs0 E2 = gs0 E ∧ ga0 E2 = ga0 E ∧ gD E2 = gD E ∧ gcA E2 = gcA E ∧ ∃ l, gX E2 = gX E ++ l
theorem gMore.rf (E : gE) : gMore E E := ⟨rfl, rfl, rfl, rfl, rfl, [], by simp⟩
theorem gMore_B {E E2 : gE} (h : gMore E E2) : gB E2 = gB E := by unfold gB; rw [h.2.1]
theorem gMore_c {E E2 : gE} (h : gMore E E2) (v : gV) : gc E2 v = gc E v := by
  cases v with
  | inl x => rfl
  | inr q => show Value.ref _ = Value.ref _; rw [gMore_B h]
theorem gMore_F {E E2 : gE} (h : gMore E E2) (σ : gS) (k i slot : Nat) (d : gFd) : gFldV E2 σ k i slot d = gFldV E σ k i slot d := by
  cases d with
  | none => rfl
  | some p =>
    obtain ⟨k', o⟩ := p
    cases o <;> (show Value.ref _ = Value.ref _; rw [gMore_B h])
theorem gMore_E {E E2 : gE} (h : gMore E E2) (σ : gS) (q : Nat × Nat) : gEnt E2 σ q = gEnt E σ q := by
  unfold gEnt
  rw [h.2.2.2.2.1, gMore_B h]
  have e : gFs E2 σ q.1 q.2 = gFs E σ q.1 q.2 := by
    unfold gFs
    exact congrArg (fun f => (gOF q.1).mapIdx f) (funext fun slot => funext fun d => gMore_F h σ q.1 q.2 slot d)
  rw [e]
theorem gMore_X {E E2 : gE} (h : gMore E E2) (σ : gS) (x : gXd) : gEntX E2 σ x = gEntX E σ x := by
  unfold gEntX
  rw [h.2.2.2.2.1]
theorem gMore_a {E E2 : gE} (h : gMore E E2) (σ : gS) : gWa E2 σ = gWa E σ := by
  unfold gWa
  rw [gMore_B h]
  exact List.map_congr_left (fun q _ => by rw [gMore_E h])
theorem gMore_W {E E2 : gE} (h : gMore E E2) (σ : gS) : ∃ r, gW E2 σ = gW E σ ++ r := by
  obtain ⟨l, hl⟩ := h.2.2.2.2.2
  refine ⟨l.map (fun x => (x.1, gEntX E σ x)), ?_⟩
  unfold gW gWb
  rw [gMore_a h, hl, List.map_append, List.append_assoc]
  refine congrArg (fun z => gWa E σ ++ z) ?_
  exact congr (congrArg _ (List.map_congr_left (fun x _ => by rw [gMore_X h]))) (List.map_congr_left (fun x _ => by rw [gMore_X h]))
/-- two states that agree but in the law's own kinds -/
def gEqv (σ σ' : gS) : Prop := (∀ k, k < 14 → ∀ i j, σ'.1 k i j = σ.1 k i j) ∧ σ'.2 = σ.2
theorem gEqv.rf (σ : gS) : gEqv σ σ := ⟨fun _ _ _ _ => rfl, rfl⟩
theorem gEqv_W {E : gE} {σ σ' : gS} (h : gEqv σ σ') (hX : gX E = []) : gW E σ' = gW E σ := by
  have hk : ∀ q ∈ gAll, q.1 < 14 := by decide +kernel
  unfold gW gWa gWb
  rw [hX]
  refine congrArg (fun z => z ++ []) (List.map_congr_left (fun q hq => ?_))
  rw [gEnt_congr (fun j => h.1 _ (hk q hq) _ _) h.2]
theorem gJn {P G : Prop} (h : P → G) (k : P) : G := h k
section GR
variable {X : gM} {E E2 : gE} {M : gMt} {D n cells slots pc : Nat} {L : List (Option gV)} {st : List gV} {σ σ' : gS} {R : Option gV → gS → Prop}
/-- the end of a walk, its own cells forgotten -/
theorem gEndR_ret {s : State} {rv : Option gV} {H : Heap} {locs : List Loc} {args : Array Value} {v : Option Value} (hm : gMore E E2) (hX : gX E = []) (hv : v = rv.map (gc E2)) (hq : gEqv σ σ') (hR : R rv σ') (hN : gN E s s.heap) (hP : va_P (gD E2) gCl (gW E2 σ) H) (hS : va_S (gA E2) s.heap H locs) : ∀ t : State, t.heap = H → s.WarmedH t.vm → gQrR E R args s (.returned v) t := by
  intro t ht hW
  subst hv
  have hA : gA E2 = gA E := by unfold gA; rw [gMore_B hm]
  rw [hA] at hS
  rw [hm.2.2.2.1] at hP
  obtain ⟨r, hr⟩ := gMore_W hm σ
  rw [hr] at hP
  refine ⟨rv, σ', hR, ?_, ⟨?_, ?_⟩, hS.F ht⟩
  · refine congrArg _ ?_
    cases rv with
    | none => rfl
    | some x => exact congrArg some (gMore_c hm x)
  · rw [ht]
    exact gN_moved hN hW hS.1 hS.2.1
  · rw [ht, gEqv_W hq hX]
    intro k q hk
    refine hP k q ?_
    rw [List.getElem?_append_left (List.getElem?_eq_some_iff.mp hk).1]
    exact hk
theorem x_iretR (K : gK X E2 M D n) (K0 : gK X E M D n) (hm : gMore E E2) (hX : gX E = []) {z : Int} (hE : gEndR X E n R) (hr : M.2.2.2 = some .int) (d : decode M.2.1 pc = .ok (.ireturn, 1)) (hc : cells ≤ n) (hs : slots ≤ 6 * n) (hq : gEqv σ σ') (hR : R (some (iv z)) σ') : gWX X E2 cells slots pc L [iv z] σ := by
  intro H locs ls hP hS hl
  unfold gW_
  rw [hE]
  refine vx_ret (W.widen hc hs ?_)
  have hA : gA E2 = gA E := by unfold gA; rw [gMore_B hm]
  have hS2 := hS
  rw [hA] at hS2
  exact W.iret K.1 K.2.1 (K.2.2.2.2.2.2.2.1.trans hr) (gEndR_ret (rv := some (iv z)) hm hX rfl hq hR K0.2.2.2.2.1 hP hS) hS2.2.2 d K.2.2.2.2.2.1
theorem x_zretR (K : gK X E2 M D n) (K0 : gK X E M D n) (hm : gMore E E2) (hX : gX E = []) {z : Int} (hE : gEndR X E n R) (hr : M.2.2.2 = some .boolean) (d : decode M.2.1 pc = .ok (.ireturn, 1)) (hc : cells ≤ n) (hs : slots ≤ 6 * n) (h01 : z = 0 ∨ z = 1) (hq : gEqv σ σ') (hR : R (some (iv z)) σ') : gWX X E2 cells slots pc L [iv z] σ := by
  intro H locs ls hP hS hl
  unfold gW_
  rw [hE]
  refine vx_ret (W.widen hc hs ?_)
  have hA : gA E2 = gA E := by unfold gA; rw [gMore_B hm]
  have hS2 := hS
  rw [hA] at hS2
  exact W.zret (ty := .boolean) K.1 K.2.1 (K.2.2.2.2.2.2.2.1.trans hr) (by rcases h01 with rfl | rfl <;> rfl) (gEndR_ret (rv := some (iv z)) hm hX rfl hq hR K0.2.2.2.2.1 hP hS) hS2.2.2 d K.2.2.2.2.2.1
/-- a call by such a contract -/
def gRunR (X : gM) (E : gE) (H : Heap) (locs : List Loc) (cells slots n' pc : Nat) (ls : Array Slot) (st0 rest : List Value) (R : Option gV → gS → Prop) : Prop :=
  vx_Run X.1 X.2.1 X.2.2.1 X.2.2.2.1 X.2.2.2.2.1 X.2.2.2.2.2.1 X.2.2.2.2.2.2.1 X.2.2.2.2.2.2.2.1 X.2.2.2.2.2.2.2.2.1 X.2.2.2.2.2.2.2.2.2.1 H locs cells slots n' (6 * n') (F0 X.2.2.2.2.2.1 pc ls st0) rest (gQrR E R #[]) gQxN (gA E)
theorem gRunSR (K : gK X E M D n) {N : gMt} {d n' idx : Nat} {as : List gV} {H : Heap} {locs : List Loc} {ls : Array Slot} (hc : gCtR E N d n' as σ R) (hm : gMth N as.length) (hi : Cond.static N.1 ∈ lw_tbl) (hl : gLk M.1.cls idx N.1) (hf : gFit D d n cells slots n') (hL : ls.size = M.2.2.1) (hst : gCats st ≤ 8) (hP : va_P (gD E) gCl (gW E σ) H) (hS : va_S (gA E) X.2.2.2.2.1.heap H locs) (dd : decode M.2.1 pc = .ok (.invokestatic idx, 3)) :
    gRunR X E H locs cells slots n' pc ls ((as.map (gc E)).reverse ++ st.map (gc E)) (st.map (gc E)) R := by
  have hN := K.2.2.2.2.1
  have hR := K.2.2.2.2.2.2.2.2.2
  have h40 : 8 + (N.2.2.1 + 11) + 64 * d ≤ 64 * D := by have h1 := hm.2.2.2.2; have h2 := hf.1; omega
  unfold gCtR at hc
  rw [← K.2.2.2.2.2.2.1] at hc
  have S : CallFix X.1 X.2.2.2.2.2.1 X.2.2.2.2.2.2.2.2.2.1 M.2.1 M.2.2.1 X.2.2.2.2.1 X.2.2.2.2.2.2.1 [] M.1.cls := ⟨K.1, K.2.1, K.2.2.1, K.2.2.2.1, fun w h => by cases h⟩
  have hp : PreS X.2.2.2.2.1 H (va_Pc (List.map (gc E) as) (gI E σ)) (as.map (gc E)) := ⟨gPc_blind, gPc_at K hP hS⟩
  have hW : 2 * (F0 X.2.2.2.2.2.1 pc ls ((as.map (gc E)).reverse ++ st.map (gc E))).monitorRoom + ((st.map (gc E)).map fun v => v.category).sum ≤ 8 := lv_room (Nat.le_trans (gCats_le st) hst)
  have hr : cells + n' ≤ X.2.2.2.1.cells ∧ slots + 6 * n' ≤ X.2.2.2.1.slots := by rw [hR]; exact hf.2
  rcases hl with hl | ⟨host, hl⟩
  · exact vx_runS (As := as.map (gc E)) (rest := st.map (gc E)) S hc ⟨⟨rfl, rfl, by rw [hR]; exact hf.1, by rw [hR]; exact h40, gPay K hm, List.mem_singleton.mpr rfl, gN_word hN hm.1 rfl _, gN_word hN hm.2.1 rfl _, hm.2.2.1, gLen hm, gN_word hN hl rfl _⟩, gN_word hN hi rfl _⟩ hp rfl (by rw [List.length_map]) hL rfl hW dd hr
  · exact vx_runSN (As := as.map (gc E)) (rest := st.map (gc E)) S hc ⟨⟨⟨rfl, rfl, by rw [hR]; exact hf.1, by rw [hR]; exact h40, gPay K hm, List.mem_singleton.mpr rfl⟩, gN_word hN hm.1 rfl _, gN_word hN hm.2.1 rfl _, hm.2.2.1, gLen hm, gN_any hN hl rfl _⟩, gN_word hN hi rfl _, trivial⟩ hp rfl (by rw [List.length_map]) hL rfl hW dd hr
theorem gBackR {n' : Nat} {H : Heap} {locs : List Loc} {ls : Array Slot} {st0 : List Value} (hr : gRunR X E H locs cells slots n' pc ls st0 (st.map (gc E)) R) (hS : va_S (gA E) X.2.2.2.2.1.heap H locs) (hl : lv_has ls L.length (gAsc E 0 L)) (kk : ∀ rv σ', R rv σ' → gWX X E (cells + n') (slots + 6 * n') (pc + 3) L (rv.toList ++ st) σ') : gW_ X H locs cells slots (F0 X.2.2.2.2.2.1 pc ls st0) := by
  intro T hT Z
  rcases hr T hT Z with ⟨v, st₀, t, T', L9, h0, X', hL, e1, e2, ⟨rv, σ', hR, hv, hI, hF⟩, stp⟩ | ⟨q, st₀, t, T', L9, C, ce, h0, X', hL, e1, e2, hx, -⟩
  · cases hv
    obtain ⟨k1, k2, k3⟩ := vx_keep (A1 := gA E) h0 e1 hS (fun _ _ h => h) (fun _ h => h) hL hF
    obtain ⟨t2, a1, b1⟩ := kk rv σ' hR T'.heap (locs ++ L9) ls (by rw [e1]; exact hI.2) k3 hl T' rfl X'
    refine ⟨t2, stp t2 ?_, b1⟩
    have e9 : List.map (gc E) (rv.toList ++ st) = (rv.map (gc E)).toList ++ st.map (gc E) := by cases rv <;> rfl
    rw [e9] at a1
    exact a1
  · cases hx
theorem x_callR1 (K : gK X E M D n) {N : gMt} {d n' idx : Nat} {v1 : gV} (hc : gCtR E N d n' [v1] σ R) (hm : gMth N 1) (hi : Cond.static N.1 ∈ lw_tbl) (hl : gLk M.1.cls idx N.1) (hf : gFit D d n cells slots n') (hL : L.length = M.2.2.1) (hst : gCats st ≤ 8) (dd : decode M.2.1 pc = .ok (.invokestatic idx, 3)) (kk : ∀ rv σ', R rv σ' → gWX X E (cells + n') (slots + 6 * n') (pc + 3) L (rv.toList ++ st) σ') : gWX X E cells slots pc L (v1 :: st) σ :=
  fun H locs ls hP hS hlv => gBackR (L := L) (st := st) (gRunSR K (as := [v1]) hc hm hi hl hf (hlv.1.trans hL) hst hP hS dd) hS hlv kk
theorem x_callR2 (K : gK X E M D n) {N : gMt} {d n' idx : Nat} {v1 v2 : gV} (hc : gCtR E N d n' [v1, v2] σ R) (hm : gMth N 2) (hi : Cond.static N.1 ∈ lw_tbl) (hl : gLk M.1.cls idx N.1) (hf : gFit D d n cells slots n') (hL : L.length = M.2.2.1) (hst : gCats st ≤ 8) (dd : decode M.2.1 pc = .ok (.invokestatic idx, 3)) (kk : ∀ rv σ', R rv σ' → gWX X E (cells + n') (slots + 6 * n') (pc + 3) L (rv.toList ++ st) σ') : gWX X E cells slots pc L (v2 :: v1 :: st) σ :=
  fun H locs ls hP hS hlv => gBackR (L := L) (st := st) (gRunSR K (as := [v1, v2]) hc hm hi hl hf (hlv.1.trans hL) hst hP hS dd) hS hlv kk
/-- one cell more -/
def gAddX (E : gE) (x : gXd) : gE := (E.1, E.2.1, E.2.2.1, E.2.2.2.1, E.2.2.2.2.1, gX E ++ [x])
theorem gMore_add (E : gE) (x : gXd) : gMore E (gAddX E x) := ⟨rfl, rfl, rfl, rfl, rfl, [x], rfl⟩
theorem gMore.tr {E3 : gE} (h1 : gMore E E2) (h2 : gMore E2 E3) : gMore E E3 := by
  obtain ⟨a1, a2, a3, a4, a5, l, a6⟩ := h1
  obtain ⟨b1, b2, b3, b4, b5, l2, b6⟩ := h2
  exact ⟨b1.trans a1, b2.trans a2, b3.trans a3, b4.trans a4, b5.trans a5, l ++ l2, by rw [b6, a6, List.append_assoc]⟩
theorem gX_add (E : gE) (x : gXd) : gX (gAddX E x) = gX E ++ [x] := rfl
theorem gX_last (E : gE) (x : gXd) : (gX (gAddX E x))[(gX E).length]? = some x := by
  rw [gX_add, List.getElem?_append_right (Nat.le_refl _), Nat.sub_self]; rfl
theorem gN_add {U : State} {H : Heap} {x : gXd} (h : gN E U H) (hx : gXok (gAddX E x)) : gN (gAddX E x) U H := by
  obtain ⟨⟨a1, a2, a3, a4, -⟩, b⟩ := h
  exact ⟨⟨a1, a2, a3, a4, hx⟩, b⟩
theorem gK_add (K : gK X E M D n) {x : gXd} (hx : gXok (gAddX E x)) : gK X (gAddX E x) M D n := by
  obtain ⟨a1, a2, a3, a4, a5, a6⟩ := K
  exact ⟨a1, a2, a3, a4, gN_add a5 hx, a6⟩
theorem gXok_add (h : gXok E) {x : gXd} (h1 : gB E + 309 ≤ x.1) (h2 : ∀ y ∈ gX E, y.1 ≠ x.1 ∧ y.2.2.1 ≠ x.2.2.1) : gXok (gAddX E x) := by
  refine ⟨fun y hy => ?_, fun i j y z hi hj hq => ?_⟩
  · rcases List.mem_append.mp hy with hy | hy
    · exact h.1 y hy
    · rw [List.mem_singleton.mp hy]
      exact h1
  · have key : ∀ (i : Nat) (y : gXd), (gX E ++ [x])[i]? = some y → (i < (gX E).length ∧ (gX E)[i]? = some y) ∨ (i = (gX E).length ∧ y = x) := by
      intro i y hi
      by_cases hl : i < (gX E).length
      · rw [List.getElem?_append_left hl] at hi
        exact Or.inl ⟨hl, hi⟩
      · rw [List.getElem?_append_right (by omega)] at hi
        have hz : i - (gX E).length < 1 := (List.getElem?_eq_some_iff.mp hi).1
        rw [show i - (gX E).length = 0 by omega] at hi
        cases hi
        exact Or.inr ⟨by omega, rfl⟩
    rcases key i y hi with ⟨a1, a2⟩ | ⟨a1, rfl⟩
    · rcases key j z hj with ⟨b1, b2⟩ | ⟨b1, rfl⟩
      · exact h.2 i j y z a2 b2 hq
      · have := h2 y (List.mem_of_getElem? a2)
        exact absurd hq (by rintro (q | q); exact this.1 q; exact this.2 q)
    · rcases key j z hj with ⟨b1, b2⟩ | ⟨b1, rfl⟩
      · have := h2 z (List.mem_of_getElem? b2)
        exact absurd hq (by rintro (q | q); exact this.1 q.symm; exact this.2 q.symm)
      · omega
theorem gAsc_more {E3 : gE} (h : gMore E E3) : ∀ (L : List (Option gV)) (k : Nat), gAsc E3 k L = gAsc E k L
  | [], k => rfl
  | none :: t, k => gAsc_more h t (k + 1)
  | some v :: t, k => by
    show (k, gc E3 v) :: gAsc E3 (k + 1) t = (k, gc E v) :: gAsc E (k + 1) t
    rw [gMore_c h, gAsc_more h t (k + 1)]
theorem gMap_more {E3 : gE} (h : gMore E E3) (st : List gV) : st.map (gc E3) = st.map (gc E) := List.map_congr_left (fun v _ => gMore_c h v)
/-- behind a new cell -/
theorem gGrow {q : Nat} {e : va_E} {x : gXd} {H1 : Heap} {locs : List Loc} {ls : Array Slot} {vs : List Value} {σ2 : gS} (K : gK X E M D n) (hx1 : x.1 = q) (hxi : ∀ y ∈ gX E, y.2.2.1 ≠ x.2.2.1) (hs : gW E σ2 = gW E σ) (he : gEntX E σ2 x = e) (hP : va_P (gD E) gCl (gW E σ ++ [(q, e)]) H1) (hD : va_D (gA E) (gW E σ ++ [(q, e)])) (hS : va_S (gA E) X.2.2.2.2.1.heap H1 locs) (hl : lv_has ls L.length (gAsc E 0 L)) (hv : vs = st.map (gc E))
    (kk : ∀ E2 : gE, gMore E E2 → gX E2 = gX E ++ [x] → gK X E2 M D n → gWX X E2 cells slots pc L st σ2) : gW_ X H1 locs cells slots (F0 X.2.2.2.2.2.1 pc ls vs) := by
  have hN := K.2.2.2.2.1
  have hat : (gW E σ ++ [(q, e)])[(gW E σ).length]? = some (q, e) := by
    rw [List.getElem?_append_right (Nat.le_refl _), Nat.sub_self]; rfl
  have hne : ∀ (j : Nat) (p : Nat × va_E), (gW E σ)[j]? = some p → p.1 ≠ q := by
    intro j p hp z
    have hj := (List.getElem?_eq_some_iff.mp hp).1
    have := hD.1 j (gW E σ).length p (q, e) (by rw [List.getElem?_append_left hj]; exact hp) hat z
    omega
  have hge : gB E ≤ q := hD.2 _ _ hat
  have h309 : gB E + 309 ≤ q := by
    refine Classical.byContradiction (fun hc => ?_)
    have hj : q - gB E < 309 := by omega
    have h1 : q - gB E < (gWa E σ).length := by rw [gWa_len]; exact hj
    have h2 : (gW E σ)[q - gB E]? = some ((gWa E σ)[q - gB E]) := by
      rw [gW, List.getElem?_append_left h1]
      exact List.getElem?_eq_getElem h1
    rcases gW_lt h2 with ⟨_, a2⟩ | ⟨_, a1, _⟩
    · exact hne _ _ h2 (by omega)
    · omega
  have hok : gXok (gAddX E x) := gXok_add (gN_x hN) (by rw [hx1]; exact h309) (fun y hy => ⟨fun z => by
    obtain ⟨i, hi⟩ := List.getElem?_of_mem hy
    exact hne _ _ (gW_atX (σ := σ) hi) (z.trans hx1), hxi y hy⟩)
  have hm := gMore_add E x
  have e0 : gW (gAddX E x) σ2 = gW E σ ++ [(q, e)] := by
    have e1 : gW (gAddX E x) σ2 = gW E σ2 ++ [(x.1, gEntX E σ2 x)] := by
      unfold gW gWb
      rw [gMore_a hm, gX_add, List.map_append, List.append_assoc]
      refine congrArg (fun z => gWa E σ2 ++ z) ?_
      exact congr (congrArg _ (List.map_congr_left (fun y _ => by rw [gMore_X hm]))) (by rw [List.map_singleton, gMore_X hm])
    rw [e1, hs, he, hx1]
  have h9 := kk (gAddX E x) hm rfl (gK_add K hok) H1 locs ls (by rw [e0]; exact hP) hS (by rw [gAsc_more hm]; exact hl)
  rw [gMap_more hm] at h9
  rw [hv]
  exact h9
end GR
