/-! ===== ScrollChecksModel: what changes it ===== -/
section GW39
variable {X : gM} {E : gE} {M : gMt} {D n cells slots pc : Nat} {L : List (Option gV)} {st : List gV} {σ σ' : gS}
theorem gRunVc (K : gK X E M D n) {N : gMt} {d n' idx k i : Nat} {as : List gV} {o : gO} {H : Heap} {locs : List Loc} {ls : Array Slot} (hc : gCt E N d n' (.inr (k, i) :: as) σ o σ') (hm : gMth N as.length) (hi : gMthI N) (hk : gRc k N.1.cls) (ho : gOk k i) (hl : gLk M.1.cls idx N.1) (hf : gFit D d n cells slots n') (hL : ls.size = M.2.2.1) (hst : ((st.map (gc E)).map fun v => v.category).sum ≤ 8) (hP : va_P (gD E) gCl (gW E σ) H) (hS : va_S (gA E) X.2.2.2.2.1.heap H locs) (dd : decode M.2.1 pc = .ok (.invokevirtual idx, 3)) :
    gRun X E H locs cells slots n' pc ls ((as.map (gc E)).reverse ++ .ref (gB E + gOff k i) :: st.map (gc E)) (st.map (gc E)) σ o σ' := by
  have hN := K.2.2.2.2.1
  have hR := K.2.2.2.2.2.2.2.2.2
  have h40 : 8 + (N.2.2.1 + 11) + 64 * d ≤ 64 * D := by have h1 := hm.2.2.2.2; have h2 := hf.1; omega
  unfold gCt at hc
  rw [← K.2.2.2.2.2.2.1] at hc
  have S : CallFix X.1 X.2.2.2.2.2.1 X.2.2.2.2.2.2.2.2.2.1 M.2.1 M.2.2.1 X.2.2.2.2.1 X.2.2.2.2.2.2.1 [] M.1.cls := ⟨K.1, K.2.1, K.2.2.1, K.2.2.2.1, fun w h => by cases h⟩
  have hp : PreV X.2.2.2.2.1 H N.1.cls (gB E + gOff k i) (va_Pc (List.map (gc E) (.inr (k, i) :: as)) (gI E σ)) (as.map (gc E)) := ⟨gPc_blind, gRec K hk ho hP, gPc_at K hP hS⟩
  have hW : 2 * (F0 X.2.2.2.2.2.1 pc ls ((as.map (gc E)).reverse ++ .ref (gB E + gOff k i) :: st.map (gc E))).monitorRoom + ((st.map (gc E)).map fun v => v.category).sum ≤ 8 := lv_room hst
  have hr : cells + n' ≤ X.2.2.2.1.cells ∧ slots + 6 * n' ≤ X.2.2.2.1.slots := by rw [hR]; exact hf.2
  rcases hl with hl | ⟨host, hl⟩
  · exact vx_runV S hc ⟨⟨rfl, rfl, by rw [hR]; exact hf.1, by rw [hR]; exact h40, gPay K hm, List.mem_singleton.mpr rfl, gN_word hN hm.1 rfl _, gN_word hN hm.2.1 rfl _, hm.2.2.1, gLen hm, gN_word hN hl rfl _⟩, gN_word hN hi.1 rfl _, gN_word hN hi.2 rfl _⟩ hp rfl (by rw [List.length_map]) hL rfl hW dd hr
  · exact vx_runVN S hc ⟨⟨⟨rfl, rfl, by rw [hR]; exact hf.1, by rw [hR]; exact h40, gPay K hm, List.mem_singleton.mpr rfl⟩, gN_word hN hm.1 rfl _, gN_word hN hm.2.1 rfl _, hm.2.2.1, gLen hm, gN_any hN hl rfl _⟩, gN_word hN hi.1 rfl _, gN_word hN hi.2 rfl _⟩ hp rfl (by rw [List.length_map]) hL rfl hW dd hr
theorem x_callV3c (K : gK X E M D n) {N : gMt} {d n' idx k i : Nat} {v1 v2 v3 : gV} {r : gV} (hc : gCt E N d n' (.inr (k, i) :: [v1, v2, v3]) σ (.inl (some r)) σ') (hm : gMth N 3) (hi : gMthI N) (hk : gRc k N.1.cls) (ho : gOk k i) (hl : gLk M.1.cls idx N.1) (hf : gFit D d n cells slots n') (hL : L.length = M.2.2.1) (hst : ((st.map (gc E)).map fun v => v.category).sum ≤ 8) (dd : decode M.2.1 pc = .ok (.invokevirtual idx, 3)) (kk : gWX X E (cells + n') (slots + 6 * n') (pc + 3) L (r :: st) σ') : gWX X E cells slots pc L (v3 :: v2 :: v1 :: .inr (k, i) :: st) σ :=
  fun H locs ls hP hS hlv => gBack (L := L) (st := st) (gRunVc K (as := [v1, v2, v3]) (k := k) (i := i) hc hm hi hk ho hl hf (hlv.1.trans hL) hst hP hS dd) hS hlv kk
end GW39

abbrev gFl (σ : gS) (p : Int) : gS := gU σ 14 0 7 p
abbrev gRu (σ : gS) (p w d : Int) : gS := gU (gU (gU (gU σ 14 0 7 p) 14 0 8 w) 14 0 9 d) 14 0 10 1
abbrev gKp (σ : gS) : gS := gCp (gU σ 14 0 7 0) 15 0 16 0 0 0 345
theorem gCoY_5 {Y : Nat → Int} {s r c k : Int} : gCoY 5 Y s r c k = ySet (yF Y 0 (Y 0 + 1)) (Y 0).toNat (zCopy (zb Y s.toNat) s) := rfl
theorem gCoY_z {Y : Nat → Int} {s r c k : Int} : gCoY 0 Y s r c k = ySet (yF Y 0 (Y 0 + 1)) (Y 0).toNat (zNew r c) := rfl
def gMA (d : Nat) (Y : Nat → Int) (s r c k : Int) : Int := if gOb d Y s r c k = 0 then gCoA d Y s r c k else 0
def gMO (d : Nat) (σ : gS) (Y : Nat → Int) (s r c k : Int) : gS :=
  if gOb d Y s r c k = 0 then gMp σ (gCoY d Y s r c k) else if gOb d Y s r c k ≤ 2 then gFl σ (gOb d Y s r c k) else gRu σ (if d = 2 then 3 else 2) (gOb d Y s r c k / 100) (gOb d Y s r c k % 100)
theorem gMA_0 {d : Nat} {Y : Nat → Int} {s r c k : Int} (h : gOb d Y s r c k = 0) : gCoA d Y s r c k = gMA d Y s r c k := (if_pos h).symm
theorem gMA_n {d : Nat} {Y : Nat → Int} {s r c k v : Int} (h : gOb d Y s r c k = v) (hv : 1 ≤ v) : 0 = gMA d Y s r c k := (if_neg (by omega)).symm
theorem gMO_0 {d : Nat} {σ : gS} {Y : Nat → Int} {s r c k : Int} (h : gOb d Y s r c k = 0) : gMp σ (gCoY d Y s r c k) = gMO d σ Y s r c k := (if_pos h).symm
theorem gMO_f {d : Nat} {σ : gS} {Y : Nat → Int} {s r c k v : Int} (h : gOb d Y s r c k = v) (hv : 1 ≤ v ∧ v ≤ 2) : gFl σ v = gMO d σ Y s r c k := by
  unfold gMO; rw [if_neg (by omega), if_pos (by omega), h]
theorem gMO_r {d : Nat} {σ : gS} {Y : Nat → Int} {s r c k w v p : Int} (h : gOb d Y s r c k = 100 * w + v) (hw : 1 ≤ w) (hv : 0 ≤ v ∧ v < 100) (hp : (if d = 2 then 3 else 2) = p) : gRu σ p w v = gMO d σ Y s r c k := by
  unfold gMO; rw [if_neg (by omega), if_neg (by omega), hp, show gOb d Y s r c k / 100 = w by omega, show gOb d Y s r c k % 100 = v by omega]
theorem gOb_hit {d : Nat} {Y : Nat → Int} {s r c k : Int} (hd : d ≠ 0) (h : ¬ gHit Y s) : gOb d Y s r c k = 1 := by
  unfold gOb; rw [if_neg hd, if_pos h]
theorem gOb_cel {d : Nat} {Y : Nat → Int} {s r c k : Int} (hd : d ≠ 0) (hd3 : d ≤ 3) (h : ¬ gCel Y s r c) : gOb d Y s r c k = 1 := by
  unfold gOb
  rw [if_neg hd]
  by_cases q : gHit Y s
  · rw [if_neg (fun y => y q), if_pos ⟨hd3, fun y => h ⟨q, y⟩⟩]
  · rw [if_pos q]
theorem gOb_1 {Y : Nat → Int} {s r c k : Int} (h : gCel Y s r c) : gOb 1 Y s r c k = if 0 ≤ k ∧ k ≤ 9 then 0 else 2 := by
  unfold gOb; rw [if_neg (by omega), if_neg (fun y => y h.1), if_neg (fun y => y.2 h.2), if_pos rfl]
theorem gOb_2 {Y : Nat → Int} {s r c k : Int} (h : gCel Y s r c) : gOb 2 Y s r c k = if 1 ≤ k ∧ k ≤ 9 then o_t (zb Y s.toNat) r c else 2 := by
  unfold gOb; rw [if_neg (by omega), if_neg (fun y => y h.1), if_neg (fun y => y.2 h.2), if_neg (by omega), if_pos rfl]
theorem gOb_3 {Y : Nat → Int} {s r c k : Int} (h : gCel Y s r c) : gOb 3 Y s r c k = o_t (zb Y s.toNat) r c := by
  unfold gOb; rw [if_neg (by omega), if_neg (fun y => y h.1), if_neg (fun y => y.2 h.2), if_neg (by omega), if_neg (by omega), if_pos rfl]
theorem gOb_4 {Y : Nat → Int} {s r c k : Int} (h : gHit Y s) : gOb 4 Y s r c k = o_s (zb Y s.toNat) := by
  unfold gOb; rw [if_neg (by omega), if_neg (fun y => y h), if_neg (by omega), if_neg (by omega), if_neg (by omega), if_neg (by omega), if_pos rfl]
theorem gOb_5 {Y : Nat → Int} {s r c k : Int} (h : gHit Y s) : gOb 5 Y s r c k = o_ad Y := by
  unfold gOb; rw [if_neg (by omega), if_neg (fun y => y h), if_neg (by omega), if_neg (by omega), if_neg (by omega), if_neg (by omega), if_neg (by omega), if_pos rfl]
theorem gOb_6 {Y : Nat → Int} {s r c k : Int} (h : gHit Y s) : gOb 6 Y s r c k = s_om (zb Y s.toNat) s := by
  unfold gOb; rw [if_neg (by omega), if_neg (fun y => y h), if_neg (by omega), if_neg (by omega), if_neg (by omega), if_neg (by omega), if_neg (by omega), if_neg (by omega), if_pos rfl]
theorem gOb_7 {Y : Nat → Int} {s r c k : Int} (h : gHit Y s) : gOb 7 Y s r c k = o_fl (zb Y s.toNat) s := by
  unfold gOb; rw [if_neg (by omega), if_neg (fun y => y h), if_neg (by omega), if_neg (by omega), if_neg (by omega), if_neg (by omega), if_neg (by omega), if_neg (by omega), if_neg (by omega)]
theorem ySet_self (Y : Nat → Int) (n : Nat) : ySet Y n (zb Y n) = Y := funext fun k => by
  rw [ySet_at]
  by_cases q : 5 + 68 * n ≤ k ∧ k < 73 + 68 * n
  · rw [if_pos q, zb_at, show 5 + 68 * n + (k - (5 + 68 * n)) = k by omega]
  · rw [if_neg q]
theorem yF_ySet (Y : Nat → Int) (n : Nat) (z : Nat → Int) {k : Nat} (hk : k < 5) (v : Int) : yF (ySet Y n z) k v = ySet (yF Y k v) n z := funext fun j => by
  rw [yF_at, ySet_at, ySet_at, yF_at]
  by_cases q : j = k
  · rw [if_pos q, if_neg (by omega), if_pos q]
  · rw [if_neg q, if_neg q]
theorem gMp_uu (σ : gS) (Y : Nat → Int) {j : Nat} (hj : j < 345) (v : Int) : gU (gMp σ Y) 15 0 j v = gMp σ (yF Y j v) := by
  rw [gMp_u (gMp_ms σ Y) hj, gMp_mp]
theorem gMp_set2 (σ : gS) (Y : Nat → Int) {n : Nat} {y y' : Nat → Int} {q : Nat} {v : Int} (h : ∀ j, j < 68 → (if j = q then v else y j) = y' j) : gMp (gMp σ (ySet Y n y)) (ySet (ySet Y n y) n (fun j => if j = q then v else zb (ySet Y n y) n j)) = gMp σ (ySet Y n y') := by
  rw [gMp_mp, ySet_set, ySet_cong Y n (fun j hj => by rw [zb_set Y n y hj, h j hj])]
def zG (z : Nat → Int) : Nat → Int := if s_bf z = -1 then z else zF1 z
theorem zG_r {z : Nat → Int} {b k : Nat} (hb : b < 6) (hk : k < 8) (e : s_bf z = (b : Int)) (h1 : s_m z b = 1) (hx : z (20 + (8 * b + k)) = -1) {j : Nat} (hj : j < 68) : zset z b k (s_f z b) j = zG z j := by
  unfold zG
  rw [if_neg (by omega)]
  unfold zF1
  rw [e]
  exact zF_r hb hk h1 hx hj
theorem zG_c {z : Nat → Int} {b k : Nat} (hb : b < 8) (hk : k < 6) (e : s_bf z = 6 + (b : Int)) (h1 : s_m z (6 + b) = 1) (hx : z (20 + (8 * k + b)) = -1) {j : Nat} (hj : j < 68) : zset z k b (s_f z (6 + b)) j = zG z j := by
  unfold zG
  rw [if_neg (by omega)]
  unfold zF1
  rw [e, show (6 + (b : Int)).toNat = 6 + b by omega]
  exact zF_c hk hb h1 hx hj
theorem zG_Z {z : Nat → Int} (hz : gZ z) : gZ (zG z) := by
  unfold zG
  by_cases q : s_bf z = -1
  · rw [if_pos q]; exact hz
  · rw [if_neg q]; exact zF1_Z hz q
theorem s_ex_r {z : Nat → Int} {b : Nat} (hb : b < 6) (h : s_m z b = 1) : ∃ c, c < 8 ∧ z (20 + (8 * b + c)) = -1 := Classical.byContradiction (fun q => by
  have := gSum_zero (f := fun c => gB1 (z (20 + (8 * b + c)) = -1)) 8 (fun k hk => gB1_f (fun y => q ⟨k, hk, y⟩))
  rw [s_m_r z hb] at h
  unfold s_rm at h
  omega)
theorem s_ex_c {z : Nat → Int} {b : Nat} (h : s_m z (6 + b) = 1) : ∃ r, r < 6 ∧ z (20 + (8 * r + b)) = -1 := Classical.byContradiction (fun q => by
  have := gSum_zero (f := fun r => gB1 (z (20 + (8 * r + b)) = -1)) 6 (fun k hk => gB1_f (fun y => q ⟨k, hk, y⟩))
  rw [s_m_c z b] at h
  unfold s_cm at h
  omega)
theorem s_o1_nat {z : Nat → Int} (h : s_o1 z ≠ -1) : ∃ x : Nat, s_o1 z = (x : Int) ∧ x < 6 ∧ s_m z x = 1 := by
  obtain ⟨x, ex, px, _, hx, _⟩ := gFst_yes (p := fun b => decide (s_m z b = 1)) (n := 6) (a := 0) h
  exact ⟨x, ex, by omega, of_decide_eq_true px⟩
theorem s_o2_nat {z : Nat → Int} (h : s_o2 z ≠ -1) : ∃ x : Nat, s_o2 z = (x : Int) ∧ x < 8 ∧ s_m z (6 + x) = 1 := by
  obtain ⟨x, ex, px, _, hx, _⟩ := gFst_yes (p := fun b => decide (s_m z (6 + b) = 1)) (n := 8) (a := 0) h
  exact ⟨x, ex, by omega, of_decide_eq_true px⟩
theorem s_mu_F1 {z : Nat → Int} (hz : gZ z) (h : s_bf z ≠ -1) : s_mu (zF1 z) = s_mu z - 1 := by
  obtain ⟨x, ex, hx, hm⟩ := s_bf_nat h
  have hf := s_f_bd hz hx
  have eG : zG z = zF1 z := if_neg h
  by_cases q : x < 6
  · obtain ⟨c, hc, e⟩ := s_ex_r q hm
    rw [← eG, ← s_mu_zc (fun j hj => zG_r q hc ex hm e hj), s_mu_set q hc (by omega) e]
  · obtain ⟨b, rfl⟩ : ∃ b, x = 6 + b := ⟨x - 6, by omega⟩
    obtain ⟨r, hr, e⟩ := s_ex_c hm
    rw [← eG, ← s_mu_zc (fun j hj => zG_c (by omega) hr (by rw [ex]; omega) hm e hj), s_mu_set hr (by omega) (by omega) e]
theorem s_fill_yes {z : Nat → Int} {n : Nat} (h : s_bf z ≠ -1) : s_fill (n + 1) z = ((s_fill n (zF1 z)).1 + 1, (s_fill n (zF1 z)).2) := if_neg h
theorem s_fill_no {z : Nat → Int} {n : Nat} (h : s_bf z = -1) : s_fill n z = (0, z) := by
  cases n with
  | zero => rfl
  | succ n => exact if_pos h
/-- the told sums of the first rows and columns -/
def zTl (z : Nat → Int) (k m : Nat) : Nat → Int := fun j => if (6 ≤ j ∧ j < 6 + k) ∨ (12 ≤ j ∧ j < 12 + m) then s_b z (j - 6) % 10 else z j
theorem zTl_at (z : Nat → Int) (k m j : Nat) : zTl z k m j = if (6 ≤ j ∧ j < 6 + k) ∨ (12 ≤ j ∧ j < 12 + m) then s_b z (j - 6) % 10 else z j := rfl
theorem zTl_Z {z : Nat → Int} (hz : gZ z) {k m : Nat} (hk : k ≤ 6) (hm : m ≤ 8) : gZ (zTl z k m) := by
  have hz2 := hz
  obtain ⟨h0, h1, h2, h3, h4, h5, h6, h7, h8⟩ := hz
  have e : ∀ j, j < 6 ∨ 20 ≤ j → zTl z k m j = z j := fun j hj => if_neg (by omega)
  refine ⟨by rw [e 0 (by omega)]; exact h0, by rw [e 1 (by omega)]; exact h1, by rw [e 2 (by omega)]; exact h2, by rw [e 3 (by omega)]; exact h3, fun b hb => ?_, fun j hj => by rw [e _ (by omega)]; exact h5 j hj, fun a ha b hb q => ?_, fun a ha q => ?_, fun b hb q => ?_⟩
  · rw [zTl_at]
    split
    · omega
    · exact h4 b hb
  · rw [e 0 (by omega), e 1 (by omega)] at q
    rw [e _ (by omega)]
    exact h6 a ha b hb q
  · rw [e 0 (by omega)] at q
    rw [zTl_at]
    split
    · rw [show 6 + a - 6 = a by omega, s_b_off hz2 (by omega) (Or.inl ⟨ha, q⟩)]; rfl
    · exact h7 a ha q
  · rw [e 1 (by omega)] at q
    rw [zTl_at]
    split
    · rw [show 6 + (6 + b) - 6 = 6 + b by omega, s_b_off hz2 (by omega) (Or.inr ⟨by omega, by rw [show 6 + b - 6 = b by omega]; exact q⟩)]; rfl
    · exact h8 b hb q
theorem zTl_b (z : Nat → Int) {k m : Nat} (hk : k ≤ 6) (hm : m ≤ 8) {b : Nat} (hb : b < 14) : s_b (zTl z k m) b = s_b z b := s_b_cong (fun j h1 h2 => if_neg (by omega)) hb
theorem zTl_end {z : Nat → Int} (hz : gZ z) {j : Nat} (hj : j < 68) : (if j = 2 then 1 else zTl z (z 0).toNat (z 1).toNat j) = zTell z j := by
  have h0 := hz.1
  have h1 := hz.2.1
  have hz2 := hz
  obtain ⟨_, _, h2, h3, h4, h5, h6, h7, h8⟩ := hz
  unfold zTell
  by_cases q : j = 2
  · rw [if_pos q, if_pos q]
  · rw [if_neg q, if_neg q, zTl_at]
    by_cases q2 : (6 ≤ j ∧ j < 6 + (z 0).toNat) ∨ (12 ≤ j ∧ j < 12 + (z 1).toNat)
    · rw [if_pos q2, if_pos (by omega)]
    · rw [if_neg q2]
      by_cases q3 : 6 ≤ j ∧ j < 20
      · rw [if_pos q3]
        by_cases q4 : j < 12
        · have e := h7 (j - 6) (by omega) (by omega)
          rw [show 6 + (j - 6) = j by omega] at e
          rw [e, s_b_off hz2 (by omega) (Or.inl ⟨by omega, by omega⟩)]; rfl
        · have e := h8 (j - 12) (by omega) (by omega)
          rw [show 6 + (6 + (j - 12)) = j by omega] at e
          rw [e, s_b_off hz2 (by omega) (Or.inr ⟨by omega, by omega⟩)]; rfl
      · rw [if_neg q3]
theorem s_tt_w {z : Nat → Int} (hz : gZ z) : gSum (fun b => s_b z b % 10) (z 0).toNat = s_tt z := by
  have h1 := hz.1
  have e := gSum_more (f := fun b => s_b z b % 10) (n := (z 0).toNat) (6 - (z 0).toNat) (fun k h1 h2 => by
    try dsimp only
    rw [s_b_off hz (by omega) (Or.inl ⟨by omega, by omega⟩)]; rfl)
  rw [show (z 0).toNat + (6 - (z 0).toNat) = 6 by omega] at e
  exact e.symm
def zNp (z : Nat → Int) (r c : Int) (k : Nat) : Nat → Int := fun j => if j < k then zNew r c j else z j
theorem c7_fails {E : gE} {σ : gS} (p : Int) : gCt E mX7_fails 1 0 [rf 14 0, iv p] σ (.inl (some (iv (0)))) (gFl σ p) := by
  refine gCt_of (L := [some (rf 14 0), some (iv p)]) (by decide +kernel) rfl rfl (Nat.le_of_ble_eq_true rfl) (fun X K hE => ?_)
  refine x_aload_0 K dX7_fails_0 ?_
  refine x_iload_1 K dX7_fails_1 ?_
  refine x_putI K gpRX7_39 ⟨by decide, (by decide)⟩ dX7_fails_2 ?_
  refine x_iconst K dX7_fails_5 ?_
  exact x_iret K hE rfl dX7_fails_6 (by decide) (by decide) rfl rfl
theorem c7_refuse {E : gE} {σ : gS} (p w d : Int) : gCt E mX7_refuse 1 0 [rf 14 0, iv p, iv w, iv d] σ (.inl (some (iv (0)))) (gRu σ p w d) := by
  refine gCt_of (L := [some (rf 14 0), some (iv p), some (iv w), some (iv d)]) (by decide +kernel) rfl rfl (Nat.le_of_ble_eq_true rfl) (fun X K hE => ?_)
  refine x_aload_0 K dX7_refuse_0 ?_
  refine x_iload_1 K dX7_refuse_1 ?_
  refine x_putI K gpRX7_39 ⟨by decide, (by decide)⟩ dX7_refuse_2 ?_
  refine x_aload_0 K dX7_refuse_5 ?_
  refine x_iload_2 K dX7_refuse_6 ?_
  refine x_putI K gpRX7_51 ⟨by decide, (by decide)⟩ dX7_refuse_7 ?_
  refine x_aload_0 K dX7_refuse_10 ?_
  refine x_iload_3 K dX7_refuse_11 ?_
  refine x_putI K gpRX7_54 ⟨by decide, (by decide)⟩ dX7_refuse_12 ?_
  refine x_aload_0 K dX7_refuse_15 ?_
  refine x_iconst K dX7_refuse_16 ?_
  refine x_putZ K gpRX7_57 ⟨by decide, (by decide)⟩ (by omega) dX7_refuse_17 ?_
  refine x_iconst K dX7_refuse_20 ?_
  exact x_iret K hE rfl dX7_refuse_21 (by decide) (by decide) rfl rfl
theorem c7_keep {E : gE} {σ : gS}  : gCt E mX7_keep 2 0 [rf 14 0] σ (.inl none) (gKp σ) := by
  refine gCt_of (L := [some (rf 14 0)]) (by decide +kernel) rfl rfl (Nat.le_of_ble_eq_true rfl) (fun X K hE => ?_)
  refine x_aload_0 K dX7_keep_0 ?_
  refine x_iconst K dX7_keep_1 ?_
  refine x_putI K gpRX7_39 ⟨by decide, (by decide)⟩ dX7_keep_2 ?_
  refine x_aload_0 K dX7_keep_5 ?_
  refine x_getC K gfRX7_9 ⟨by decide, (by decide)⟩ dX7_keep_6 ?_
  refine x_iconst K dX7_keep_9 ?_
  refine x_aload_0 K dX7_keep_10 ?_
  refine x_getC K gfRX7_13 ⟨by decide, (by decide)⟩ dX7_keep_11 ?_
  refine x_iconst K dX7_keep_14 ?_
  refine x_sipush K dX7_keep_15 rfl ?_
  refine x_copy K 0 0 345 rfl rfl rfl rfl rfl rfl ⟨by decide, by decide⟩ ⟨by decide, by decide⟩ (by omega) (by omega) lwRX7_42 g_acopy ⟨by decide, (Nat.le_of_ble_eq_true rfl)⟩ dX7_keep_18 ?_
  exact x_vret K hE rfl dX7_keep_21 (by decide) (by decide) rfl
theorem c7_ends_t {E : gE} {σ : gS} (a : Int) (ht : 0 < σ.1 14 0 7 ∧ σ.1 14 0 7 < 10) : gCt E mX7_ends 2 0 [rf 14 0, iv a] σ (.inl (some (iv (0)))) (gCp σ 16 0 15 0 0 0 345) := by
  refine gCt_of (L := [some (rf 14 0), some (iv a)]) (by decide +kernel) rfl rfl (Nat.le_of_ble_eq_true rfl) (fun X K hE => ?_)
  refine x_aload_0 K dX7_ends_0 ?_
  refine x_getI K gfRX7_39 ⟨by decide, (by decide)⟩ dX7_ends_1 ?_
  refine x_if_le (tgt := 25) K (by omega) dX7_ends_4 (by decide) (fun h4 => absurd h4 (by omega)) (fun h4 => ?_)
  refine x_aload_0 K dX7_ends_7 ?_
  refine x_getC K gfRX7_13 ⟨by decide, (by decide)⟩ dX7_ends_8 ?_
  refine x_iconst K dX7_ends_11 ?_
  refine x_aload_0 K dX7_ends_12 ?_
  refine x_getC K gfRX7_9 ⟨by decide, (by decide)⟩ dX7_ends_13 ?_
  refine x_iconst K dX7_ends_16 ?_
  refine x_sipush K dX7_ends_17 rfl ?_
  refine x_copy K 0 0 345 rfl rfl rfl rfl rfl rfl ⟨by decide, by decide⟩ ⟨by decide, by decide⟩ (by omega) (by omega) lwRX7_42 g_acopy ⟨by decide, (Nat.le_of_ble_eq_true rfl)⟩ dX7_ends_20 ?_
  refine x_iconst K dX7_ends_23 ?_
  exact x_iret K hE rfl dX7_ends_24 (by decide) (by decide) rfl rfl
theorem gFill_fin {σ : gS} {Y : Nat → Int} {n : Nat} {m : Int} {y : Nat → Int} (h1 : (s_fill 48 (zb Y n)).1 = m) (h2 : (s_fill 48 (zb Y n)).2 = y) (h5 : y 5 = zb Y n 5) : gU (gMp σ (ySet Y n (fun j => if j = 5 then zb (ySet Y n y) n 5 + m else y j))) 15 0 4 (Y 4 + m) = gMp σ (ySet (yF Y 4 (Y 4 + (s_fill 48 (zb Y n)).1)) n (zFill (zb Y n))) := by
  rw [gMp_uu σ _ (by omega), yF_ySet _ _ _ (by omega), h1, ySet_cong _ n (fun j hj => ?_)]
  unfold zFill
  rw [h1, h2, zb_set Y n y (by omega), h5]
def gSf (σ : gS) : gS := gU (gCp σ 19 0 19 0 345 0 2415) 14 0 6 7
def gEq (σ : gS) (pm : Nat) : gS := gU (gCp σ 16 0 19 0 0 (345 * pm) 345) 14 0 6 ((pm : Int) + 1)
def gEn (σ : gS) (pm : Nat) : gS := if pm = 8 then gEq (gSf σ) 7 else gEq σ pm
theorem c7_ends_7 {E : gE} {σ : gS} (a : Int) (ht : σ.1 14 0 7 = 0) (pm : Nat) (hp : σ.1 14 0 6 = (pm : Int)) (hp7 : pm < 8) : gCt E mX7_ends 2 0 [rf 14 0, iv a] σ (.inl (some (iv (a)))) (gEq σ pm) := by
  refine gCt_of (L := [some (rf 14 0), some (iv a)]) (by decide +kernel) rfl rfl (Nat.le_of_ble_eq_true rfl) (fun X K hE => ?_)
  refine x_aload_0 K dX7_ends_0 ?_
  refine x_getI K gfRX7_39 ⟨by decide, (by decide)⟩ dX7_ends_1 ?_
  refine x_if_le (tgt := 25) K (by omega) dX7_ends_4 (by decide) (fun h4 => ?_) (fun h4 => absurd h4 (by omega))
  refine x_aload_0 K dX7_ends_25 ?_
  refine x_getI K gfRX7_48 ⟨by decide, (by decide)⟩ dX7_ends_26 ?_
  refine x_bipush K dX7_ends_29 rfl ?_
  refine x_icmp_ne (tgt := 62) K (by omega) dX7_ends_31 (by decide) (fun h31 => ?_) (fun h31 => absurd h31 (by omega))
  refine x_aload_0 K dX7_ends_62 ?_
  refine x_getC K gfRX7_13 ⟨by decide, (by decide)⟩ dX7_ends_63 ?_
  refine x_iconst K dX7_ends_66 ?_
  refine x_aload_0 K dX7_ends_67 ?_
  refine x_getC K gfRX7_22 ⟨by decide, (by decide)⟩ dX7_ends_68 ?_
  refine x_sipush K dX7_ends_71 rfl ?_
  refine x_aload_0 K dX7_ends_74 ?_
  refine x_getI K gfRX7_48 ⟨by decide, (by decide)⟩ dX7_ends_75 ?_
  refine gWX.top (b := (pm : Int)) hp ?_
  refine x_imul K dX7_ends_78 ?_
  refine x_sipush K dX7_ends_79 rfl ?_
  refine x_copy K 0 (345 * pm) 345 rfl (by omega) rfl rfl rfl rfl ⟨by decide, by decide⟩ ⟨by decide, by decide⟩ (by omega) (by omega) lwRX7_42 g_acopy ⟨by decide, (Nat.le_of_ble_eq_true rfl)⟩ dX7_ends_82 ?_
  refine x_aload_0 K dX7_ends_85 ?_
  refine x_dup K dX7_ends_86 rfl ?_
  refine x_getI K gfRX7_48 ⟨by decide, (by decide)⟩ dX7_ends_87 ?_
  refine gWX.top (b := (pm : Int)) (by rw [gCp_at, if_neg (by omega)]; exact hp) ?_
  refine x_iconst K dX7_ends_90 ?_
  refine x_iadd K dX7_ends_91 ?_
  refine x_putI K gpRX7_48 ⟨by decide, (by decide)⟩ dX7_ends_92 ?_
  refine x_iload_1 K dX7_ends_95 ?_
  exact x_iret K hE rfl dX7_ends_96 (by decide) (by decide) rfl rfl
theorem c7_ends_8 {E : gE} {σ : gS} (a : Int) (ht : σ.1 14 0 7 = 0) (hp : σ.1 14 0 6 = 8) : gCt E mX7_ends 2 0 [rf 14 0, iv a] σ (.inl (some (iv (a)))) (gEq (gSf σ) 7) := by
  refine gCt_of (L := [some (rf 14 0), some (iv a)]) (by decide +kernel) rfl rfl (Nat.le_of_ble_eq_true rfl) (fun X K hE => ?_)
  refine x_aload_0 K dX7_ends_0 ?_
  refine x_getI K gfRX7_39 ⟨by decide, (by decide)⟩ dX7_ends_1 ?_
  refine x_if_le (tgt := 25) K (by omega) dX7_ends_4 (by decide) (fun h4 => ?_) (fun h4 => absurd h4 (by omega))
  refine x_aload_0 K dX7_ends_25 ?_
  refine x_getI K gfRX7_48 ⟨by decide, (by decide)⟩ dX7_ends_26 ?_
  refine x_bipush K dX7_ends_29 rfl ?_
  refine x_icmp_ne (tgt := 62) K (by omega) dX7_ends_31 (by decide) (fun h31 => absurd h31 (by omega)) (fun h31 => ?_)
  refine x_aload_0 K dX7_ends_34 ?_
  refine x_getC K gfRX7_22 ⟨by decide, (by decide)⟩ dX7_ends_35 ?_
  refine x_sipush K dX7_ends_38 rfl ?_
  refine x_aload_0 K dX7_ends_41 ?_
  refine x_getC K gfRX7_22 ⟨by decide, (by decide)⟩ dX7_ends_42 ?_
  refine x_iconst K dX7_ends_45 ?_
  refine x_sipush K dX7_ends_46 rfl ?_
  refine x_copy K 345 0 2415 rfl rfl rfl rfl rfl rfl ⟨by decide, by decide⟩ ⟨by decide, by decide⟩ (by omega) (by omega) lwRX7_42 g_acopy ⟨by decide, (Nat.le_of_ble_eq_true rfl)⟩ dX7_ends_49 ?_
  refine x_aload_0 K dX7_ends_52 ?_
  refine x_dup K dX7_ends_53 rfl ?_
  refine x_getI K gfRX7_48 ⟨by decide, (by decide)⟩ dX7_ends_54 ?_
  refine gWX.top (b := 8) (by rw [gCp_at, if_neg (by omega)]; exact hp) ?_
  refine x_iconst K dX7_ends_57 ?_
  refine x_isub K dX7_ends_58 ?_
  refine x_putI K gpRX7_48 ⟨by decide, (by decide)⟩ dX7_ends_59 ?_
  refine gWX.eq (σ' := gSf σ) rfl ?_
  refine x_aload_0 K dX7_ends_62 ?_
  refine x_getC K gfRX7_13 ⟨by decide, (by decide)⟩ dX7_ends_63 ?_
  refine x_iconst K dX7_ends_66 ?_
  refine x_aload_0 K dX7_ends_67 ?_
  refine x_getC K gfRX7_22 ⟨by decide, (by decide)⟩ dX7_ends_68 ?_
  refine x_sipush K dX7_ends_71 rfl ?_
  refine x_aload_0 K dX7_ends_74 ?_
  refine x_getI K gfRX7_48 ⟨by decide, (by decide)⟩ dX7_ends_75 ?_
  refine gWX.top (b := 7) rfl ?_
  refine x_imul K dX7_ends_78 ?_
  refine x_sipush K dX7_ends_79 rfl ?_
  refine x_copy K 0 2415 345 rfl (by omega) rfl rfl rfl rfl ⟨by decide, by decide⟩ ⟨by decide, by decide⟩ (by omega) (by omega) lwRX7_42 g_acopy ⟨by decide, (Nat.le_of_ble_eq_true rfl)⟩ dX7_ends_82 ?_
  refine x_aload_0 K dX7_ends_85 ?_
  refine x_dup K dX7_ends_86 rfl ?_
  refine x_getI K gfRX7_48 ⟨by decide, (by decide)⟩ dX7_ends_87 ?_
  refine gWX.top (b := 7) rfl ?_
  refine x_iconst K dX7_ends_90 ?_
  refine x_iadd K dX7_ends_91 ?_
  refine x_putI K gpRX7_48 ⟨by decide, (by decide)⟩ dX7_ends_92 ?_
  refine x_iload_1 K dX7_ends_95 ?_
  exact x_iret K hE rfl dX7_ends_96 (by decide) (by decide) rfl rfl
theorem c7_ends {E : gE} {σ : gS} (a : Int) (ht : σ.1 14 0 7 = 0) (pm : Nat) (hp : σ.1 14 0 6 = (pm : Int)) (hp8 : pm ≤ 8) : gCt E mX7_ends 2 0 [rf 14 0, iv a] σ (.inl (some (iv a))) (gEn σ pm) := by
  unfold gEn
  by_cases q : pm = 8
  · rw [if_pos q]; exact c7_ends_8 a ht (by omega)
  · rw [if_neg q]; exact c7_ends_7 a ht pm hp (by omega)
theorem c7_fillsOne {E : gE} {σ : gS} (Y : Nat → Int) (h : gMs σ Y) (hY : gY Y) (n : Nat) (hn : (n : Int) < Y 0) : gCt E mX7_fillsOne 7 0 [rf 14 0, iv (n : Int)] σ (.inl (some (iv (gB1 (s_bf (zb Y n) ≠ -1))))) (gMp σ (ySet Y n (zG (zb Y n)))) := by
  refine gCt_of (L := [some (rf 14 0), some (iv (n : Int)), none, none, none, none]) (by decide +kernel) rfl rfl (Nat.le_of_ble_eq_true rfl) (fun X K hE => ?_)
  have hY0 := hY.1
  have hz := hY.2 n hn
  have ⟨q0, q1, q2, q3, q4, q5, q6, q7, q8⟩ := hz
  have hbf := s_bf_o (zb Y n)
  have b1 : -1 ≤ s_o1 (zb Y n) ∧ s_o1 (zb Y n) < ((0 + 6 : Nat) : Int) := gFst_bd _ 6 0
  have b2 : -1 ≤ s_o2 (zb Y n) ∧ s_o2 (zb Y n) < ((0 + 8 : Nat) : Int) := gFst_bd _ 8 0
  refine x_aload_0 K dX7_fillsOne_0 ?_
  refine x_iload_1 K dX7_fillsOne_1 ?_
  refine x_iconst K dX7_fillsOne_2 ?_
  refine x_callV2 K (c7_oneIn_r Y h hY n hn) mtX7_oneIn miX7_oneIn rc14 ⟨by decide, (by decide)⟩ lkRX7_187 ⟨by decide, by decide, by decide⟩ rfl (Nat.le_of_ble_eq_true rfl) dX7_fillsOne_3 ?_
  refine x_if_lt (tgt := 13) K (by omega) dX7_fillsOne_6 (by decide) (fun h6 => ?_) (fun h6 => ?_)
  · have e1 : s_o1 (zb Y n) = -1 := by omega
    refine x_iconst K dX7_fillsOne_13 ?_
    refine x_istore_2 K dX7_fillsOne_14 rfl ?_
    refine x_aload_0 K dX7_fillsOne_15 ?_
    refine x_iload_1 K dX7_fillsOne_16 ?_
    refine x_iload_2 K dX7_fillsOne_17 ?_
    refine x_callV2 K (c7_oneIn_c Y h hY n hn) mtX7_oneIn miX7_oneIn rc14 ⟨by decide, (by decide)⟩ lkRX7_187 ⟨by decide, by decide, by decide⟩ rfl (Nat.le_of_ble_eq_true rfl) dX7_fillsOne_18 ?_
    refine x_istore_3 K dX7_fillsOne_21 rfl ?_
    refine x_iload_3 K dX7_fillsOne_22 ?_
    refine x_if_ge (tgt := 28) K (by omega) dX7_fillsOne_23 (by decide) (fun h23 => ?_) (fun h23 => ?_)
    · obtain ⟨b, eb, hb6, hm1⟩ := s_o2_nat (z := zb Y n) (by omega)
      have e0 : s_bf (zb Y n) = 6 + (b : Int) := by rw [hbf, if_pos e1, if_neg (by omega), eb]
      rw [eb]
      refine x_aload_0 K dX7_fillsOne_28 ?_
      refine x_iload_1 K dX7_fillsOne_29 ?_
      refine x_iload_2 K dX7_fillsOne_30 ?_
      refine x_iload_3 K dX7_fillsOne_31 ?_
      refine x_callV3 K (c7_faultOf_c Y h hY n hn b hb6) mtX7_faultOf miX7_faultOf rc14 ⟨by decide, (by decide)⟩ lkRX7_114 ⟨by decide, by decide, by decide⟩ rfl (Nat.le_of_ble_eq_true rfl) dX7_fillsOne_32 ?_
      refine x_istore_4 K dX7_fillsOne_35 rfl ?_
      refine x_iconst K dX7_fillsOne_37 ?_
      refine x_istore_5 K dX7_fillsOne_38 rfl ?_
      refine gLp (P := fun k : Nat => (∀ j : Nat, j < k → zb Y n (20 + (8 * j + b)) ≠ -1) → gWX X E 0 0 40 [some (rf 14 0), some (iv (n : Int)), some (iv 0), some (iv (b : Int)), some (iv (s_f (zb Y n) (6 + b))), some (iv (k : Int))] [] (σ)) ((zb Y n 0).toNat) (fun k0 => ?_) (fun k hk ih => ?_) ?_
      · exact gWX.to rfl rfl (k0 (fun j hj => absurd hj (Nat.not_lt_zero j)))
      · intro hy
        refine x_iload_5 K dX7_fillsOne_40 ?_
        refine x_aload_0 K dX7_fillsOne_42 ?_
        refine x_iload_1 K dX7_fillsOne_43 ?_
        refine x_iload_2 K dX7_fillsOne_44 ?_
        refine x_callV2 K (c7_length_c Y h n (by omega)) mtX7_length miX7_length rc14 ⟨by decide, (by decide)⟩ lkRX7_92 ⟨by decide, by decide, by decide⟩ rfl (Nat.le_of_ble_eq_true rfl) dX7_fillsOne_45 ?_
        refine x_icmp_ge (tgt := 98) K (by omega) dX7_fillsOne_48 (by decide) (fun h48 => absurd h48 (by omega)) (fun h48 => ?_)
        refine x_aload_0 K dX7_fillsOne_51 ?_
        refine x_iload_1 K dX7_fillsOne_52 ?_
        refine x_iload_2 K dX7_fillsOne_53 ?_
        refine x_iload_3 K dX7_fillsOne_54 ?_
        refine x_iload_5 K dX7_fillsOne_55 ?_
        refine x_callV4 K (c7_along_c Y h n (by omega) k b (by omega) (by omega)) mtX7_along miX7_along rc14 ⟨by decide, (by decide)⟩ lkRX7_96 ⟨by decide, by decide, by decide⟩ rfl (Nat.le_of_ble_eq_true rfl) dX7_fillsOne_57 ?_
        have b5 : -1 ≤ zb Y n (20 + (8 * k + b)) ∧ zb Y n (20 + (8 * k + b)) ≤ 9 := q5 _ (by omega)
        refine x_if_ge (tgt := 92) K (by omega) dX7_fillsOne_60 (by decide) (fun h60 => ?_) (fun h60 => ?_)
        · have hx : zb Y n (20 + (8 * k + b)) ≠ -1 := by omega
          refine x_iinc_5 K dX7_fillsOne_92 rfl ?_
          refine x_goto (tgt := 40) K dX7_fillsOne_95 (by decide) ?_
          exact gWX.to rfl rfl (ih (fun j hj => (Nat.lt_or_ge j k).elim (fun e => hy j e) (fun e => by
            obtain rfl : j = k := by omega
            exact hx)))
        · have hx : zb Y n (20 + (8 * k + b)) = -1 := by omega
          refine x_aload_0 K dX7_fillsOne_63 ?_
          refine x_iload_1 K dX7_fillsOne_64 ?_
          refine x_iload_2 K dX7_fillsOne_65 ?_
          refine x_if_eq (tgt := 73) K (by omega) dX7_fillsOne_66 (by decide) (fun h66 => ?_) (fun h66 => absurd rfl h66)
          refine x_iload_5 K dX7_fillsOne_73 ?_
          refine x_iload_2 K dX7_fillsOne_75 ?_
          refine x_if_eq (tgt := 84) K (by omega) dX7_fillsOne_76 (by decide) (fun h76 => ?_) (fun h76 => absurd rfl h76)
          refine x_iload_3 K dX7_fillsOne_84 ?_
          refine x_iload_4 K dX7_fillsOne_85 ?_
          refine x_callV4v K (c7_setSign Y h n (by omega) k b (by omega) (by omega) (s_f (zb Y n) (6 + b))) mtX7_setSign miX7_setSign rc14 ⟨by decide, (by decide)⟩ lkRX7_140 ⟨by decide, by decide, by decide⟩ rfl (Nat.le_of_ble_eq_true rfl) dX7_fillsOne_87 ?_
          refine x_iconst K dX7_fillsOne_90 ?_
          exact x_zret K hE rfl dX7_fillsOne_91 (by decide) (by decide) (by omega) (gB1_t (by omega)).symm (by rw [ySet_cong Y n (fun j hj => zG_c hb6 (by omega) e0 hm1 hx hj)])
      · intro hy
        refine x_iload_5 K dX7_fillsOne_40 ?_
        refine x_aload_0 K dX7_fillsOne_42 ?_
        refine x_iload_1 K dX7_fillsOne_43 ?_
        refine x_iload_2 K dX7_fillsOne_44 ?_
        refine x_callV2 K (c7_length_c Y h n (by omega)) mtX7_length miX7_length rc14 ⟨by decide, (by decide)⟩ lkRX7_92 ⟨by decide, by decide, by decide⟩ rfl (Nat.le_of_ble_eq_true rfl) dX7_fillsOne_45 ?_
        refine x_icmp_ge (tgt := 98) K (by omega) dX7_fillsOne_48 (by decide) (fun h48 => ?_) (fun h48 => absurd h48 (by omega))
        exfalso
        have e9 := s_cm_w hz hb6
        rw [gSum_zero _ (fun k hk => gB1_f (hy k hk))] at e9
        rw [s_m_c] at hm1
        omega
    · have e0 : s_bf (zb Y n) = -1 := by rw [hbf, if_pos e1, if_pos (by omega)]
      refine x_iconst K dX7_fillsOne_26 ?_
      exact x_zret K hE rfl dX7_fillsOne_27 (by decide) (by decide) (by omega) (gB1_f (fun q => q e0)).symm (by unfold zG; rw [if_pos e0, ySet_self, gMp_self h])
  · refine x_iconst K dX7_fillsOne_9 ?_
    refine x_goto (tgt := 14) K dX7_fillsOne_10 (by decide) ?_
    refine x_istore_2 K dX7_fillsOne_14 rfl ?_
    refine x_aload_0 K dX7_fillsOne_15 ?_
    refine x_iload_1 K dX7_fillsOne_16 ?_
    refine x_iload_2 K dX7_fillsOne_17 ?_
    refine x_callV2 K (c7_oneIn_r Y h hY n hn) mtX7_oneIn miX7_oneIn rc14 ⟨by decide, (by decide)⟩ lkRX7_187 ⟨by decide, by decide, by decide⟩ rfl (Nat.le_of_ble_eq_true rfl) dX7_fillsOne_18 ?_
    refine x_istore_3 K dX7_fillsOne_21 rfl ?_
    refine x_iload_3 K dX7_fillsOne_22 ?_
    refine x_if_ge (tgt := 28) K (by omega) dX7_fillsOne_23 (by decide) (fun h23 => ?_) (fun h23 => absurd h23 (by omega))
    obtain ⟨b, eb, hb6, hm1⟩ := s_o1_nat (z := zb Y n) (by omega)
    have e0 : s_bf (zb Y n) = (b : Int) := by rw [hbf, if_neg (by omega), eb]
    rw [eb]
    refine x_aload_0 K dX7_fillsOne_28 ?_
    refine x_iload_1 K dX7_fillsOne_29 ?_
    refine x_iload_2 K dX7_fillsOne_30 ?_
    refine x_iload_3 K dX7_fillsOne_31 ?_
    refine x_callV3 K (c7_faultOf_r Y h hY n hn b hb6) mtX7_faultOf miX7_faultOf rc14 ⟨by decide, (by decide)⟩ lkRX7_114 ⟨by decide, by decide, by decide⟩ rfl (Nat.le_of_ble_eq_true rfl) dX7_fillsOne_32 ?_
    refine x_istore_4 K dX7_fillsOne_35 rfl ?_
    refine x_iconst K dX7_fillsOne_37 ?_
    refine x_istore_5 K dX7_fillsOne_38 rfl ?_
    refine gLp (P := fun k : Nat => (∀ j : Nat, j < k → zb Y n (20 + (8 * b + j)) ≠ -1) → gWX X E 0 0 40 [some (rf 14 0), some (iv (n : Int)), some (iv 1), some (iv (b : Int)), some (iv (s_f (zb Y n) b)), some (iv (k : Int))] [] (σ)) ((zb Y n 1).toNat) (fun k0 => ?_) (fun k hk ih => ?_) ?_
    · exact gWX.to rfl rfl (k0 (fun j hj => absurd hj (Nat.not_lt_zero j)))
    · intro hy
      refine x_iload_5 K dX7_fillsOne_40 ?_
      refine x_aload_0 K dX7_fillsOne_42 ?_
      refine x_iload_1 K dX7_fillsOne_43 ?_
      refine x_iload_2 K dX7_fillsOne_44 ?_
      refine x_callV2 K (c7_length_r Y h n (by omega)) mtX7_length miX7_length rc14 ⟨by decide, (by decide)⟩ lkRX7_92 ⟨by decide, by decide, by decide⟩ rfl (Nat.le_of_ble_eq_true rfl) dX7_fillsOne_45 ?_
      refine x_icmp_ge (tgt := 98) K (by omega) dX7_fillsOne_48 (by decide) (fun h48 => absurd h48 (by omega)) (fun h48 => ?_)
      refine x_aload_0 K dX7_fillsOne_51 ?_
      refine x_iload_1 K dX7_fillsOne_52 ?_
      refine x_iload_2 K dX7_fillsOne_53 ?_
      refine x_iload_3 K dX7_fillsOne_54 ?_
      refine x_iload_5 K dX7_fillsOne_55 ?_
      refine x_callV4 K (c7_along_r Y h n (by omega) b k (by omega) (by omega)) mtX7_along miX7_along rc14 ⟨by decide, (by decide)⟩ lkRX7_96 ⟨by decide, by decide, by decide⟩ rfl (Nat.le_of_ble_eq_true rfl) dX7_fillsOne_57 ?_
      have b5 : -1 ≤ zb Y n (20 + (8 * b + k)) ∧ zb Y n (20 + (8 * b + k)) ≤ 9 := q5 _ (by omega)
      refine x_if_ge (tgt := 92) K (by omega) dX7_fillsOne_60 (by decide) (fun h60 => ?_) (fun h60 => ?_)
      · have hx : zb Y n (20 + (8 * b + k)) ≠ -1 := by omega
        refine x_iinc_5 K dX7_fillsOne_92 rfl ?_
        refine x_goto (tgt := 40) K dX7_fillsOne_95 (by decide) ?_
        exact gWX.to rfl rfl (ih (fun j hj => (Nat.lt_or_ge j k).elim (fun e => hy j e) (fun e => by
          obtain rfl : j = k := by omega
          exact hx)))
      · have hx : zb Y n (20 + (8 * b + k)) = -1 := by omega
        refine x_aload_0 K dX7_fillsOne_63 ?_
        refine x_iload_1 K dX7_fillsOne_64 ?_
        refine x_iload_2 K dX7_fillsOne_65 ?_
        refine x_if_eq (tgt := 73) K (by omega) dX7_fillsOne_66 (by decide) (fun h66 => absurd h66 (by omega)) (fun h66 => ?_)
        refine x_iload_3 K dX7_fillsOne_69 ?_
        refine x_goto (tgt := 75) K dX7_fillsOne_70 (by decide) ?_
        refine x_iload_2 K dX7_fillsOne_75 ?_
        refine x_if_eq (tgt := 84) K (by omega) dX7_fillsOne_76 (by decide) (fun h76 => absurd h76 (by omega)) (fun h76 => ?_)
        refine x_iload_5 K dX7_fillsOne_79 ?_
        refine x_goto (tgt := 85) K dX7_fillsOne_81 (by decide) ?_
        refine x_iload_4 K dX7_fillsOne_85 ?_
        refine x_callV4v K (c7_setSign Y h n (by omega) b k (by omega) (by omega) (s_f (zb Y n) b)) mtX7_setSign miX7_setSign rc14 ⟨by decide, (by decide)⟩ lkRX7_140 ⟨by decide, by decide, by decide⟩ rfl (Nat.le_of_ble_eq_true rfl) dX7_fillsOne_87 ?_
        refine x_iconst K dX7_fillsOne_90 ?_
        exact x_zret K hE rfl dX7_fillsOne_91 (by decide) (by decide) (by omega) (gB1_t (by omega)).symm (by rw [ySet_cong Y n (fun j hj => zG_r hb6 (by omega) e0 hm1 hx hj)])
    · intro hy
      refine x_iload_5 K dX7_fillsOne_40 ?_
      refine x_aload_0 K dX7_fillsOne_42 ?_
      refine x_iload_1 K dX7_fillsOne_43 ?_
      refine x_iload_2 K dX7_fillsOne_44 ?_
      refine x_callV2 K (c7_length_r Y h n (by omega)) mtX7_length miX7_length rc14 ⟨by decide, (by decide)⟩ lkRX7_92 ⟨by decide, by decide, by decide⟩ rfl (Nat.le_of_ble_eq_true rfl) dX7_fillsOne_45 ?_
      refine x_icmp_ge (tgt := 98) K (by omega) dX7_fillsOne_48 (by decide) (fun h48 => ?_) (fun h48 => absurd h48 (by omega))
      exfalso
      have e9 := s_rm_w hz hb6
      rw [gSum_zero _ (fun k hk => gB1_f (hy k hk))] at e9
      rw [s_m_r _ hb6] at hm1
      omega
theorem c7_doFill {E : gE} {σ : gS} (Y : Nat → Int) (h : gMs σ Y) (hY : gY Y) (s r c k : Int) (hs : -2147483648 ≤ s ∧ s < 2147483648) : gCt E mX7_doFill 10 0 [rf 14 0, iv s] σ (.inl (some (iv (gMA 7 Y s r c k)))) (gMO 7 σ Y s r c k) := by
  refine gCt_of (L := [some (rf 14 0), some (iv s), none]) (by decide +kernel) rfl rfl (Nat.le_of_ble_eq_true rfl) (fun X K hE => ?_)
  have hY0 := hY.1
  refine x_aload_0 K dX7_doFill_0 ?_
  refine x_iload_1 K dX7_doFill_1 ?_
  refine x_callV1 K (c7_isScroll Y h hY s hs) mtX7_isScroll miX7_isScroll rc14 ⟨by decide, (by decide)⟩ lkRX7_65 ⟨by decide, by decide, by decide⟩ rfl (Nat.le_of_ble_eq_true rfl) dX7_doFill_2 ?_
  have b1 := gB1_bd (gHit Y s)
  refine x_if_ne (tgt := 14) K (by omega) dX7_doFill_5 (by decide) (fun h5 => ?_) (fun h5 => ?_)
  · have hh : gHit Y s := Classical.byContradiction (fun q => h5 (gB1_f q))
    obtain ⟨n, rfl⟩ : ∃ n : Nat, s = (n : Int) := ⟨s.toNat, by omega⟩
    have hn : (n : Int) < Y 0 := hh.2
    have hY0 := hY.1
    have hz := hY.2 n hn
    have ⟨q0, q1, q2, q3, q4, q5, q6, q7, q8⟩ := hz
    refine x_aload_0 K dX7_doFill_14 ?_
    refine x_iload_1 K dX7_doFill_15 ?_
    refine x_callV1 K (c7_isSealed Y h hY n hn) mtX7_isSealed miX7_isSealed rc14 ⟨by decide, (by decide)⟩ lkRX7_111 ⟨by decide, by decide, by decide⟩ rfl (Nat.le_of_ble_eq_true rfl) dX7_doFill_16 ?_
    have bse := gB1_bd (zb Y n 2 = 1)
    refine x_if_ne (tgt := 30) K (by omega) dX7_doFill_19 (by decide) (fun h19 => ?_) (fun h19 => ?_)
    · have e2 : ¬ zb Y n 2 = 0 := fun q => h19 (gB1_f (by omega))
      have hob : gOb 7 Y (n : Int) r c k = 0 := by
        rw [gOb_7 hh]; exact if_neg e2
      refine x_iconst K dX7_doFill_30 ?_
      refine x_istore_2 K dX7_doFill_31 rfl ?_
      refine gLp (P := fun i : Nat => ∀ y : Nat → Int, (gZ y ∧ s_mu y ≤ 48 - (i : Int) ∧ (s_fill 48 (zb Y n)).1 = (i : Int) + (s_fill (48 - i) y).1 ∧ (s_fill 48 (zb Y n)).2 = (s_fill (48 - i) y).2 ∧ y 5 = zb Y n 5) → gWX X E 0 0 32 [some (rf 14 0), some (iv (n : Int)), some (iv (i : Int))] [] (gMp σ (ySet Y n y))) (48) (fun k0 => ?_) (fun i hi ih => ?_) ?_
      · exact gWX.to rfl (by rw [ySet_self, gMp_self h]) (k0 (zb Y n) ⟨hz, (by have := (s_mu_bd (zb Y n)).2; omega), (Int.zero_add _).symm, rfl, rfl⟩)
      · intro y hy
        have hYy := gY_S hY (n := n) hy.1
        have hny : (n : Int) < ySet Y n y 0 := by rw [ySet_lo Y n y (by omega)]; exact hn
        have ebf : s_bf (zb (ySet Y n y) n) = s_bf y := s_bf_zc (fun j hj => zb_set Y n y hj)
        refine x_aload_0 K dX7_doFill_32 ?_
        refine x_iload_1 K dX7_doFill_33 ?_
        refine x_callV1 K (c7_fillsOne (ySet Y n y) (gMp_ms σ _) hYy n hny) mtX7_fillsOne miX7_fillsOne rc14 ⟨by decide, (by decide)⟩ lkRX7_190 ⟨by decide, by decide, by decide⟩ rfl (Nat.le_of_ble_eq_true rfl) dX7_doFill_34 ?_
        have b9 := gB1_bd (s_bf (zb (ySet Y n y) n) ≠ -1)
        refine x_if_eq (tgt := 46) K (by omega) dX7_doFill_37 (by decide) (fun h37 => ?_) (fun h37 => ?_)
        · have hex : s_bf y = -1 := Classical.byContradiction (fun q => by rw [gB1_t (by rw [ebf]; exact q)] at h37; omega)
          have hf1 : (s_fill 48 (zb Y n)).1 = (i : Int) := by rw [hy.2.2.1, s_fill_no hex]; exact Int.add_zero _
          have hf2 : (s_fill 48 (zb Y n)).2 = y := by rw [hy.2.2.2.1, s_fill_no hex]
          obtain ⟨m, hm⟩ : ∃ m : Int, m = (i : Int) := ⟨_, rfl⟩
          rw [← hm] at hf1 ⊢
          refine gWX.eq (σ' := gMp σ (ySet Y n y)) (by unfold zG; rw [if_pos (by rw [ebf]; exact hex), ySet_self, gMp_self (gMp_ms _ _)]) ?_
          refine x_aload_0 K dX7_doFill_46 ?_
          refine x_iload_1 K dX7_doFill_47 ?_
          refine x_iconst K dX7_doFill_48 ?_
          refine x_aload_0 K dX7_doFill_49 ?_
          refine x_iload_1 K dX7_doFill_50 ?_
          refine x_iconst K dX7_doFill_51 ?_
          refine x_callV2 K (c7_of (ySet Y n y) (gMp_ms σ _) n 5 (by omega) (by omega)) mtX7_of miX7_of rc14 ⟨by decide, (by decide)⟩ lkRX7_69 ⟨by decide, by decide, by decide⟩ rfl (Nat.le_of_ble_eq_true rfl) dX7_doFill_52 ?_
          refine x_iload_2 K dX7_doFill_55 ?_
          refine x_iadd K dX7_doFill_56 ?_
          refine x_callV3v K (c7_set (ySet Y n y) (gMp_ms σ _) n 5 (by omega) (by omega) _) mtX7_set miX7_set rc14 ⟨by decide, (by decide)⟩ lkRX7_80 ⟨by decide, by decide, by decide⟩ rfl (Nat.le_of_ble_eq_true rfl) dX7_doFill_57 ?_
          refine gWX.eq (σ' := gMp σ (ySet Y n (fun j => if j = 5 then zb (ySet Y n y) n 5 + m else y j))) (gMp_set2 σ Y (fun j hj => rfl)) ?_
          refine x_aload_0 K dX7_doFill_60 ?_
          refine x_getC K gfRX7_9 ⟨by decide, (by decide)⟩ dX7_doFill_61 ?_
          refine x_iconst K dX7_doFill_64 ?_
          refine x_dup2 K dX7_doFill_65 rfl rfl ?_
          refine x_iald K 4 rfl rfl ⟨by decide, by decide⟩ (by omega) dX7_doFill_66 ?_
          refine gWX.top (b := Y 4) (by rw [gMp_at, if_pos ⟨rfl, rfl, by omega⟩, ySet_lo _ _ _ (by omega)]) ?_
          refine x_iload_2 K dX7_doFill_67 ?_
          refine x_iadd K dX7_doFill_68 ?_
          refine x_iast K 4 rfl rfl ⟨by decide, by decide⟩ (by omega) dX7_doFill_69 ?_
          refine x_iload_2 K dX7_doFill_70 ?_
          exact x_iret K hE rfl dX7_doFill_71 (by decide) (by decide) (hf1.symm.trans (gMA_0 hob)) ((gFill_fin hf1 hf2 hy.2.2.2.2).trans (gMO_0 hob))
        · have q9 : s_bf y ≠ -1 := fun q => h37 (gB1_f (fun q2 => q2 (by rw [ebf]; exact q)))
          refine x_iinc_2 K dX7_doFill_40 rfl ?_
          refine x_goto (tgt := 32) K dX7_doFill_43 (by decide) ?_
          refine gWX.to rfl ?_ (ih (zF1 y) ⟨zF1_Z hy.1 q9, ?_, ?_, ?_, ?_⟩)
          · rw [gMp_mp, ySet_set, ySet_cong Y n (fun j hj => ?_)]
            unfold zG
            rw [if_neg (by rw [ebf]; exact q9)]
            exact zF1_zc (fun j hj => zb_set Y n y hj) (by rw [ebf]; exact q9) hj
          · have e := s_mu_F1 hy.1 q9
            have e3 := hy.2.1
            omega
          · rw [hy.2.2.1, show 48 - i = (48 - (i + 1)) + 1 by omega, s_fill_yes q9]
            show (i : Int) + ((s_fill (48 - (i + 1)) (zF1 y)).1 + 1) = _
            omega
          · rw [hy.2.2.2.1, show 48 - i = (48 - (i + 1)) + 1 by omega, s_fill_yes q9]
          · obtain ⟨x, ex, hx, _⟩ := s_bf_nat q9
            have e4 : zF1 y = zFp y x 48 := by unfold zF1; rw [ex]; rfl
            rw [e4, zFp_lo (by omega)]
            exact hy.2.2.2.2
      · intro y hy
        have hYy := gY_S hY (n := n) hy.1
        have hny : (n : Int) < ySet Y n y 0 := by rw [ySet_lo Y n y (by omega)]; exact hn
        have ebf : s_bf (zb (ySet Y n y) n) = s_bf y := s_bf_zc (fun j hj => zb_set Y n y hj)
        have hex : s_bf y = -1 := Classical.byContradiction (fun q => by
          have e := s_mu_F1 hy.1 q
          have e2 := s_mu_bd (zF1 y)
          have e3 := hy.2.1
          omega)
        refine x_aload_0 K dX7_doFill_32 ?_
        refine x_iload_1 K dX7_doFill_33 ?_
        refine x_callV1 K (c7_fillsOne (ySet Y n y) (gMp_ms σ _) hYy n hny) mtX7_fillsOne miX7_fillsOne rc14 ⟨by decide, (by decide)⟩ lkRX7_190 ⟨by decide, by decide, by decide⟩ rfl (Nat.le_of_ble_eq_true rfl) dX7_doFill_34 ?_
        have b9 := gB1_bd (s_bf (zb (ySet Y n y) n) ≠ -1)
        refine x_if_eq (tgt := 46) K (by omega) dX7_doFill_37 (by decide) (fun h37 => ?_) (fun h37 => absurd (gB1_f (fun q => q (ebf.trans hex))) h37)
        have hf1 : (s_fill 48 (zb Y n)).1 = ((48 : Nat) : Int) := by rw [hy.2.2.1, s_fill_no hex]; exact Int.add_zero _
        have hf2 : (s_fill 48 (zb Y n)).2 = y := by rw [hy.2.2.2.1, s_fill_no hex]
        obtain ⟨m, hm⟩ : ∃ m : Int, m = ((48 : Nat) : Int) := ⟨_, rfl⟩
        rw [← hm] at hf1 ⊢
        refine gWX.eq (σ' := gMp σ (ySet Y n y)) (by unfold zG; rw [if_pos (by rw [ebf]; exact hex), ySet_self, gMp_self (gMp_ms _ _)]) ?_
        refine x_aload_0 K dX7_doFill_46 ?_
        refine x_iload_1 K dX7_doFill_47 ?_
        refine x_iconst K dX7_doFill_48 ?_
        refine x_aload_0 K dX7_doFill_49 ?_
        refine x_iload_1 K dX7_doFill_50 ?_
        refine x_iconst K dX7_doFill_51 ?_
        refine x_callV2 K (c7_of (ySet Y n y) (gMp_ms σ _) n 5 (by omega) (by omega)) mtX7_of miX7_of rc14 ⟨by decide, (by decide)⟩ lkRX7_69 ⟨by decide, by decide, by decide⟩ rfl (Nat.le_of_ble_eq_true rfl) dX7_doFill_52 ?_
        refine x_iload_2 K dX7_doFill_55 ?_
        refine x_iadd K dX7_doFill_56 ?_
        refine x_callV3v K (c7_set (ySet Y n y) (gMp_ms σ _) n 5 (by omega) (by omega) _) mtX7_set miX7_set rc14 ⟨by decide, (by decide)⟩ lkRX7_80 ⟨by decide, by decide, by decide⟩ rfl (Nat.le_of_ble_eq_true rfl) dX7_doFill_57 ?_
        refine gWX.eq (σ' := gMp σ (ySet Y n (fun j => if j = 5 then zb (ySet Y n y) n 5 + m else y j))) (gMp_set2 σ Y (fun j hj => rfl)) ?_
        refine x_aload_0 K dX7_doFill_60 ?_
        refine x_getC K gfRX7_9 ⟨by decide, (by decide)⟩ dX7_doFill_61 ?_
        refine x_iconst K dX7_doFill_64 ?_
        refine x_dup2 K dX7_doFill_65 rfl rfl ?_
        refine x_iald K 4 rfl rfl ⟨by decide, by decide⟩ (by omega) dX7_doFill_66 ?_
        refine gWX.top (b := Y 4) (by rw [gMp_at, if_pos ⟨rfl, rfl, by omega⟩, ySet_lo _ _ _ (by omega)]) ?_
        refine x_iload_2 K dX7_doFill_67 ?_
        refine x_iadd K dX7_doFill_68 ?_
        refine x_iast K 4 rfl rfl ⟨by decide, by decide⟩ (by omega) dX7_doFill_69 ?_
        refine x_iload_2 K dX7_doFill_70 ?_
        exact x_iret K hE rfl dX7_doFill_71 (by decide) (by decide) (hf1.symm.trans (gMA_0 hob)) ((gFill_fin hf1 hf2 hy.2.2.2.2).trans (gMO_0 hob))
    · have e2 : zb Y n 2 = 0 := by
        rcases q2 with e | e
        · exact e
        · rw [gB1_t e] at h19; omega
      have hob : gOb 7 Y (n : Int) r c k = 100 * 4 + (n : Int) := by
        rw [gOb_7 hh]; exact if_pos e2
      refine x_aload_0 K dX7_doFill_22 ?_
      refine x_iconst K dX7_doFill_23 ?_
      refine x_iconst K dX7_doFill_24 ?_
      refine x_iload_1 K dX7_doFill_25 ?_
      refine x_callV3 K (c7_refuse 2 4 (n : Int)) mtX7_refuse miX7_refuse rc14 ⟨by decide, (by decide)⟩ lkRX7_128 ⟨by decide, by decide, by decide⟩ rfl (Nat.le_of_ble_eq_true rfl) dX7_doFill_26 ?_
      exact x_iret K hE rfl dX7_doFill_29 (by decide) (by decide) (gMA_n hob (by omega)) (gMO_r hob (by omega) (by omega) rfl)
  · have hh : ¬ gHit Y s := fun q => by rw [gB1_t q] at h5; omega
    have hob : gOb 7 Y s r c k = 1 := gOb_hit (by omega) hh
    refine x_aload_0 K dX7_doFill_8 ?_
    refine x_iconst K dX7_doFill_9 ?_
    refine x_callV1 K (c7_fails 1) mtX7_fails miX7_fails rc14 ⟨by decide, (by decide)⟩ lkRX7_124 ⟨by decide, by decide, by decide⟩ rfl (Nat.le_of_ble_eq_true rfl) dX7_doFill_10 ?_
    exact x_iret K hE rfl dX7_doFill_13 (by decide) (by decide) (gMA_n hob (by omega)) (gMO_f hob (by omega))
theorem c7_doWrite {E : gE} {σ : gS} (Y : Nat → Int) (h : gMs σ Y) (hY : gY Y) (s r c k : Int) (hs : -2147483648 ≤ s ∧ s < 2147483648) (hr : -2147483648 ≤ r ∧ r < 2147483648) (hc : -2147483648 ≤ c ∧ c < 2147483648) (hk : -2147483648 ≤ k ∧ k < 2147483648) : gCt E mX7_doWrite 10 0 [rf 14 0, iv s, iv r, iv c, iv k] σ (.inl (some (iv (gMA 1 Y s r c k)))) (gMO 1 σ Y s r c k) := by
  refine gCt_of (L := [some (rf 14 0), some (iv s), some (iv r), some (iv c), some (iv k), none]) (by decide +kernel) rfl rfl (Nat.le_of_ble_eq_true rfl) (fun X K hE => ?_)
  have hY0 := hY.1
  refine x_aload_0 K dX7_doWrite_0 ?_
  refine x_iload_1 K dX7_doWrite_1 ?_
  refine x_iload_2 K dX7_doWrite_2 ?_
  refine x_iload_3 K dX7_doWrite_3 ?_
  refine x_callV3 K (c7_isCell Y h hY s r c hs hr hc) mtX7_isCell miX7_isCell rc14 ⟨by decide, (by decide)⟩ lkRX7_137 ⟨by decide, by decide, by decide⟩ rfl (Nat.le_of_ble_eq_true rfl) dX7_doWrite_4 ?_
  have b1 := gB1_bd (gCel Y s r c)
  refine x_if_ne (tgt := 16) K (by omega) dX7_doWrite_7 (by decide) (fun h7 => ?_) (fun h7 => ?_)
  · have hx : gCel Y s r c := Classical.byContradiction (fun q => h7 (gB1_f q))
    obtain ⟨n, rfl⟩ : ∃ n : Nat, s = (n : Int) := ⟨s.toNat, by have := hx.1; omega⟩
    obtain ⟨r, rfl⟩ : ∃ r2 : Nat, r = (r2 : Int) := ⟨r.toNat, by have := hx.2.1; omega⟩
    obtain ⟨c, rfl⟩ : ∃ c2 : Nat, c = (c2 : Int) := ⟨c.toNat, by have := hx.2.2; omega⟩
    have hn : (n : Int) < Y 0 := hx.1.2
    have hY0 := hY.1
    have hz := hY.2 n hn
    have ⟨q0, q1, q2, q3, q4, q5, q6, q7, q8⟩ := hz
    have hr9 : (r : Int) < zb Y n 0 := hx.2.1.2
    have hc9 : (c : Int) < zb Y n 1 := hx.2.2.2
    have hr6 : r < 6 := by omega
    have hc8 : c < 8 := by omega
    have b5 : -1 ≤ zb Y n (20 + (8 * r + c)) ∧ zb Y n (20 + (8 * r + c)) ≤ 9 := q5 (8 * r + c) (by omega)
    refine x_iload_4 K dX7_doWrite_16 ?_
    refine x_iconst K dX7_doWrite_18 ?_
    refine x_bipush K dX7_doWrite_19 rfl ?_
    refine x_callS3 K (c7_in k 0 9 (by omega)) mtX7_in msX7_in lkRX7_61 ⟨by decide, by decide, by decide⟩ rfl (Nat.le_of_ble_eq_true rfl) dX7_doWrite_21 ?_
    have b2 := gB1_bd (0 ≤ k ∧ k ≤ 9)
    refine x_if_ne (tgt := 33) K (by omega) dX7_doWrite_24 (by decide) (fun h24 => ?_) (fun h24 => ?_)
    · have hk9 : 0 ≤ k ∧ k ≤ 9 := Classical.byContradiction (fun q => h24 (gB1_f q))
      have hob : gOb 1 Y (n : Int) (r : Int) (c : Int) k = 0 := by rw [gOb_1 hx, if_pos hk9]
      refine x_aload_0 K dX7_doWrite_33 ?_
      refine x_iload_1 K dX7_doWrite_34 ?_
      refine x_iload_2 K dX7_doWrite_35 ?_
      refine x_iload_3 K dX7_doWrite_36 ?_
      refine x_callV3 K (c7_sign1 Y h n (by omega) r c hr6 hc8) mtX7_sign1 miX7_sign1 rc14 ⟨by decide, (by decide)⟩ lkRX7_88 ⟨by decide, by decide, by decide⟩ rfl (Nat.le_of_ble_eq_true rfl) dX7_doWrite_37 ?_
      refine x_istore_5 K dX7_doWrite_40 rfl ?_
      refine x_aload_0 K dX7_doWrite_42 ?_
      refine x_iload_1 K dX7_doWrite_43 ?_
      refine x_iload_2 K dX7_doWrite_44 ?_
      refine x_iload_3 K dX7_doWrite_45 ?_
      refine x_iload_4 K dX7_doWrite_46 ?_
      refine x_callV4v K (c7_setSign Y h n (by omega) r c hr6 hc8 k) mtX7_setSign miX7_setSign rc14 ⟨by decide, (by decide)⟩ lkRX7_140 ⟨by decide, by decide, by decide⟩ rfl (Nat.le_of_ble_eq_true rfl) dX7_doWrite_48 ?_
      refine x_iload_5 K dX7_doWrite_51 ?_
      exact x_iret K hE rfl dX7_doWrite_53 (by decide) (by decide) (gMA_0 hob) (gMO_0 hob)
    · have hob : gOb 1 Y (n : Int) (r : Int) (c : Int) k = 2 := by rw [gOb_1 hx, if_neg (fun q => by rw [gB1_t q] at h24; omega)]
      refine x_aload_0 K dX7_doWrite_27 ?_
      refine x_iconst K dX7_doWrite_28 ?_
      refine x_callV1 K (c7_fails 2) mtX7_fails miX7_fails rc14 ⟨by decide, (by decide)⟩ lkRX7_124 ⟨by decide, by decide, by decide⟩ rfl (Nat.le_of_ble_eq_true rfl) dX7_doWrite_29 ?_
      exact x_iret K hE rfl dX7_doWrite_32 (by decide) (by decide) (gMA_n hob (by omega)) (gMO_f hob (by omega))
  · have hx : ¬ gCel Y s r c := fun q => by rw [gB1_t q] at h7; omega
    have hob : gOb 1 Y s r c k = 1 := gOb_cel (by omega) (by omega) hx
    refine x_aload_0 K dX7_doWrite_10 ?_
    refine x_iconst K dX7_doWrite_11 ?_
    refine x_callV1 K (c7_fails 1) mtX7_fails miX7_fails rc14 ⟨by decide, (by decide)⟩ lkRX7_124 ⟨by decide, by decide, by decide⟩ rfl (Nat.le_of_ble_eq_true rfl) dX7_doWrite_12 ?_
    exact x_iret K hE rfl dX7_doWrite_15 (by decide) (by decide) (gMA_n hob (by omega)) (gMO_f hob (by omega))
theorem c7_doSlip {E : gE} {σ : gS} (Y : Nat → Int) (h : gMs σ Y) (hY : gY Y) (s r c k : Int) (hs : -2147483648 ≤ s ∧ s < 2147483648) (hr : -2147483648 ≤ r ∧ r < 2147483648) (hc : -2147483648 ≤ c ∧ c < 2147483648) (hk : -2147483648 ≤ k ∧ k < 2147483648) : gCt E mX7_doSlip 10 0 [rf 14 0, iv s, iv r, iv c, iv k] σ (.inl (some (iv (gMA 2 Y s r c k)))) (gMO 2 σ Y s r c k) := by
  refine gCt_of (L := [some (rf 14 0), some (iv s), some (iv r), some (iv c), some (iv k)]) (by decide +kernel) rfl rfl (Nat.le_of_ble_eq_true rfl) (fun X K hE => ?_)
  have hY0 := hY.1
  refine x_aload_0 K dX7_doSlip_0 ?_
  refine x_iload_1 K dX7_doSlip_1 ?_
  refine x_iload_2 K dX7_doSlip_2 ?_
  refine x_iload_3 K dX7_doSlip_3 ?_
  refine x_callV3 K (c7_isCell Y h hY s r c hs hr hc) mtX7_isCell miX7_isCell rc14 ⟨by decide, (by decide)⟩ lkRX7_137 ⟨by decide, by decide, by decide⟩ rfl (Nat.le_of_ble_eq_true rfl) dX7_doSlip_4 ?_
  have b1 := gB1_bd (gCel Y s r c)
  refine x_if_ne (tgt := 16) K (by omega) dX7_doSlip_7 (by decide) (fun h7 => ?_) (fun h7 => ?_)
  · have hx : gCel Y s r c := Classical.byContradiction (fun q => h7 (gB1_f q))
    obtain ⟨n, rfl⟩ : ∃ n : Nat, s = (n : Int) := ⟨s.toNat, by have := hx.1; omega⟩
    obtain ⟨r, rfl⟩ : ∃ r2 : Nat, r = (r2 : Int) := ⟨r.toNat, by have := hx.2.1; omega⟩
    obtain ⟨c, rfl⟩ : ∃ c2 : Nat, c = (c2 : Int) := ⟨c.toNat, by have := hx.2.2; omega⟩
    have hn : (n : Int) < Y 0 := hx.1.2
    have hY0 := hY.1
    have hz := hY.2 n hn
    have ⟨q0, q1, q2, q3, q4, q5, q6, q7, q8⟩ := hz
    have hr9 : (r : Int) < zb Y n 0 := hx.2.1.2
    have hc9 : (c : Int) < zb Y n 1 := hx.2.2.2
    have hr6 : r < 6 := by omega
    have hc8 : c < 8 := by omega
    have b5 : -1 ≤ zb Y n (20 + (8 * r + c)) ∧ zb Y n (20 + (8 * r + c)) ≤ 9 := q5 (8 * r + c) (by omega)
    refine x_iload_4 K dX7_doSlip_16 ?_
    refine x_iconst K dX7_doSlip_18 ?_
    refine x_bipush K dX7_doSlip_19 rfl ?_
    refine x_callS3 K (c7_in k 1 9 (by omega)) mtX7_in msX7_in lkRX7_61 ⟨by decide, by decide, by decide⟩ rfl (Nat.le_of_ble_eq_true rfl) dX7_doSlip_21 ?_
    have b2 := gB1_bd (1 ≤ k ∧ k ≤ 9)
    refine x_if_ne (tgt := 33) K (by omega) dX7_doSlip_24 (by decide) (fun h24 => ?_) (fun h24 => ?_)
    · have hk9 : 1 ≤ k ∧ k ≤ 9 := Classical.byContradiction (fun q => h24 (gB1_f q))
      refine x_aload_0 K dX7_doSlip_33 ?_
      refine x_iload_1 K dX7_doSlip_34 ?_
      refine x_iload_2 K dX7_doSlip_35 ?_
      refine x_iload_3 K dX7_doSlip_36 ?_
      refine x_callV3 K (c7_sign1 Y h n (by omega) r c hr6 hc8) mtX7_sign1 miX7_sign1 rc14 ⟨by decide, (by decide)⟩ lkRX7_88 ⟨by decide, by decide, by decide⟩ rfl (Nat.le_of_ble_eq_true rfl) dX7_doSlip_37 ?_
      refine x_if_ge (tgt := 56) K (by omega) dX7_doSlip_40 (by decide) (fun h40 => ?_) (fun h40 => ?_)
      · have hm : ¬ zb Y n (20 + (8 * r + c)) = -1 := by omega
        have hob : gOb 2 Y (n : Int) (r : Int) (c : Int) k = 0 := by rw [gOb_2 hx, if_pos hk9]; exact if_neg hm
        refine x_aload_0 K dX7_doSlip_56 ?_
        refine x_iload_1 K dX7_doSlip_57 ?_
        refine x_iload_2 K dX7_doSlip_58 ?_
        refine x_iload_3 K dX7_doSlip_59 ?_
        refine x_aload_0 K dX7_doSlip_60 ?_
        refine x_iload_1 K dX7_doSlip_61 ?_
        refine x_iload_2 K dX7_doSlip_62 ?_
        refine x_iload_3 K dX7_doSlip_63 ?_
        refine x_callV3 K (c7_sign1 Y h n (by omega) r c hr6 hc8) mtX7_sign1 miX7_sign1 rc14 ⟨by decide, (by decide)⟩ lkRX7_88 ⟨by decide, by decide, by decide⟩ rfl (Nat.le_of_ble_eq_true rfl) dX7_doSlip_64 ?_
        refine x_iload_4 K dX7_doSlip_67 ?_
        refine x_iadd K dX7_doSlip_69 ?_
        refine x_bipush K dX7_doSlip_70 rfl ?_
        refine x_irem K (by omega) dX7_doSlip_72 ?_
        refine x_callV4v K (c7_setSign Y h n (by omega) r c hr6 hc8 ((zb Y n (20 + (8 * r + c)) + k) % 10)) mtX7_setSign miX7_setSign rc14 ⟨by decide, (by decide)⟩ lkRX7_140 ⟨by decide, by decide, by decide⟩ rfl (Nat.le_of_ble_eq_true rfl) dX7_doSlip_73 ?_
        refine x_aload_0 K dX7_doSlip_76 ?_
        refine x_getC K gfRX7_9 ⟨by decide, (by decide)⟩ dX7_doSlip_77 ?_
        refine x_iconst K dX7_doSlip_80 ?_
        refine x_dup2 K dX7_doSlip_81 rfl rfl ?_
        refine x_iald K 1 rfl rfl ⟨by decide, by decide⟩ (by omega) dX7_doSlip_82 ?_
        refine gWX.top (b := Y 1) (by rw [gMp_at, if_pos ⟨rfl, rfl, by omega⟩, ySet_lo _ _ _ (by omega)]) ?_
        refine x_iconst K dX7_doSlip_83 ?_
        refine x_iadd K dX7_doSlip_84 ?_
        refine x_iast K 1 rfl rfl ⟨by decide, by decide⟩ (by omega) dX7_doSlip_85 ?_
        refine gWX.eq (σ' := gMp σ (ySet (yF Y 1 (Y 1 + 1)) n (zset (zb Y n) r c ((zb Y n (20 + (8 * r + c)) + k) % 10)))) (by rw [gMp_uu σ _ (by omega), yF_ySet _ _ _ (by omega)]) ?_
        refine x_aload_0 K dX7_doSlip_86 ?_
        refine x_iload_1 K dX7_doSlip_87 ?_
        refine x_iload_2 K dX7_doSlip_88 ?_
        refine x_iload_3 K dX7_doSlip_89 ?_
        refine x_callV3 K (c7_sign1 (ySet (yF Y 1 (Y 1 + 1)) n (zset (zb Y n) r c ((zb Y n (20 + (8 * r + c)) + k) % 10))) (gMp_ms σ _) n (by omega) r c hr6 hc8) mtX7_sign1 miX7_sign1 rc14 ⟨by decide, (by decide)⟩ lkRX7_88 ⟨by decide, by decide, by decide⟩ rfl (Nat.le_of_ble_eq_true rfl) dX7_doSlip_90 ?_
        exact x_iret K hE rfl dX7_doSlip_93 (by decide) (by decide) (by rw [zb_set _ _ _ (by omega), zset_at, if_pos rfl]; exact gMA_0 hob) (gMO_0 hob)
      · have hm : zb Y n (20 + (8 * r + c)) = -1 := by omega
        have hob : gOb 2 Y (n : Int) (r : Int) (c : Int) k = 100 * 3 + (10 * (r : Int) + (c : Int)) := by rw [gOb_2 hx, if_pos hk9]; exact (if_pos hm).trans (by omega)
        refine x_aload_0 K dX7_doSlip_43 ?_
        refine x_iconst K dX7_doSlip_44 ?_
        refine x_iconst K dX7_doSlip_45 ?_
        refine x_bipush K dX7_doSlip_46 rfl ?_
        refine x_iload_2 K dX7_doSlip_48 ?_
        refine x_imul K dX7_doSlip_49 ?_
        refine x_iload_3 K dX7_doSlip_50 ?_
        refine x_iadd K dX7_doSlip_51 ?_
        refine x_callV3 K (c7_refuse 3 3 (10 * (r : Int) + (c : Int))) mtX7_refuse miX7_refuse rc14 ⟨by decide, (by decide)⟩ lkRX7_128 ⟨by decide, by decide, by decide⟩ rfl (Nat.le_of_ble_eq_true rfl) dX7_doSlip_52 ?_
        exact x_iret K hE rfl dX7_doSlip_55 (by decide) (by decide) (gMA_n hob (by omega)) (gMO_r hob (by omega) (by omega) rfl)
    · have hob : gOb 2 Y (n : Int) (r : Int) (c : Int) k = 2 := by rw [gOb_2 hx, if_neg (fun q => by rw [gB1_t q] at h24; omega)]
      refine x_aload_0 K dX7_doSlip_27 ?_
      refine x_iconst K dX7_doSlip_28 ?_
      refine x_callV1 K (c7_fails 2) mtX7_fails miX7_fails rc14 ⟨by decide, (by decide)⟩ lkRX7_124 ⟨by decide, by decide, by decide⟩ rfl (Nat.le_of_ble_eq_true rfl) dX7_doSlip_29 ?_
      exact x_iret K hE rfl dX7_doSlip_32 (by decide) (by decide) (gMA_n hob (by omega)) (gMO_f hob (by omega))
  · have hx : ¬ gCel Y s r c := fun q => by rw [gB1_t q] at h7; omega
    have hob : gOb 2 Y s r c k = 1 := gOb_cel (by omega) (by omega) hx
    refine x_aload_0 K dX7_doSlip_10 ?_
    refine x_iconst K dX7_doSlip_11 ?_
    refine x_callV1 K (c7_fails 1) mtX7_fails miX7_fails rc14 ⟨by decide, (by decide)⟩ lkRX7_124 ⟨by decide, by decide, by decide⟩ rfl (Nat.le_of_ble_eq_true rfl) dX7_doSlip_12 ?_
    exact x_iret K hE rfl dX7_doSlip_15 (by decide) (by decide) (gMA_n hob (by omega)) (gMO_f hob (by omega))
theorem c7_doSmudge {E : gE} {σ : gS} (Y : Nat → Int) (h : gMs σ Y) (hY : gY Y) (s r c k : Int) (hs : -2147483648 ≤ s ∧ s < 2147483648) (hr : -2147483648 ≤ r ∧ r < 2147483648) (hc : -2147483648 ≤ c ∧ c < 2147483648) : gCt E mX7_doSmudge 10 0 [rf 14 0, iv s, iv r, iv c] σ (.inl (some (iv (gMA 3 Y s r c k)))) (gMO 3 σ Y s r c k) := by
  refine gCt_of (L := [some (rf 14 0), some (iv s), some (iv r), some (iv c)]) (by decide +kernel) rfl rfl (Nat.le_of_ble_eq_true rfl) (fun X K hE => ?_)
  have hY0 := hY.1
  refine x_aload_0 K dX7_doSmudge_0 ?_
  refine x_iload_1 K dX7_doSmudge_1 ?_
  refine x_iload_2 K dX7_doSmudge_2 ?_
  refine x_iload_3 K dX7_doSmudge_3 ?_
  refine x_callV3 K (c7_isCell Y h hY s r c hs hr hc) mtX7_isCell miX7_isCell rc14 ⟨by decide, (by decide)⟩ lkRX7_137 ⟨by decide, by decide, by decide⟩ rfl (Nat.le_of_ble_eq_true rfl) dX7_doSmudge_4 ?_
  have b1 := gB1_bd (gCel Y s r c)
  refine x_if_ne (tgt := 16) K (by omega) dX7_doSmudge_7 (by decide) (fun h7 => ?_) (fun h7 => ?_)
  · have hx : gCel Y s r c := Classical.byContradiction (fun q => h7 (gB1_f q))
    obtain ⟨n, rfl⟩ : ∃ n : Nat, s = (n : Int) := ⟨s.toNat, by have := hx.1; omega⟩
    obtain ⟨r, rfl⟩ : ∃ r2 : Nat, r = (r2 : Int) := ⟨r.toNat, by have := hx.2.1; omega⟩
    obtain ⟨c, rfl⟩ : ∃ c2 : Nat, c = (c2 : Int) := ⟨c.toNat, by have := hx.2.2; omega⟩
    have hn : (n : Int) < Y 0 := hx.1.2
    have hY0 := hY.1
    have hz := hY.2 n hn
    have ⟨q0, q1, q2, q3, q4, q5, q6, q7, q8⟩ := hz
    have hr9 : (r : Int) < zb Y n 0 := hx.2.1.2
    have hc9 : (c : Int) < zb Y n 1 := hx.2.2.2
    have hr6 : r < 6 := by omega
    have hc8 : c < 8 := by omega
    have b5 : -1 ≤ zb Y n (20 + (8 * r + c)) ∧ zb Y n (20 + (8 * r + c)) ≤ 9 := q5 (8 * r + c) (by omega)
    refine x_aload_0 K dX7_doSmudge_16 ?_
    refine x_iload_1 K dX7_doSmudge_17 ?_
    refine x_iload_2 K dX7_doSmudge_18 ?_
    refine x_iload_3 K dX7_doSmudge_19 ?_
    refine x_callV3 K (c7_sign1 Y h n (by omega) r c hr6 hc8) mtX7_sign1 miX7_sign1 rc14 ⟨by decide, (by decide)⟩ lkRX7_88 ⟨by decide, by decide, by decide⟩ rfl (Nat.le_of_ble_eq_true rfl) dX7_doSmudge_20 ?_
    refine x_if_ge (tgt := 39) K (by omega) dX7_doSmudge_23 (by decide) (fun h23 => ?_) (fun h23 => ?_)
    · have hm : ¬ zb Y n (20 + (8 * r + c)) = -1 := by omega
      have hob : gOb 3 Y (n : Int) (r : Int) (c : Int) k = 0 := by rw [gOb_3 hx]; exact if_neg hm
      refine x_aload_0 K dX7_doSmudge_39 ?_
      refine x_iload_1 K dX7_doSmudge_40 ?_
      refine x_iload_2 K dX7_doSmudge_41 ?_
      refine x_iload_3 K dX7_doSmudge_42 ?_
      refine x_iconst K dX7_doSmudge_43 ?_
      refine x_callV4v K (c7_setSign Y h n (by omega) r c hr6 hc8 (-1)) mtX7_setSign miX7_setSign rc14 ⟨by decide, (by decide)⟩ lkRX7_140 ⟨by decide, by decide, by decide⟩ rfl (Nat.le_of_ble_eq_true rfl) dX7_doSmudge_44 ?_
      refine x_aload_0 K dX7_doSmudge_47 ?_
      refine x_getC K gfRX7_9 ⟨by decide, (by decide)⟩ dX7_doSmudge_48 ?_
      refine x_iconst K dX7_doSmudge_51 ?_
      refine x_dup2 K dX7_doSmudge_52 rfl rfl ?_
      refine x_iald K 2 rfl rfl ⟨by decide, by decide⟩ (by omega) dX7_doSmudge_53 ?_
      refine gWX.top (b := Y 2) (by rw [gMp_at, if_pos ⟨rfl, rfl, by omega⟩, ySet_lo _ _ _ (by omega)]) ?_
      refine x_iconst K dX7_doSmudge_54 ?_
      refine x_iadd K dX7_doSmudge_55 ?_
      refine x_iast K 2 rfl rfl ⟨by decide, by decide⟩ (by omega) dX7_doSmudge_56 ?_
      refine gWX.eq (σ' := gMp σ (ySet (yF Y 2 (Y 2 + 1)) n (zset (zb Y n) r c (-1)))) (by rw [gMp_uu σ _ (by omega), yF_ySet _ _ _ (by omega)]) ?_
      refine x_aload_0 K dX7_doSmudge_57 ?_
      refine x_iload_1 K dX7_doSmudge_58 ?_
      have hY2 := gY_S (n := n) (gY_F hY (k := 2) (by omega) (by omega) (Y 2 + 1)) (gZ_set hz (s := -1) hr9 hc9 (by omega))
      have hn2 : (n : Int) < ySet (yF Y 2 (Y 2 + 1)) n (zset (zb Y n) r c (-1)) 0 := by rw [ySet_lo _ _ _ (by omega)]; exact hn
      refine x_callV1 K (c7_smudged (ySet (yF Y 2 (Y 2 + 1)) n (zset (zb Y n) r c (-1))) (gMp_ms σ _) hY2 n hn2) mtX7_smudged miX7_smudged rc14 ⟨by decide, (by decide)⟩ lkRX7_134 ⟨by decide, by decide, by decide⟩ rfl (Nat.le_of_ble_eq_true rfl) dX7_doSmudge_59 ?_
      exact x_iret K hE rfl dX7_doSmudge_62 (by decide) (by decide) ((s_sm_zc (hY2.2 n hn2) (fun j hj => zb_set _ n _ hj)).trans (gMA_0 hob)) (gMO_0 hob)
    · have hm : zb Y n (20 + (8 * r + c)) = -1 := by omega
      have hob : gOb 3 Y (n : Int) (r : Int) (c : Int) k = 100 * 3 + (10 * (r : Int) + (c : Int)) := by rw [gOb_3 hx]; exact (if_pos hm).trans (by omega)
      refine x_aload_0 K dX7_doSmudge_26 ?_
      refine x_iconst K dX7_doSmudge_27 ?_
      refine x_iconst K dX7_doSmudge_28 ?_
      refine x_bipush K dX7_doSmudge_29 rfl ?_
      refine x_iload_2 K dX7_doSmudge_31 ?_
      refine x_imul K dX7_doSmudge_32 ?_
      refine x_iload_3 K dX7_doSmudge_33 ?_
      refine x_iadd K dX7_doSmudge_34 ?_
      refine x_callV3 K (c7_refuse 2 3 (10 * (r : Int) + (c : Int))) mtX7_refuse miX7_refuse rc14 ⟨by decide, (by decide)⟩ lkRX7_128 ⟨by decide, by decide, by decide⟩ rfl (Nat.le_of_ble_eq_true rfl) dX7_doSmudge_35 ?_
      exact x_iret K hE rfl dX7_doSmudge_38 (by decide) (by decide) (gMA_n hob (by omega)) (gMO_r hob (by omega) (by omega) rfl)
  · have hx : ¬ gCel Y s r c := fun q => by rw [gB1_t q] at h7; omega
    have hob : gOb 3 Y s r c k = 1 := gOb_cel (by omega) (by omega) hx
    refine x_aload_0 K dX7_doSmudge_10 ?_
    refine x_iconst K dX7_doSmudge_11 ?_
    refine x_callV1 K (c7_fails 1) mtX7_fails miX7_fails rc14 ⟨by decide, (by decide)⟩ lkRX7_124 ⟨by decide, by decide, by decide⟩ rfl (Nat.le_of_ble_eq_true rfl) dX7_doSmudge_12 ?_
    exact x_iret K hE rfl dX7_doSmudge_15 (by decide) (by decide) (gMA_n hob (by omega)) (gMO_f hob (by omega))
theorem c7_doMend {E : gE} {σ : gS} (Y : Nat → Int) (h : gMs σ Y) (hY : gY Y) (s r c k : Int) (hs : -2147483648 ≤ s ∧ s < 2147483648) : gCt E mX7_doMend 10 0 [rf 14 0, iv s] σ (.inl (some (iv (gMA 6 Y s r c k)))) (gMO 6 σ Y s r c k) := by
  refine gCt_of (L := [some (rf 14 0), some (iv s), none, none, none]) (by decide +kernel) rfl rfl (Nat.le_of_ble_eq_true rfl) (fun X K hE => ?_)
  have hY0 := hY.1
  refine x_aload_0 K dX7_doMend_0 ?_
  refine x_iload_1 K dX7_doMend_1 ?_
  refine x_callV1 K (c7_isScroll Y h hY s hs) mtX7_isScroll miX7_isScroll rc14 ⟨by decide, (by decide)⟩ lkRX7_65 ⟨by decide, by decide, by decide⟩ rfl (Nat.le_of_ble_eq_true rfl) dX7_doMend_2 ?_
  have b1 := gB1_bd (gHit Y s)
  refine x_if_ne (tgt := 14) K (by omega) dX7_doMend_5 (by decide) (fun h5 => ?_) (fun h5 => ?_)
  · have hh : gHit Y s := Classical.byContradiction (fun q => h5 (gB1_f q))
    obtain ⟨n, rfl⟩ : ∃ n : Nat, s = (n : Int) := ⟨s.toNat, by omega⟩
    have hn : (n : Int) < Y 0 := hh.2
    have hY0 := hY.1
    have hz := hY.2 n hn
    have ⟨q0, q1, q2, q3, q4, q5, q6, q7, q8⟩ := hz
    refine x_aload_0 K dX7_doMend_14 ?_
    refine x_iload_1 K dX7_doMend_15 ?_
    have b1 := s_sm_bd hz
    have b2 := s_wr_bd (zb Y n)
    have b3 := s_wc_bd (zb Y n)
    have b4 := gB1_bd (zb Y n 2 = 1)
    have b5 : gB1 (zb Y n 2 = 1) = zb Y n 2 := by unfold gB1; split <;> omega
    have hca := s_om_cases (zb Y n) (n : Int)
    have bom := s_om_bd hz (n := (n : Int)) (by omega)
    have ob6 : gOb 6 Y (n : Int) r c k = s_om (zb Y n) (n : Int) := gOb_6 hh
    refine x_callV1 K (c7_mendBar Y h hY n hn) mtX7_mendBar miX7_mendBar rc14 ⟨by decide, (by decide)⟩ lkRX7_175 ⟨by decide, by decide, by decide⟩ rfl (Nat.le_of_ble_eq_true rfl) dX7_doMend_16 ?_
    refine x_istore_2 K dX7_doMend_19 rfl ?_
    refine x_iload_2 K dX7_doMend_20 ?_
    refine x_if_le (tgt := 37) K (by omega) dX7_doMend_21 (by decide) (fun h21 => ?_) (fun h21 => ?_)
    · have om0 : s_om (zb Y n) (n : Int) = 0 := by
        rcases hca with hca | hca | ⟨hca0, hca⟩ | hca | hca | ⟨hca0, hca⟩
        · exact hca
        · omega
        · omega
        · omega
        · omega
        · have f1 := s_fw_row (z := zb Y n) (by omega)
          have f2 := s_fw_col (z := zb Y n) (by omega)
          have g1 := s_f_bd hz (b := s_r1 (zb Y n)) (by omega)
          have g2 := s_f_bd hz (b := 6 + s_c1 (zb Y n)) (by omega)
          omega
      have hob : gOb 6 Y (n : Int) r c k = 0 := by rw [ob6]; exact om0
      obtain ⟨m1, m2, m3, m4, m5⟩ := s_om_0 hz (by omega) om0
      have f1 := s_fw_row (z := zb Y n) (by omega)
      have f2 := s_fw_col (z := zb Y n) (by omega)
      have g1 := s_f_bd hz (b := s_r1 (zb Y n)) (by omega)
      have g2 := s_f_bd hz (b := 6 + s_c1 (zb Y n)) (by omega)
      have b5 : -1 ≤ zb Y n (20 + (8 * s_r1 (zb Y n) + s_c1 (zb Y n))) ∧ zb Y n (20 + (8 * s_r1 (zb Y n) + s_c1 (zb Y n))) ≤ 9 := q5 (8 * s_r1 (zb Y n) + s_c1 (zb Y n)) (by omega)
      refine x_aload_0 K dX7_doMend_37 ?_
      refine x_iload_1 K dX7_doMend_38 ?_
      refine x_iconst K dX7_doMend_39 ?_
      refine x_callV2 K (c7_wrongFirst_r Y h hY n hn (by omega)) mtX7_wrongFirst miX7_wrongFirst rc14 ⟨by decide, (by decide)⟩ lkRX7_172 ⟨by decide, by decide, by decide⟩ rfl (Nat.le_of_ble_eq_true rfl) dX7_doMend_40 ?_
      refine x_istore_3 K dX7_doMend_43 rfl ?_
      refine x_aload_0 K dX7_doMend_44 ?_
      refine x_iload_1 K dX7_doMend_45 ?_
      refine x_iconst K dX7_doMend_46 ?_
      refine x_callV2 K (c7_wrongFirst_c Y h hY n hn (by omega)) mtX7_wrongFirst miX7_wrongFirst rc14 ⟨by decide, (by decide)⟩ lkRX7_172 ⟨by decide, by decide, by decide⟩ rfl (Nat.le_of_ble_eq_true rfl) dX7_doMend_47 ?_
      refine x_istore_4 K dX7_doMend_50 rfl ?_
      refine x_aload_0 K dX7_doMend_52 ?_
      refine x_iload_1 K dX7_doMend_53 ?_
      refine x_iload_3 K dX7_doMend_54 ?_
      refine x_iload_4 K dX7_doMend_55 ?_
      refine x_aload_0 K dX7_doMend_57 ?_
      refine x_iload_1 K dX7_doMend_58 ?_
      refine x_iload_3 K dX7_doMend_59 ?_
      refine x_iload_4 K dX7_doMend_60 ?_
      refine x_callV3 K (c7_sign1 Y h n (by omega) (s_r1 (zb Y n)) (s_c1 (zb Y n)) (by omega) (by omega)) mtX7_sign1 miX7_sign1 rc14 ⟨by decide, (by decide)⟩ lkRX7_88 ⟨by decide, by decide, by decide⟩ rfl (Nat.le_of_ble_eq_true rfl) dX7_doMend_62 ?_
      refine x_aload_0 K dX7_doMend_65 ?_
      refine x_iload_1 K dX7_doMend_66 ?_
      refine x_iconst K dX7_doMend_67 ?_
      refine x_iload_3 K dX7_doMend_68 ?_
      refine x_callV3c K (c7_faultOf_r Y h hY n hn (s_r1 (zb Y n)) (by omega)) mtX7_faultOf miX7_faultOf rc14 ⟨by decide, (by decide)⟩ lkRX7_114 ⟨by decide, by decide, by decide⟩ rfl (Nat.le_of_ble_eq_true rfl) dX7_doMend_69 ?_
      refine x_iadd K dX7_doMend_72 ?_
      refine x_bipush K dX7_doMend_73 rfl ?_
      have msm := s_sm_no hz m2 (r := s_r1 (zb Y n)) (c := s_c1 (zb Y n)) (by omega) (by omega)
      refine x_irem K (by omega) dX7_doMend_75 ?_
      refine x_callV4v K (c7_setSign Y h n (by omega) (s_r1 (zb Y n)) (s_c1 (zb Y n)) (by omega) (by omega) ((zb Y n (20 + (8 * (s_r1 (zb Y n)) + (s_c1 (zb Y n)))) + s_f (zb Y n) (s_r1 (zb Y n))) % 10)) mtX7_setSign miX7_setSign rc14 ⟨by decide, (by decide)⟩ lkRX7_140 ⟨by decide, by decide, by decide⟩ rfl (Nat.le_of_ble_eq_true rfl) dX7_doMend_76 ?_
      refine x_aload_0 K dX7_doMend_79 ?_
      refine x_iload_1 K dX7_doMend_80 ?_
      refine x_iconst K dX7_doMend_81 ?_
      refine x_aload_0 K dX7_doMend_82 ?_
      refine x_iload_1 K dX7_doMend_83 ?_
      refine x_iconst K dX7_doMend_84 ?_
      refine x_callV2 K (c7_of (ySet Y n (zset (zb Y n) (s_r1 (zb Y n)) (s_c1 (zb Y n)) ((zb Y n (20 + (8 * (s_r1 (zb Y n)) + (s_c1 (zb Y n)))) + s_f (zb Y n) (s_r1 (zb Y n))) % 10))) (gMp_ms σ _) n 4 (by omega) (by omega)) mtX7_of miX7_of rc14 ⟨by decide, (by decide)⟩ lkRX7_69 ⟨by decide, by decide, by decide⟩ rfl (Nat.le_of_ble_eq_true rfl) dX7_doMend_85 ?_
      refine gWX.top (b := zb Y n 4) (by rw [zb_set _ _ _ (by omega), zset_at, if_neg (by omega)]) ?_
      refine x_iconst K dX7_doMend_88 ?_
      refine x_iadd K dX7_doMend_89 ?_
      refine x_callV3v K (c7_set (ySet Y n (zset (zb Y n) (s_r1 (zb Y n)) (s_c1 (zb Y n)) ((zb Y n (20 + (8 * (s_r1 (zb Y n)) + (s_c1 (zb Y n)))) + s_f (zb Y n) (s_r1 (zb Y n))) % 10))) (gMp_ms σ _) n 4 (by omega) (by omega) (zb Y n 4 + 1)) mtX7_set miX7_set rc14 ⟨by decide, (by decide)⟩ lkRX7_80 ⟨by decide, by decide, by decide⟩ rfl (Nat.le_of_ble_eq_true rfl) dX7_doMend_90 ?_
      refine gWX.eq (σ' := gMp σ (ySet Y n (zMend (zb Y n)))) (gMp_set2 σ Y (fun j hj => rfl)) ?_
      refine x_aload_0 K dX7_doMend_93 ?_
      refine x_getC K gfRX7_9 ⟨by decide, (by decide)⟩ dX7_doMend_94 ?_
      refine x_iconst K dX7_doMend_97 ?_
      refine x_dup2 K dX7_doMend_98 rfl rfl ?_
      refine x_iald K 3 rfl rfl ⟨by decide, by decide⟩ (by omega) dX7_doMend_99 ?_
      refine gWX.top (b := Y 3) (by rw [gMp_at, if_pos ⟨rfl, rfl, by omega⟩, ySet_lo _ _ _ (by omega)]) ?_
      refine x_iconst K dX7_doMend_100 ?_
      refine x_iadd K dX7_doMend_101 ?_
      refine x_iast K 3 rfl rfl ⟨by decide, by decide⟩ (by omega) dX7_doMend_102 ?_
      refine gWX.eq (σ' := gMp σ (ySet (yF Y 3 (Y 3 + 1)) n (zMend (zb Y n)))) (by rw [gMp_uu σ _ (by omega), yF_ySet _ _ _ (by omega)]) ?_
      refine x_bipush K dX7_doMend_103 rfl ?_
      refine x_iload_3 K dX7_doMend_105 ?_
      refine x_imul K dX7_doMend_106 ?_
      refine x_iload_4 K dX7_doMend_107 ?_
      refine x_iadd K dX7_doMend_109 ?_
      exact x_iret K hE rfl dX7_doMend_110 (by decide) (by decide) (gMA_0 hob) (gMO_0 hob)
    · have hob : gOb 6 Y (n : Int) r c k = 100 * (s_om (zb Y n) (n : Int) / 100) + s_om (zb Y n) (n : Int) % 100 := by rw [ob6]; omega
      refine x_aload_0 K dX7_doMend_24 ?_
      refine x_iconst K dX7_doMend_25 ?_
      refine x_iload_2 K dX7_doMend_26 ?_
      refine x_aload_0 K dX7_doMend_27 ?_
      refine x_iload_1 K dX7_doMend_28 ?_
      refine x_iload_2 K dX7_doMend_29 ?_
      refine x_callV2 K (c7_mendDetail Y h hY n hn (by omega)) mtX7_mendDetail miX7_mendDetail rc14 ⟨by decide, (by decide)⟩ lkRX7_178 ⟨by decide, by decide, by decide⟩ rfl (Nat.le_of_ble_eq_true rfl) dX7_doMend_30 ?_
      refine x_callV3 K (c7_refuse 2 (s_om (zb Y n) (n : Int) / 100) (s_om (zb Y n) (n : Int) % 100)) mtX7_refuse miX7_refuse rc14 ⟨by decide, (by decide)⟩ lkRX7_128 ⟨by decide, by decide, by decide⟩ rfl (Nat.le_of_ble_eq_true rfl) dX7_doMend_33 ?_
      exact x_iret K hE rfl dX7_doMend_36 (by decide) (by decide) (gMA_n hob (by omega)) (gMO_r hob (by omega) (by omega) rfl)
  · have hh : ¬ gHit Y s := fun q => by rw [gB1_t q] at h5; omega
    have hob : gOb 6 Y s r c k = 1 := gOb_hit (by omega) hh
    refine x_aload_0 K dX7_doMend_8 ?_
    refine x_iconst K dX7_doMend_9 ?_
    refine x_callV1 K (c7_fails 1) mtX7_fails miX7_fails rc14 ⟨by decide, (by decide)⟩ lkRX7_124 ⟨by decide, by decide, by decide⟩ rfl (Nat.le_of_ble_eq_true rfl) dX7_doMend_10 ?_
    exact x_iret K hE rfl dX7_doMend_13 (by decide) (by decide) (gMA_n hob (by omega)) (gMO_f hob (by omega))
theorem gCp_mp {σ : gS} {Y : Nat → Int} (h : gMs σ Y) {n m : Nat} (hn : n < 5) (hm : m < 5) : gCp σ 15 0 15 0 (5 + 68 * n) (5 + 68 * m) 68 = gMp σ (ySet Y m (zb Y n)) := gS_ext (fun a b c => by
  rw [gCp_at, gMp_at, ySet_at]
  by_cases q : a = 15 ∧ b = 0 ∧ 5 + 68 * m ≤ c ∧ c < 5 + 68 * m + 68
  · rw [if_pos q, if_pos ⟨q.1, q.2.1, by omega⟩, if_pos (by omega), zb_at]
    exact h _ (by omega)
  · rw [if_neg q]
    by_cases q2 : a = 15 ∧ b = 0 ∧ c < 345
    · rw [if_pos q2, if_neg (by omega), q2.1, q2.2.1]; exact h c q2.2.2
    · rw [if_neg q2]) rfl
theorem zCopy_at (z : Nat → Int) (n : Int) (j : Nat) : (if j = 5 then 0 else if j = 4 then 0 else if j = 3 then n else z j) = zCopy z n j := by
  unfold zCopy
  by_cases q3 : j = 3
  · rw [if_neg (by omega), if_neg (by omega), if_pos q3, if_pos q3]
  · rw [if_neg q3, if_neg q3]
    by_cases q4 : j = 4
    · rw [if_neg (by omega), if_pos q4, if_pos q4]
    · rw [if_neg q4, if_neg q4]
theorem c7_doCopy {E : gE} {σ : gS} (Y : Nat → Int) (h : gMs σ Y) (hY : gY Y) (s r c k : Int) (hs : -2147483648 ≤ s ∧ s < 2147483648) : gCt E mX7_doCopy 10 0 [rf 14 0, iv s] σ (.inl (some (iv (gMA 5 Y s r c k)))) (gMO 5 σ Y s r c k) := by
  refine gCt_of (L := [some (rf 14 0), some (iv s), none]) (by decide +kernel) rfl rfl (Nat.le_of_ble_eq_true rfl) (fun X K hE => ?_)
  have hY0 := hY.1
  refine x_aload_0 K dX7_doCopy_0 ?_
  refine x_iload_1 K dX7_doCopy_1 ?_
  refine x_callV1 K (c7_isScroll Y h hY s hs) mtX7_isScroll miX7_isScroll rc14 ⟨by decide, (by decide)⟩ lkRX7_65 ⟨by decide, by decide, by decide⟩ rfl (Nat.le_of_ble_eq_true rfl) dX7_doCopy_2 ?_
  have b1 := gB1_bd (gHit Y s)
  refine x_if_ne (tgt := 14) K (by omega) dX7_doCopy_5 (by decide) (fun h5 => ?_) (fun h5 => ?_)
  · have hh : gHit Y s := Classical.byContradiction (fun q => h5 (gB1_f q))
    obtain ⟨n, rfl⟩ : ∃ n : Nat, s = (n : Int) := ⟨s.toNat, by omega⟩
    have hn : (n : Int) < Y 0 := hh.2
    have hY0 := hY.1
    have hz := hY.2 n hn
    have ⟨q0, q1, q2, q3, q4, q5, q6, q7, q8⟩ := hz
    refine x_aload_0 K dX7_doCopy_14 ?_
    refine x_getC K gfRX7_9 ⟨by decide, (by decide)⟩ dX7_doCopy_15 ?_
    refine x_iconst K dX7_doCopy_18 ?_
    refine x_iald K 0 rfl rfl ⟨by decide, by decide⟩ (by omega) dX7_doCopy_19 ?_
    obtain ⟨m, hm0⟩ : ∃ m : Nat, Y 0 = (m : Int) := ⟨(Y 0).toNat, by omega⟩
    refine gWX.top (b := (m : Int)) ((h 0 (by omega)).trans hm0) ?_
    have ob5 : gOb 5 Y (n : Int) r c k = o_ad Y := gOb_5 hh
    refine x_istore_2 K dX7_doCopy_20 rfl ?_
    refine x_iload_2 K dX7_doCopy_21 ?_
    refine x_iconst K dX7_doCopy_22 ?_
    refine x_icmp_ne (tgt := 34) K (by omega) dX7_doCopy_23 (by decide) (fun h23 => ?_) (fun h23 => ?_)
    · have hob : gOb 5 Y (n : Int) r c k = 0 := by rw [ob5]; exact if_neg (by omega)
      refine x_aload_0 K dX7_doCopy_34 ?_
      refine x_getC K gfRX7_9 ⟨by decide, (by decide)⟩ dX7_doCopy_35 ?_
      refine x_iconst K dX7_doCopy_38 ?_
      refine x_bipush K dX7_doCopy_39 rfl ?_
      refine x_iload_1 K dX7_doCopy_41 ?_
      refine x_imul K dX7_doCopy_42 ?_
      refine x_iadd K dX7_doCopy_43 ?_
      refine x_aload_0 K dX7_doCopy_44 ?_
      refine x_getC K gfRX7_9 ⟨by decide, (by decide)⟩ dX7_doCopy_45 ?_
      refine x_iconst K dX7_doCopy_48 ?_
      refine x_bipush K dX7_doCopy_49 rfl ?_
      refine x_iload_2 K dX7_doCopy_51 ?_
      refine x_imul K dX7_doCopy_52 ?_
      refine x_iadd K dX7_doCopy_53 ?_
      refine x_bipush K dX7_doCopy_54 rfl ?_
      refine x_copy K (5 + 68 * n) (5 + 68 * m) 68 (by omega) (by omega) rfl rfl rfl rfl ⟨by decide, by decide⟩ ⟨by decide, by decide⟩ (by omega) (by omega) lwRX7_42 g_acopy ⟨by decide, (Nat.le_of_ble_eq_true rfl)⟩ dX7_doCopy_56 ?_
      refine gWX.eq (σ' := gMp σ (ySet Y m (zb Y n))) (gCp_mp h (by omega) (by omega)) ?_
      refine x_aload_0 K dX7_doCopy_59 ?_
      refine x_iload_2 K dX7_doCopy_60 ?_
      refine x_iconst K dX7_doCopy_61 ?_
      refine x_iload_1 K dX7_doCopy_62 ?_
      refine x_callV3v K (c7_set (ySet Y m (zb Y n)) (gMp_ms σ _) m 3 (by omega) (by omega) (n : Int)) mtX7_set miX7_set rc14 ⟨by decide, (by decide)⟩ lkRX7_80 ⟨by decide, by decide, by decide⟩ rfl (Nat.le_of_ble_eq_true rfl) dX7_doCopy_63 ?_
      refine gWX.eq (σ' := gMp σ (ySet Y m (fun j => if j = 3 then (n : Int) else zb Y n j))) (gMp_set2 σ Y (fun j hj => rfl)) ?_
      refine x_aload_0 K dX7_doCopy_66 ?_
      refine x_iload_2 K dX7_doCopy_67 ?_
      refine x_iconst K dX7_doCopy_68 ?_
      refine x_iconst K dX7_doCopy_69 ?_
      refine x_callV3v K (c7_set (ySet Y m (fun j => if j = 3 then (n : Int) else zb Y n j)) (gMp_ms σ _) m 4 (by omega) (by omega) 0) mtX7_set miX7_set rc14 ⟨by decide, (by decide)⟩ lkRX7_80 ⟨by decide, by decide, by decide⟩ rfl (Nat.le_of_ble_eq_true rfl) dX7_doCopy_70 ?_
      refine gWX.eq (σ' := gMp σ (ySet Y m (fun j => if j = 4 then 0 else (fun j => if j = 3 then (n : Int) else zb Y n j) j))) (gMp_set2 σ Y (fun j hj => rfl)) ?_
      refine x_aload_0 K dX7_doCopy_73 ?_
      refine x_iload_2 K dX7_doCopy_74 ?_
      refine x_iconst K dX7_doCopy_75 ?_
      refine x_iconst K dX7_doCopy_76 ?_
      refine x_callV3v K (c7_set (ySet Y m (fun j => if j = 4 then 0 else (fun j => if j = 3 then (n : Int) else zb Y n j) j)) (gMp_ms σ _) m 5 (by omega) (by omega) 0) mtX7_set miX7_set rc14 ⟨by decide, (by decide)⟩ lkRX7_80 ⟨by decide, by decide, by decide⟩ rfl (Nat.le_of_ble_eq_true rfl) dX7_doCopy_77 ?_
      refine gWX.eq (σ' := gMp σ (ySet Y m (fun j => if j = 5 then 0 else (fun j => if j = 4 then 0 else (fun j => if j = 3 then (n : Int) else zb Y n j) j) j))) (gMp_set2 σ Y (fun j hj => rfl)) ?_
      refine x_aload_0 K dX7_doCopy_80 ?_
      refine x_getC K gfRX7_9 ⟨by decide, (by decide)⟩ dX7_doCopy_81 ?_
      refine x_iconst K dX7_doCopy_84 ?_
      refine x_dup2 K dX7_doCopy_85 rfl rfl ?_
      refine x_iald K 0 rfl rfl ⟨by decide, by decide⟩ (by omega) dX7_doCopy_86 ?_
      refine gWX.top (b := (m : Int)) (by rw [gMp_at, if_pos ⟨rfl, rfl, by omega⟩, ySet_lo _ _ _ (by omega), hm0]) ?_
      refine x_iconst K dX7_doCopy_87 ?_
      refine x_iadd K dX7_doCopy_88 ?_
      refine x_iast K 0 rfl rfl ⟨by decide, by decide⟩ (by omega) dX7_doCopy_89 ?_
      refine x_iload_2 K dX7_doCopy_90 ?_
      exact x_iret K hE rfl dX7_doCopy_91 (by decide) (by decide) (hm0.symm.trans (gMA_0 hob)) (by rw [gMp_uu σ _ (by omega), yF_ySet _ _ _ (by omega), ySet_cong _ _ (fun j hj => zCopy_at (zb Y n) (n : Int) j), ← gMO_0 hob, gCoY_5, hm0]; rfl)
    · have hob : gOb 5 Y (n : Int) r c k = 100 * 1 + 5 := by rw [ob5]; exact (if_pos (by omega)).trans (by omega)
      refine x_aload_0 K dX7_doCopy_26 ?_
      refine x_iconst K dX7_doCopy_27 ?_
      refine x_iconst K dX7_doCopy_28 ?_
      refine x_iconst K dX7_doCopy_29 ?_
      refine x_callV3 K (c7_refuse 2 1 5) mtX7_refuse miX7_refuse rc14 ⟨by decide, (by decide)⟩ lkRX7_128 ⟨by decide, by decide, by decide⟩ rfl (Nat.le_of_ble_eq_true rfl) dX7_doCopy_30 ?_
      exact x_iret K hE rfl dX7_doCopy_33 (by decide) (by decide) (gMA_n hob (by omega)) (gMO_r hob (by omega) (by omega) rfl)
  · have hh : ¬ gHit Y s := fun q => by rw [gB1_t q] at h5; omega
    have hob : gOb 5 Y s r c k = 1 := gOb_hit (by omega) hh
    refine x_aload_0 K dX7_doCopy_8 ?_
    refine x_iconst K dX7_doCopy_9 ?_
    refine x_callV1 K (c7_fails 1) mtX7_fails miX7_fails rc14 ⟨by decide, (by decide)⟩ lkRX7_124 ⟨by decide, by decide, by decide⟩ rfl (Nat.le_of_ble_eq_true rfl) dX7_doCopy_10 ?_
    exact x_iret K hE rfl dX7_doCopy_13 (by decide) (by decide) (gMA_n hob (by omega)) (gMO_f hob (by omega))
theorem c7_doSeal {E : gE} {σ : gS} (Y : Nat → Int) (h : gMs σ Y) (hY : gY Y) (s r c k : Int) (hs : -2147483648 ≤ s ∧ s < 2147483648) : gCt E mX7_doSeal 10 0 [rf 14 0, iv s] σ (.inl (some (iv (gMA 4 Y s r c k)))) (gMO 4 σ Y s r c k) := by
  refine gCt_of (L := [some (rf 14 0), some (iv s), none, none]) (by decide +kernel) rfl rfl (Nat.le_of_ble_eq_true rfl) (fun X K hE => ?_)
  have hY0 := hY.1
  refine x_aload_0 K dX7_doSeal_0 ?_
  refine x_iload_1 K dX7_doSeal_1 ?_
  refine x_callV1 K (c7_isScroll Y h hY s hs) mtX7_isScroll miX7_isScroll rc14 ⟨by decide, (by decide)⟩ lkRX7_65 ⟨by decide, by decide, by decide⟩ rfl (Nat.le_of_ble_eq_true rfl) dX7_doSeal_2 ?_
  have b1 := gB1_bd (gHit Y s)
  refine x_if_ne (tgt := 14) K (by omega) dX7_doSeal_5 (by decide) (fun h5 => ?_) (fun h5 => ?_)
  · have hh : gHit Y s := Classical.byContradiction (fun q => h5 (gB1_f q))
    obtain ⟨n, rfl⟩ : ∃ n : Nat, s = (n : Int) := ⟨s.toNat, by omega⟩
    have hn : (n : Int) < Y 0 := hh.2
    have hY0 := hY.1
    have hz := hY.2 n hn
    have ⟨q0, q1, q2, q3, q4, q5, q6, q7, q8⟩ := hz
    refine x_aload_0 K dX7_doSeal_14 ?_
    refine x_iload_1 K dX7_doSeal_15 ?_
    have bsm := s_sm_bd hz
    have ob4 : gOb 4 Y (n : Int) r c k = o_s (zb Y n) := gOb_4 hh
    refine x_callV1 K (c7_smudged Y h hY n hn) mtX7_smudged miX7_smudged rc14 ⟨by decide, (by decide)⟩ lkRX7_134 ⟨by decide, by decide, by decide⟩ rfl (Nat.le_of_ble_eq_true rfl) dX7_doSeal_16 ?_
    refine x_if_le (tgt := 34) K (by omega) dX7_doSeal_19 (by decide) (fun h19 => ?_) (fun h19 => ?_)
    · have hob : gOb 4 Y (n : Int) r c k = 0 := by rw [ob4]; exact if_neg (by omega)
      refine x_iconst K dX7_doSeal_34 ?_
      refine x_istore_2 K dX7_doSeal_35 rfl ?_
      refine x_iconst K dX7_doSeal_36 ?_
      refine x_istore_3 K dX7_doSeal_37 rfl ?_
      refine gLp (P := fun i : Nat => gWX X E 0 0 38 [some (rf 14 0), some (iv (n : Int)), some (iv (gSum (fun b => s_b (zb Y n) b % 10) i)), some (iv (i : Int))] [] (gMp σ (ySet Y n (zTl (zb Y n) i 0)))) ((zb Y n 0).toNat) (fun k0 => ?_) (fun i hi ih => ?_) ?_
      · exact gWX.to rfl (by rw [ySet_cong Y n (z := zTl (zb Y n) 0 0) (y := zb Y n) (fun j hj => if_neg (by omega)), ySet_self, gMp_self h]) (k0)
      · have hza := zTl_Z hz (k := i) (m := 0) (by omega) (by omega)
        have hYa := gY_S hY (n := n) hza
        have hna : (n : Int) < ySet Y n (zTl (zb Y n) i 0) 0 := by rw [ySet_lo _ _ _ (by omega)]; exact hn
        have hba : ∀ b, b < 14 → s_b (zb (ySet Y n (zTl (zb Y n) i 0)) n) b = s_b (zb Y n) b := fun b hb => (s_b_cong (fun j h1 h2 => zb_set Y n _ h2) hb).trans (zTl_b (zb Y n) (by omega) (by omega) hb)
        have hzb := zTl_Z hz (k := (i + 1)) (m := 0) (by omega) (by omega)
        have hYb := gY_S hY (n := n) hzb
        have hnb : (n : Int) < ySet Y n (zTl (zb Y n) (i + 1) 0) 0 := by rw [ySet_lo _ _ _ (by omega)]; exact hn
        have hbb : ∀ b, b < 14 → s_b (zb (ySet Y n (zTl (zb Y n) (i + 1) 0)) n) b = s_b (zb Y n) b := fun b hb => (s_b_cong (fun j h1 h2 => zb_set Y n _ h2) hb).trans (zTl_b (zb Y n) (by omega) (by omega) hb)
        have bsb := s_b_bd hz (b := i) (by omega)
        have bsum := gSum_le (f := fun b => s_b (zb Y n) b % 10) (c := 9) (fun k => by (try dsimp only); omega) i
        refine x_iload_3 K dX7_doSeal_38 ?_
        refine x_aload_0 K dX7_doSeal_39 ?_
        refine x_iload_1 K dX7_doSeal_40 ?_
        refine x_iconst K dX7_doSeal_41 ?_
        refine x_callV2 K (c7_of (ySet Y n (zTl (zb Y n) i 0)) (gMp_ms σ _) n 0 (by omega) (by omega)) mtX7_of miX7_of rc14 ⟨by decide, (by decide)⟩ lkRX7_69 ⟨by decide, by decide, by decide⟩ rfl (Nat.le_of_ble_eq_true rfl) dX7_doSeal_42 ?_
        refine gWX.top (b := zb Y n 0) (by rw [zb_set _ _ _ (by omega), zTl_at, if_neg (by omega)]) ?_
        refine x_icmp_ge (tgt := 80) K (by omega) dX7_doSeal_45 (by decide) (fun h45 => absurd h45 (by omega)) (fun h45 => ?_)
        refine x_aload_0 K dX7_doSeal_48 ?_
        refine x_iload_1 K dX7_doSeal_49 ?_
        refine x_bipush K dX7_doSeal_50 rfl ?_
        refine x_iload_3 K dX7_doSeal_52 ?_
        refine x_iadd K dX7_doSeal_53 ?_
        refine gWX.top (b := ((6 + i : Nat) : Int)) (by omega) ?_
        refine x_aload_0 K dX7_doSeal_54 ?_
        refine x_iload_1 K dX7_doSeal_55 ?_
        refine x_iconst K dX7_doSeal_56 ?_
        refine x_iload_3 K dX7_doSeal_57 ?_
        refine x_callV3 K (c7_sumOf_r _ (gMp_ms σ _) hYa n hna i (by omega)) mtX7_sumOf miX7_sumOf rc14 ⟨by decide, (by decide)⟩ lkRX7_108 ⟨by decide, by decide, by decide⟩ rfl (Nat.le_of_ble_eq_true rfl) dX7_doSeal_58 ?_
        refine gWX.top (b := s_b (zb Y n) i % 10) (by rw [hba i (by omega)]) ?_
        refine x_callV3v K (c7_set (ySet Y n (zTl (zb Y n) i 0)) (gMp_ms σ _) n (6 + i) (by omega) (by omega) (s_b (zb Y n) i % 10)) mtX7_set miX7_set rc14 ⟨by decide, (by decide)⟩ lkRX7_80 ⟨by decide, by decide, by decide⟩ rfl (Nat.le_of_ble_eq_true rfl) dX7_doSeal_61 ?_
        refine gWX.eq (σ' := gMp σ (ySet Y n (zTl (zb Y n) (i + 1) 0))) (gMp_set2 σ Y (fun j hj => ?_)) ?_
        · rw [zTl_at, zTl_at]
          by_cases q : j = 6 + i
          · rw [if_pos q, if_pos (by omega), q, show 6 + i - 6 = i by omega]
          · rw [if_neg q]
            by_cases q2 : (6 ≤ j ∧ j < 6 + i) ∨ (12 ≤ j ∧ j < 12 + 0)
            · rw [if_pos q2, if_pos (by omega)]
            · rw [if_neg q2, if_neg (by omega)]
        refine x_iload_2 K dX7_doSeal_64 ?_
        refine x_aload_0 K dX7_doSeal_65 ?_
        refine x_iload_1 K dX7_doSeal_66 ?_
        refine x_iconst K dX7_doSeal_67 ?_
        refine x_iload_3 K dX7_doSeal_68 ?_
        refine x_callV3 K (c7_sumOf_r _ (gMp_ms σ _) hYb n hnb i (by omega)) mtX7_sumOf miX7_sumOf rc14 ⟨by decide, (by decide)⟩ lkRX7_108 ⟨by decide, by decide, by decide⟩ rfl (Nat.le_of_ble_eq_true rfl) dX7_doSeal_69 ?_
        refine gWX.top (b := s_b (zb Y n) i % 10) (by rw [hbb i (by omega)]) ?_
        refine x_iadd K dX7_doSeal_72 ?_
        refine x_istore_2 K dX7_doSeal_73 rfl ?_
        refine x_iinc_3 K dX7_doSeal_74 rfl ?_
        refine x_goto (tgt := 38) K dX7_doSeal_77 (by decide) ?_
        exact gWX.to rfl rfl (ih)
      · refine x_iload_3 K dX7_doSeal_38 ?_
        refine x_aload_0 K dX7_doSeal_39 ?_
        refine x_iload_1 K dX7_doSeal_40 ?_
        refine x_iconst K dX7_doSeal_41 ?_
        refine x_callV2 K (c7_of (ySet Y n (zTl (zb Y n) (zb Y n 0).toNat 0)) (gMp_ms σ _) n 0 (by omega) (by omega)) mtX7_of miX7_of rc14 ⟨by decide, (by decide)⟩ lkRX7_69 ⟨by decide, by decide, by decide⟩ rfl (Nat.le_of_ble_eq_true rfl) dX7_doSeal_42 ?_
        refine gWX.top (b := zb Y n 0) (by rw [zb_set _ _ _ (by omega), zTl_at, if_neg (by omega)]) ?_
        refine x_icmp_ge (tgt := 80) K (by omega) dX7_doSeal_45 (by decide) (fun h45 => ?_) (fun h45 => absurd h45 (by omega))
        refine x_iconst K dX7_doSeal_80 ?_
        refine x_istore_3 K dX7_doSeal_81 rfl ?_
        refine gLp (P := fun i : Nat => gWX X E 0 0 82 [some (rf 14 0), some (iv (n : Int)), some (iv (gSum (fun b => s_b (zb Y n) b % 10) (zb Y n 0).toNat)), some (iv (i : Int))] [] (gMp σ (ySet Y n (zTl (zb Y n) (zb Y n 0).toNat i)))) ((zb Y n 1).toNat) (fun k0 => ?_) (fun i hi ih => ?_) ?_
        · exact gWX.to rfl rfl (k0)
        · have hza := zTl_Z hz (k := (zb Y n 0).toNat) (m := i) (by omega) (by omega)
          have hYa := gY_S hY (n := n) hza
          have hna : (n : Int) < ySet Y n (zTl (zb Y n) (zb Y n 0).toNat i) 0 := by rw [ySet_lo _ _ _ (by omega)]; exact hn
          have hba : ∀ b, b < 14 → s_b (zb (ySet Y n (zTl (zb Y n) (zb Y n 0).toNat i)) n) b = s_b (zb Y n) b := fun b hb => (s_b_cong (fun j h1 h2 => zb_set Y n _ h2) hb).trans (zTl_b (zb Y n) (by omega) (by omega) hb)
          have bsb := s_b_bd hz (b := 6 + i) (by omega)
          refine x_iload_3 K dX7_doSeal_82 ?_
          refine x_aload_0 K dX7_doSeal_83 ?_
          refine x_iload_1 K dX7_doSeal_84 ?_
          refine x_iconst K dX7_doSeal_85 ?_
          refine x_callV2 K (c7_of (ySet Y n (zTl (zb Y n) (zb Y n 0).toNat i)) (gMp_ms σ _) n 1 (by omega) (by omega)) mtX7_of miX7_of rc14 ⟨by decide, (by decide)⟩ lkRX7_69 ⟨by decide, by decide, by decide⟩ rfl (Nat.le_of_ble_eq_true rfl) dX7_doSeal_86 ?_
          refine gWX.top (b := zb Y n 1) (by rw [zb_set _ _ _ (by omega), zTl_at, if_neg (by omega)]) ?_
          refine x_icmp_ge (tgt := 114) K (by omega) dX7_doSeal_89 (by decide) (fun h89 => absurd h89 (by omega)) (fun h89 => ?_)
          refine x_aload_0 K dX7_doSeal_92 ?_
          refine x_iload_1 K dX7_doSeal_93 ?_
          refine x_bipush K dX7_doSeal_94 rfl ?_
          refine x_iload_3 K dX7_doSeal_96 ?_
          refine x_iadd K dX7_doSeal_97 ?_
          refine gWX.top (b := ((12 + i : Nat) : Int)) (by omega) ?_
          refine x_aload_0 K dX7_doSeal_98 ?_
          refine x_iload_1 K dX7_doSeal_99 ?_
          refine x_iconst K dX7_doSeal_100 ?_
          refine x_iload_3 K dX7_doSeal_101 ?_
          refine x_callV3 K (c7_sumOf_c _ (gMp_ms σ _) hYa n hna i (by omega)) mtX7_sumOf miX7_sumOf rc14 ⟨by decide, (by decide)⟩ lkRX7_108 ⟨by decide, by decide, by decide⟩ rfl (Nat.le_of_ble_eq_true rfl) dX7_doSeal_102 ?_
          refine gWX.top (b := s_b (zb Y n) (6 + i) % 10) (by rw [hba (6 + i) (by omega)]) ?_
          refine x_callV3v K (c7_set (ySet Y n (zTl (zb Y n) (zb Y n 0).toNat i)) (gMp_ms σ _) n (12 + i) (by omega) (by omega) (s_b (zb Y n) (6 + i) % 10)) mtX7_set miX7_set rc14 ⟨by decide, (by decide)⟩ lkRX7_80 ⟨by decide, by decide, by decide⟩ rfl (Nat.le_of_ble_eq_true rfl) dX7_doSeal_105 ?_
          refine gWX.eq (σ' := gMp σ (ySet Y n (zTl (zb Y n) (zb Y n 0).toNat (i + 1)))) (gMp_set2 σ Y (fun j hj => ?_)) ?_
          · rw [zTl_at, zTl_at]
            by_cases q : j = 12 + i
            · rw [if_pos q, if_pos (by omega), q, show 12 + i - 6 = 6 + i by omega]
            · rw [if_neg q]
              by_cases q2 : (6 ≤ j ∧ j < 6 + (zb Y n 0).toNat) ∨ (12 ≤ j ∧ j < 12 + i)
              · rw [if_pos q2, if_pos (by omega)]
              · rw [if_neg q2, if_neg (by omega)]
          refine x_iinc_3 K dX7_doSeal_108 rfl ?_
          refine x_goto (tgt := 82) K dX7_doSeal_111 (by decide) ?_
          exact gWX.to rfl rfl (ih)
        · refine x_iload_3 K dX7_doSeal_82 ?_
          refine x_aload_0 K dX7_doSeal_83 ?_
          refine x_iload_1 K dX7_doSeal_84 ?_
          refine x_iconst K dX7_doSeal_85 ?_
          refine x_callV2 K (c7_of (ySet Y n (zTl (zb Y n) (zb Y n 0).toNat (zb Y n 1).toNat)) (gMp_ms σ _) n 1 (by omega) (by omega)) mtX7_of miX7_of rc14 ⟨by decide, (by decide)⟩ lkRX7_69 ⟨by decide, by decide, by decide⟩ rfl (Nat.le_of_ble_eq_true rfl) dX7_doSeal_86 ?_
          refine gWX.top (b := zb Y n 1) (by rw [zb_set _ _ _ (by omega), zTl_at, if_neg (by omega)]) ?_
          refine x_icmp_ge (tgt := 114) K (by omega) dX7_doSeal_89 (by decide) (fun h89 => ?_) (fun h89 => absurd h89 (by omega))
          refine x_aload_0 K dX7_doSeal_114 ?_
          refine x_iload_1 K dX7_doSeal_115 ?_
          refine x_iconst K dX7_doSeal_116 ?_
          refine x_iconst K dX7_doSeal_117 ?_
          refine x_callV3v K (c7_set (ySet Y n (zTl (zb Y n) (zb Y n 0).toNat (zb Y n 1).toNat)) (gMp_ms σ _) n 2 (by omega) (by omega) 1) mtX7_set miX7_set rc14 ⟨by decide, (by decide)⟩ lkRX7_80 ⟨by decide, by decide, by decide⟩ rfl (Nat.le_of_ble_eq_true rfl) dX7_doSeal_118 ?_
          refine gWX.eq (σ' := gMp σ (ySet Y n (zTell (zb Y n)))) (gMp_set2 σ Y (fun j hj => zTl_end hz hj)) ?_
          refine x_iload_2 K dX7_doSeal_121 ?_
          exact x_iret K hE rfl dX7_doSeal_122 (by decide) (by decide) ((s_tt_w hz).trans (gMA_0 hob)) (gMO_0 hob)
    · have hob : gOb 4 Y (n : Int) r c k = 100 * 2 + s_sm (zb Y n) := by rw [ob4]; exact (if_pos (by omega)).trans (by omega)
      refine x_aload_0 K dX7_doSeal_22 ?_
      refine x_iconst K dX7_doSeal_23 ?_
      refine x_iconst K dX7_doSeal_24 ?_
      refine x_aload_0 K dX7_doSeal_25 ?_
      refine x_iload_1 K dX7_doSeal_26 ?_
      refine x_callV1 K (c7_smudged Y h hY n hn) mtX7_smudged miX7_smudged rc14 ⟨by decide, (by decide)⟩ lkRX7_134 ⟨by decide, by decide, by decide⟩ rfl (Nat.le_of_ble_eq_true rfl) dX7_doSeal_27 ?_
      refine x_callV3 K (c7_refuse 2 2 (s_sm (zb Y n))) mtX7_refuse miX7_refuse rc14 ⟨by decide, (by decide)⟩ lkRX7_128 ⟨by decide, by decide, by decide⟩ rfl (Nat.le_of_ble_eq_true rfl) dX7_doSeal_30 ?_
      exact x_iret K hE rfl dX7_doSeal_33 (by decide) (by decide) (gMA_n hob (by omega)) (gMO_r hob (by omega) (by omega) rfl)
  · have hh : ¬ gHit Y s := fun q => by rw [gB1_t q] at h5; omega
    have hob : gOb 4 Y s r c k = 1 := gOb_hit (by omega) hh
    refine x_aload_0 K dX7_doSeal_8 ?_
    refine x_iconst K dX7_doSeal_9 ?_
    refine x_callV1 K (c7_fails 1) mtX7_fails miX7_fails rc14 ⟨by decide, (by decide)⟩ lkRX7_124 ⟨by decide, by decide, by decide⟩ rfl (Nat.le_of_ble_eq_true rfl) dX7_doSeal_10 ?_
    exact x_iret K hE rfl dX7_doSeal_13 (by decide) (by decide) (gMA_n hob (by omega)) (gMO_f hob (by omega))
