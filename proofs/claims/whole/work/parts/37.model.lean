/-! ===== ScrollChecksModel: what it reads of a scroll ===== -/
def gMs (σ : gS) (Y : Nat → Int) : Prop := ∀ j, j < 345 → σ.1 15 0 j = Y j
/-- the world with the model's row of numbers put to Y -/
def gMp (σ : gS) (Y : Nat → Int) : gS := (fun a b c => if a = 15 ∧ b = 0 ∧ c < 345 then Y c else σ.1 a b c, σ.2)
theorem gMp_at (σ : gS) (Y : Nat → Int) (a b c : Nat) : (gMp σ Y).1 a b c = if a = 15 ∧ b = 0 ∧ c < 345 then Y c else σ.1 a b c := rfl
theorem gMp_ms (σ : gS) (Y : Nat → Int) : gMs (gMp σ Y) Y := fun j hj => if_pos ⟨rfl, rfl, hj⟩
theorem gMp_self {σ : gS} {Y : Nat → Int} (h : gMs σ Y) : gMp σ Y = σ := gS_ext (fun a b c => by
  rw [gMp_at]
  by_cases q : a = 15 ∧ b = 0 ∧ c < 345
  · rw [if_pos q, q.1, q.2.1]; exact (h c q.2.2).symm
  · rw [if_neg q]) rfl
theorem gMp_mp (σ : gS) (Y Y2 : Nat → Int) : gMp (gMp σ Y) Y2 = gMp σ Y2 := gS_ext (fun a b c => by
  rw [gMp_at, gMp_at, gMp_at]
  by_cases q : a = 15 ∧ b = 0 ∧ c < 345
  · rw [if_pos q, if_pos q]
  · rw [if_neg q, if_neg q, if_neg q]) rfl
theorem gMp_u {σ : gS} {Y : Nat → Int} (h : gMs σ Y) {j : Nat} (hj : j < 345) (v : Int) : gU σ 15 0 j v = gMp σ (yF Y j v) := gS_ext (fun a b c => by
  rw [gU_at, gMp_at, yF_at]
  by_cases q : a = 15 ∧ b = 0 ∧ c = j
  · rw [if_pos q, if_pos ⟨q.1, q.2.1, by omega⟩, if_pos q.2.2]
  · rw [if_neg q]
    by_cases q2 : a = 15 ∧ b = 0 ∧ c < 345
    · rw [if_pos q2, if_neg (by omega), q2.1, q2.2.1]; exact h c q2.2.2
    · rw [if_neg q2]) rfl
theorem gMp_cong (σ : gS) {Y Y2 : Nat → Int} (h : ∀ j, j < 345 → Y j = Y2 j) : gMp σ Y = gMp σ Y2 := gS_ext (fun a b c => by
  rw [gMp_at, gMp_at]
  by_cases q : a = 15 ∧ b = 0 ∧ c < 345
  · rw [if_pos q, if_pos q, h c q.2.2]
  · rw [if_neg q, if_neg q]) rfl
theorem yF_z (Y : Nat → Int) (n j : Nat) (hj : j < 68) (v : Int) : yF Y (5 + 68 * n + j) v = ySet Y n (fun k => if k = j then v else zb Y n k) := funext fun k => by
  rw [yF_at, ySet_at]
  by_cases q : 5 + 68 * n ≤ k ∧ k < 73 + 68 * n
  · rw [if_pos q]
    by_cases q2 : k = 5 + 68 * n + j
    · rw [if_pos q2, if_pos (by omega)]
    · rw [if_neg q2, if_neg (by omega), zb_at, show 5 + 68 * n + (k - (5 + 68 * n)) = k by omega]
  · rw [if_neg q, if_neg (by omega)]
theorem ySet_set (Y : Nat → Int) (n : Nat) (z y : Nat → Int) : ySet (ySet Y n z) n y = ySet Y n y := funext fun k => by
  rw [ySet_at, ySet_at, ySet_at]
  by_cases q : 5 + 68 * n ≤ k ∧ k < 73 + 68 * n
  · rw [if_pos q, if_pos q]
  · rw [if_neg q, if_neg q, if_neg q]
theorem ySet_cong (Y : Nat → Int) (n : Nat) {z y : Nat → Int} (h : ∀ j, j < 68 → z j = y j) : ySet Y n z = ySet Y n y := funext fun k => by
  rw [ySet_at, ySet_at]
  by_cases q : 5 + 68 * n ≤ k ∧ k < 73 + 68 * n
  · rw [if_pos q, if_pos q, h _ (by omega)]
  · rw [if_neg q, if_neg q]
/-- the signs of a scroll are all that its sums and smudges rest on -/
theorem s_rs_w {z : Nat → Int} (hz : gZ z) {r : Nat} (hr : r < 6) : gSum (fun c => max 0 (z (20 + (8 * r + c)))) (z 1).toNat = s_rs z r := by
  have h1 := hz.2.1
  have e := gSum_more (f := fun c => max 0 (z (20 + (8 * r + c)))) (n := (z 1).toNat) (8 - (z 1).toNat) (fun k h1 h2 => by
    try dsimp only
    rw [hz.2.2.2.2.2.2.1 r hr k (by omega) (Or.inr (by omega))]; rfl)
  rw [show (z 1).toNat + (8 - (z 1).toNat) = 8 by omega] at e
  exact e.symm
theorem s_cs_w {z : Nat → Int} (hz : gZ z) {c : Nat} (hc : c < 8) : gSum (fun r => max 0 (z (20 + (8 * r + c)))) (z 0).toNat = s_cs z c := by
  have h1 := hz.1
  have e := gSum_more (f := fun r => max 0 (z (20 + (8 * r + c)))) (n := (z 0).toNat) (6 - (z 0).toNat) (fun k h1 h2 => by
    try dsimp only
    rw [hz.2.2.2.2.2.2.1 k (by omega) c hc (Or.inl (by omega))]; rfl)
  rw [show (z 0).toNat + (6 - (z 0).toNat) = 6 by omega] at e
  exact e.symm
theorem s_rm_w {z : Nat → Int} (hz : gZ z) {r : Nat} (hr : r < 6) : gSum (fun c => gB1 (z (20 + (8 * r + c)) = -1)) (z 1).toNat = s_rm z r := by
  have h1 := hz.2.1
  have e := gSum_more (f := fun c => gB1 (z (20 + (8 * r + c)) = -1)) (n := (z 1).toNat) (8 - (z 1).toNat) (fun k h1 h2 => gB1_f (by
    rw [hz.2.2.2.2.2.2.1 r hr k (by omega) (Or.inr (by omega))]; omega))
  rw [show (z 1).toNat + (8 - (z 1).toNat) = 8 by omega] at e
  exact e.symm
theorem s_cm_w {z : Nat → Int} (hz : gZ z) {c : Nat} (hc : c < 8) : gSum (fun r => gB1 (z (20 + (8 * r + c)) = -1)) (z 0).toNat = s_cm z c := by
  have h1 := hz.1
  have e := gSum_more (f := fun r => gB1 (z (20 + (8 * r + c)) = -1)) (n := (z 0).toNat) (6 - (z 0).toNat) (fun k h1 h2 => gB1_f (by
    rw [hz.2.2.2.2.2.2.1 k (by omega) c hc (Or.inl (by omega))]; omega))
  rw [show (z 0).toNat + (6 - (z 0).toNat) = 6 by omega] at e
  exact e.symm
theorem s_b_r (z : Nat → Int) {r : Nat} (hr : r < 6) : s_b z r = s_rs z r := if_pos hr
theorem s_b_c (z : Nat → Int) (c : Nat) : s_b z (6 + c) = s_cs z c := by
  unfold s_b
  rw [if_neg (by omega), show 6 + c - 6 = c by omega]
theorem s_m_r (z : Nat → Int) {r : Nat} (hr : r < 6) : s_m z r = s_rm z r := if_pos hr
theorem s_m_c (z : Nat → Int) (c : Nat) : s_m z (6 + c) = s_cm z c := by
  unfold s_m
  rw [if_neg (by omega), show 6 + c - 6 = c by omega]
theorem s_wr_w {z : Nat → Int} (hz : gZ z) : gSum (fun b => gB1 (s_w z b = true)) (z 0).toNat = s_wr z := by
  have h1 := hz.1
  have e := gSum_more (f := fun b => gB1 (s_w z b = true)) (n := (z 0).toNat) (6 - (z 0).toNat) (fun k h1 h2 => gB1_f (by
    rw [s_w_off hz (by omega) (Or.inl ⟨by omega, by omega⟩)]; exact Bool.false_ne_true))
  rw [show (z 0).toNat + (6 - (z 0).toNat) = 6 by omega] at e
  exact e.symm
theorem s_wc_w {z : Nat → Int} (hz : gZ z) : gSum (fun b => gB1 (s_w z (6 + b) = true)) (z 1).toNat = s_wc z := by
  have h1 := hz.2.1
  have e := gSum_more (f := fun b => gB1 (s_w z (6 + b) = true)) (n := (z 1).toNat) (8 - (z 1).toNat) (fun k h1 h2 => gB1_f (by
    rw [s_w_off hz (by omega) (Or.inr ⟨by omega, by omega⟩)]; exact Bool.false_ne_true))
  rw [show (z 1).toNat + (8 - (z 1).toNat) = 8 by omega] at e
  exact e.symm
theorem s_r1_is {z : Nat → Int} {k : Nat} (hk : k < 6) (h : s_w z k = true) (hb : ∀ j, j < k → s_w z j = false) : s_r1 z = k := by
  obtain ⟨x, e, px, _, hx⟩ := gFst_le (p := s_w z) (n := 14 - 0) (a := 0) (k := k) (by omega) (by omega) h
  have e2 : s_r1 z = x := by unfold s_r1; rw [show s_fw z 0 = (x : Int) from e]; rfl
  rw [e2]
  by_cases q : x = k
  · exact q
  · rw [hb x (by omega)] at px; cases px
theorem s_c1_is {z : Nat → Int} {k : Nat} (hk : k < 8) (h : s_w z (6 + k) = true) (hb : ∀ j, j < k → s_w z (6 + j) = false) : s_c1 z = k := by
  obtain ⟨x, e, px, h6, hx⟩ := gFst_le (p := s_w z) (n := 14 - 6) (a := 6) (k := 6 + k) (by omega) (by omega) h
  have e2 : s_c1 z = x - 6 := by unfold s_c1; rw [show s_fw z 6 = (x : Int) from e]; rfl
  rw [e2]
  by_cases q : x = 6 + k
  · omega
  · have := hb (x - 6) (by omega)
    rw [show 6 + (x - 6) = x by omega, px] at this; cases this
theorem c7_in {E : gE} {σ : gS} (a b c : Int) (h : (-2147483648 ≤ a ∧ a < 2147483648) ∧ (-2147483648 ≤ b ∧ b < 2147483648) ∧ -2147483648 ≤ c ∧ c < 2147483648) : gCt E mX7_in 1 0 [iv a, iv b, iv c] σ (.inl (some (iv (gB1 (b ≤ a ∧ a ≤ c))))) σ := by
  refine gCt_of (L := [some (iv a), some (iv b), some (iv c)]) (by decide +kernel) rfl rfl (Nat.le_of_ble_eq_true rfl) (fun X K hE => ?_)
  refine x_iload_0 K dX7_in_0 ?_
  refine x_iload_1 K dX7_in_1 ?_
  refine x_icmp_lt (tgt := 14) K (by omega) dX7_in_2 (by decide) (fun h2 => ?_) (fun h2 => ?_)
  · refine x_iconst K dX7_in_14 ?_
    exact x_zret K hE rfl dX7_in_15 (by decide) (by decide) (by omega) (by unfold gB1; split <;> omega) rfl
  · refine x_iload_0 K dX7_in_5 ?_
    refine x_iload_2 K dX7_in_6 ?_
    refine x_icmp_gt (tgt := 14) K (by omega) dX7_in_7 (by decide) (fun h7 => ?_) (fun h7 => ?_)
    · refine x_iconst K dX7_in_14 ?_
      exact x_zret K hE rfl dX7_in_15 (by decide) (by decide) (by omega) (by unfold gB1; split <;> omega) rfl
    · refine x_iconst K dX7_in_10 ?_
      refine x_goto (tgt := 15) K dX7_in_11 (by decide) ?_
      exact x_zret K hE rfl dX7_in_15 (by decide) (by decide) (by omega) (by unfold gB1; split <;> omega) rfl
theorem c7_of {E : gE} {σ : gS} (Y : Nat → Int) (h : gMs σ Y) (n j : Nat) (hn5 : n < 5) (hj : j < 68) : gCt E mX7_of 2 0 [rf 14 0, iv (n : Int), iv (j : Int)] σ (.inl (some (iv (zb Y n j)))) σ := by
  refine gCt_of (L := [some (rf 14 0), some (iv (n : Int)), some (iv (j : Int))]) (by decide +kernel) rfl rfl (Nat.le_of_ble_eq_true rfl) (fun X K hE => ?_)
  refine x_aload_0 K dX7_of_0 ?_
  refine x_getC K gfRX7_9 ⟨by decide, (by decide)⟩ dX7_of_1 ?_
  refine x_iconst K dX7_of_4 ?_
  refine x_bipush K dX7_of_5 rfl ?_
  refine x_iload_1 K dX7_of_7 ?_
  refine x_imul K dX7_of_8 ?_
  refine x_iadd K dX7_of_9 ?_
  refine x_iload_2 K dX7_of_10 ?_
  refine x_iadd K dX7_of_11 ?_
  refine x_iald K (5 + 68 * n + j) (by omega) rfl ⟨by decide, by decide⟩ (by omega) dX7_of_12 ?_
  exact x_iret K hE rfl dX7_of_13 (by decide) (by decide) (h _ (by omega)) rfl
theorem c7_set {E : gE} {σ : gS} (Y : Nat → Int) (h : gMs σ Y) (n j : Nat) (hn5 : n < 5) (hj : j < 68) (v : Int) : gCt E mX7_set 2 0 [rf 14 0, iv (n : Int), iv (j : Int), iv v] σ (.inl none) (gMp σ (ySet Y n (fun k => if k = j then v else zb Y n k))) := by
  refine gCt_of (L := [some (rf 14 0), some (iv (n : Int)), some (iv (j : Int)), some (iv v)]) (by decide +kernel) rfl rfl (Nat.le_of_ble_eq_true rfl) (fun X K hE => ?_)
  refine x_aload_0 K dX7_set_0 ?_
  refine x_getC K gfRX7_9 ⟨by decide, (by decide)⟩ dX7_set_1 ?_
  refine x_iconst K dX7_set_4 ?_
  refine x_bipush K dX7_set_5 rfl ?_
  refine x_iload_1 K dX7_set_7 ?_
  refine x_imul K dX7_set_8 ?_
  refine x_iadd K dX7_set_9 ?_
  refine x_iload_2 K dX7_set_10 ?_
  refine x_iadd K dX7_set_11 ?_
  refine x_iload_3 K dX7_set_12 ?_
  refine x_iast K (5 + 68 * n + j) (by omega) rfl ⟨by decide, by decide⟩ (by omega) dX7_set_13 ?_
  exact x_vret K hE rfl dX7_set_14 (by decide) (by decide) (by rw [gMp_u h (by omega), yF_z Y n j hj])
theorem c7_isScroll {E : gE} {σ : gS} (Y : Nat → Int) (h : gMs σ Y) (hY : gY Y) (s : Int) (hs : -2147483648 ≤ s ∧ s < 2147483648) : gCt E mX7_isScroll 3 0 [rf 14 0, iv s] σ (.inl (some (iv (gB1 (gHit Y s))))) σ := by
  refine gCt_of (L := [some (rf 14 0), some (iv s)]) (by decide +kernel) rfl rfl (Nat.le_of_ble_eq_true rfl) (fun X K hE => ?_)
  have hY0 := hY.1
  refine x_iload_1 K dX7_isScroll_0 ?_
  refine x_iconst K dX7_isScroll_1 ?_
  refine x_aload_0 K dX7_isScroll_2 ?_
  refine x_getC K gfRX7_9 ⟨by decide, (by decide)⟩ dX7_isScroll_3 ?_
  refine x_iconst K dX7_isScroll_6 ?_
  refine x_iald K 0 rfl rfl ⟨by decide, by decide⟩ (by omega) dX7_isScroll_7 ?_
  refine gWX.top (b := Y 0) (h 0 (by omega)) ?_
  refine x_iconst K dX7_isScroll_8 ?_
  refine x_isub K dX7_isScroll_9 ?_
  refine x_callS3 K (c7_in s 0 (Y 0 - 1) (by omega)) mtX7_in msX7_in lkRX7_61 ⟨by decide, by decide, by decide⟩ rfl (Nat.le_of_ble_eq_true rfl) dX7_isScroll_10 ?_
  have bb := gB1_bd (0 ≤ s ∧ s ≤ Y 0 - 1)
  exact x_zret K hE rfl dX7_isScroll_13 (by decide) (by decide) (by omega) (gB1_iff (by unfold gHit; omega)) rfl
theorem c7_isRow {E : gE} {σ : gS} (Y : Nat → Int) (h : gMs σ Y) (hY : gY Y) (s r : Int) (hs : -2147483648 ≤ s ∧ s < 2147483648) (hr : -2147483648 ≤ r ∧ r < 2147483648) : gCt E mX7_isRow 4 0 [rf 14 0, iv s, iv r] σ (.inl (some (iv (gB1 (gRow Y s r))))) σ := by
  refine gCt_of (L := [some (rf 14 0), some (iv s), some (iv r)]) (by decide +kernel) rfl rfl (Nat.le_of_ble_eq_true rfl) (fun X K hE => ?_)
  have hY0 := hY.1
  refine x_aload_0 K dX7_isRow_0 ?_
  refine x_iload_1 K dX7_isRow_1 ?_
  refine x_callV1 K (c7_isScroll Y h hY s hs) mtX7_isScroll miX7_isScroll rc14 ⟨by decide, (by decide)⟩ lkRX7_65 ⟨by decide, by decide, by decide⟩ rfl (Nat.le_of_ble_eq_true rfl) dX7_isRow_2 ?_
  have b1 := gB1_bd (gHit Y s)
  refine x_if_eq (tgt := 28) K (by omega) dX7_isRow_5 (by decide) (fun h5 => ?_) (fun h5 => ?_)
  · have hh : ¬ gHit Y s := fun q => by rw [gB1_t q] at h5; omega
    refine x_iconst K dX7_isRow_28 ?_
    exact x_zret K hE rfl dX7_isRow_29 (by decide) (by decide) (by omega) (by first | exact (gB1_t hx).symm | exact (gB1_f hx).symm | exact (gB1_f (fun q => hh q.1)).symm) rfl
  · have hh : gHit Y s := Classical.byContradiction (fun q => h5 (gB1_f q))
    have hz := hY.2 s.toNat (by omega)
    have ⟨q0, q1, _⟩ := hz
    obtain ⟨s, rfl⟩ : ∃ s2 : Nat, s = (s2 : Int) := ⟨s.toNat, by omega⟩
    have q0 : 1 ≤ zb Y s 0 ∧ zb Y s 0 ≤ 6 := q0
    have q1 : 1 ≤ zb Y s 1 ∧ zb Y s 1 ≤ 8 := q1
    refine x_iload_2 K dX7_isRow_8 ?_
    refine x_iconst K dX7_isRow_9 ?_
    refine x_aload_0 K dX7_isRow_10 ?_
    refine x_iload_1 K dX7_isRow_11 ?_
    refine x_iconst K dX7_isRow_12 ?_
    refine x_callV2 K (c7_of Y h s 0 (by omega) (by omega)) mtX7_of miX7_of rc14 ⟨by decide, (by decide)⟩ lkRX7_69 ⟨by decide, by decide, by decide⟩ rfl (Nat.le_of_ble_eq_true rfl) dX7_isRow_13 ?_
    refine x_iconst K dX7_isRow_16 ?_
    refine x_isub K dX7_isRow_17 ?_
    refine x_callS3 K (c7_in r 0 (zb Y s 0 - 1) (by omega)) mtX7_in msX7_in lkRX7_61 ⟨by decide, by decide, by decide⟩ rfl (Nat.le_of_ble_eq_true rfl) dX7_isRow_18 ?_
    have b2 := gB1_bd (0 ≤ r ∧ r ≤ zb Y s 0 - 1)
    refine x_if_eq (tgt := 28) K (by omega) dX7_isRow_21 (by decide) (fun h21 => ?_) (fun h21 => ?_)
    · have hx : ¬ gRow Y (s : Int) r := fun q => by
        have q2 : r < zb Y s 0 := q.2.2
        have q3 := q.2.1
        rw [gB1_t (by omega)] at h21; omega
      refine x_iconst K dX7_isRow_28 ?_
      exact x_zret K hE rfl dX7_isRow_29 (by decide) (by decide) (by omega) (by first | exact (gB1_t hx).symm | exact (gB1_f hx).symm | exact (gB1_f (fun q => hh q.1)).symm) rfl
    · have hx : gRow Y (s : Int) r := ⟨hh, by
        have := Classical.byContradiction (fun q => h21 (gB1_f q))
        show 0 ≤ r ∧ r < zb Y s 0
        omega⟩
      refine x_iconst K dX7_isRow_24 ?_
      refine x_goto (tgt := 29) K dX7_isRow_25 (by decide) ?_
      exact x_zret K hE rfl dX7_isRow_29 (by decide) (by decide) (by omega) (by first | exact (gB1_t hx).symm | exact (gB1_f hx).symm | exact (gB1_f (fun q => hh q.1)).symm) rfl
theorem c7_isColumn {E : gE} {σ : gS} (Y : Nat → Int) (h : gMs σ Y) (hY : gY Y) (s c : Int) (hs : -2147483648 ≤ s ∧ s < 2147483648) (hc : -2147483648 ≤ c ∧ c < 2147483648) : gCt E mX7_isColumn 4 0 [rf 14 0, iv s, iv c] σ (.inl (some (iv (gB1 (gCol Y s c))))) σ := by
  refine gCt_of (L := [some (rf 14 0), some (iv s), some (iv c)]) (by decide +kernel) rfl rfl (Nat.le_of_ble_eq_true rfl) (fun X K hE => ?_)
  have hY0 := hY.1
  refine x_aload_0 K dX7_isColumn_0 ?_
  refine x_iload_1 K dX7_isColumn_1 ?_
  refine x_callV1 K (c7_isScroll Y h hY s hs) mtX7_isScroll miX7_isScroll rc14 ⟨by decide, (by decide)⟩ lkRX7_65 ⟨by decide, by decide, by decide⟩ rfl (Nat.le_of_ble_eq_true rfl) dX7_isColumn_2 ?_
  have b1 := gB1_bd (gHit Y s)
  refine x_if_eq (tgt := 28) K (by omega) dX7_isColumn_5 (by decide) (fun h5 => ?_) (fun h5 => ?_)
  · have hh : ¬ gHit Y s := fun q => by rw [gB1_t q] at h5; omega
    refine x_iconst K dX7_isColumn_28 ?_
    exact x_zret K hE rfl dX7_isColumn_29 (by decide) (by decide) (by omega) (by first | exact (gB1_t hx).symm | exact (gB1_f hx).symm | exact (gB1_f (fun q => hh q.1)).symm) rfl
  · have hh : gHit Y s := Classical.byContradiction (fun q => h5 (gB1_f q))
    have hz := hY.2 s.toNat (by omega)
    have ⟨q0, q1, _⟩ := hz
    obtain ⟨s, rfl⟩ : ∃ s2 : Nat, s = (s2 : Int) := ⟨s.toNat, by omega⟩
    have q0 : 1 ≤ zb Y s 0 ∧ zb Y s 0 ≤ 6 := q0
    have q1 : 1 ≤ zb Y s 1 ∧ zb Y s 1 ≤ 8 := q1
    refine x_iload_2 K dX7_isColumn_8 ?_
    refine x_iconst K dX7_isColumn_9 ?_
    refine x_aload_0 K dX7_isColumn_10 ?_
    refine x_iload_1 K dX7_isColumn_11 ?_
    refine x_iconst K dX7_isColumn_12 ?_
    refine x_callV2 K (c7_of Y h s 1 (by omega) (by omega)) mtX7_of miX7_of rc14 ⟨by decide, (by decide)⟩ lkRX7_69 ⟨by decide, by decide, by decide⟩ rfl (Nat.le_of_ble_eq_true rfl) dX7_isColumn_13 ?_
    refine x_iconst K dX7_isColumn_16 ?_
    refine x_isub K dX7_isColumn_17 ?_
    refine x_callS3 K (c7_in c 0 (zb Y s 1 - 1) (by omega)) mtX7_in msX7_in lkRX7_61 ⟨by decide, by decide, by decide⟩ rfl (Nat.le_of_ble_eq_true rfl) dX7_isColumn_18 ?_
    have b2 := gB1_bd (0 ≤ c ∧ c ≤ zb Y s 1 - 1)
    refine x_if_eq (tgt := 28) K (by omega) dX7_isColumn_21 (by decide) (fun h21 => ?_) (fun h21 => ?_)
    · have hx : ¬ gCol Y (s : Int) c := fun q => by
        have q2 : c < zb Y s 1 := q.2.2
        have q3 := q.2.1
        rw [gB1_t (by omega)] at h21; omega
      refine x_iconst K dX7_isColumn_28 ?_
      exact x_zret K hE rfl dX7_isColumn_29 (by decide) (by decide) (by omega) (by first | exact (gB1_t hx).symm | exact (gB1_f hx).symm | exact (gB1_f (fun q => hh q.1)).symm) rfl
    · have hx : gCol Y (s : Int) c := ⟨hh, by
        have := Classical.byContradiction (fun q => h21 (gB1_f q))
        show 0 ≤ c ∧ c < zb Y s 1
        omega⟩
      refine x_iconst K dX7_isColumn_24 ?_
      refine x_goto (tgt := 29) K dX7_isColumn_25 (by decide) ?_
      exact x_zret K hE rfl dX7_isColumn_29 (by decide) (by decide) (by omega) (by first | exact (gB1_t hx).symm | exact (gB1_f hx).symm | exact (gB1_f (fun q => hh q.1)).symm) rfl
theorem c7_isCell {E : gE} {σ : gS} (Y : Nat → Int) (h : gMs σ Y) (hY : gY Y) (s r c : Int) (hs : -2147483648 ≤ s ∧ s < 2147483648) (hr : -2147483648 ≤ r ∧ r < 2147483648) (hc : -2147483648 ≤ c ∧ c < 2147483648) : gCt E mX7_isCell 5 0 [rf 14 0, iv s, iv r, iv c] σ (.inl (some (iv (gB1 (gCel Y s r c))))) σ := by
  refine gCt_of (L := [some (rf 14 0), some (iv s), some (iv r), some (iv c)]) (by decide +kernel) rfl rfl (Nat.le_of_ble_eq_true rfl) (fun X K hE => ?_)
  refine x_aload_0 K dX7_isCell_0 ?_
  refine x_iload_1 K dX7_isCell_1 ?_
  refine x_iload_2 K dX7_isCell_2 ?_
  refine x_callV2 K (c7_isRow Y h hY s r hs hr) mtX7_isRow miX7_isRow rc14 ⟨by decide, (by decide)⟩ lkRX7_73 ⟨by decide, by decide, by decide⟩ rfl (Nat.le_of_ble_eq_true rfl) dX7_isCell_3 ?_
  have b1 := gB1_bd (gRow Y s r)
  refine x_if_eq (tgt := 22) K (by omega) dX7_isCell_6 (by decide) (fun h6 => ?_) (fun h6 => ?_)
  · have hx : ¬ gCel Y s r c := fun q => by rw [gB1_t ⟨q.1, q.2.1⟩] at h6; omega
    refine x_iconst K dX7_isCell_22 ?_
    exact x_zret K hE rfl dX7_isCell_23 (by decide) (by decide) (by omega) (by first | exact (gB1_t hx).symm | exact (gB1_f hx).symm) rfl
  · have h1 : gRow Y s r := Classical.byContradiction (fun q => h6 (gB1_f q))
    refine x_aload_0 K dX7_isCell_9 ?_
    refine x_iload_1 K dX7_isCell_10 ?_
    refine x_iload_3 K dX7_isCell_11 ?_
    refine x_callV2 K (c7_isColumn Y h hY s c hs hc) mtX7_isColumn miX7_isColumn rc14 ⟨by decide, (by decide)⟩ lkRX7_77 ⟨by decide, by decide, by decide⟩ rfl (Nat.le_of_ble_eq_true rfl) dX7_isCell_12 ?_
    have b2 := gB1_bd (gCol Y s c)
    refine x_if_eq (tgt := 22) K (by omega) dX7_isCell_15 (by decide) (fun h15 => ?_) (fun h15 => ?_)
    · have hx : ¬ gCel Y s r c := fun q => by rw [gB1_t ⟨q.1, q.2.2⟩] at h15; omega
      refine x_iconst K dX7_isCell_22 ?_
      exact x_zret K hE rfl dX7_isCell_23 (by decide) (by decide) (by omega) (by first | exact (gB1_t hx).symm | exact (gB1_f hx).symm) rfl
    · have h2 : gCol Y s c := Classical.byContradiction (fun q => h15 (gB1_f q))
      have hx : gCel Y s r c := ⟨h1.1, h1.2, h2.2⟩
      refine x_iconst K dX7_isCell_18 ?_
      refine x_goto (tgt := 23) K dX7_isCell_19 (by decide) ?_
      exact x_zret K hE rfl dX7_isCell_23 (by decide) (by decide) (by omega) (by first | exact (gB1_t hx).symm | exact (gB1_f hx).symm) rfl
theorem c7_sign1 {E : gE} {σ : gS} (Y : Nat → Int) (h : gMs σ Y) (n : Nat) (hn5 : n < 5) (r c : Nat) (hr : r < 6) (hc : c < 8) : gCt E mX7_sign1 3 0 [rf 14 0, iv (n : Int), iv (r : Int), iv (c : Int)] σ (.inl (some (iv (zb Y n (20 + (8 * r + c)))))) σ := by
  refine gCt_of (L := [some (rf 14 0), some (iv (n : Int)), some (iv (r : Int)), some (iv (c : Int))]) (by decide +kernel) rfl rfl (Nat.le_of_ble_eq_true rfl) (fun X K hE => ?_)
  refine x_aload_0 K dX7_sign1_0 ?_
  refine x_iload_1 K dX7_sign1_1 ?_
  refine x_bipush K dX7_sign1_2 rfl ?_
  refine x_bipush K dX7_sign1_4 rfl ?_
  refine x_iload_2 K dX7_sign1_6 ?_
  refine x_imul K dX7_sign1_7 ?_
  refine x_iadd K dX7_sign1_8 ?_
  refine x_iload_3 K dX7_sign1_9 ?_
  refine x_iadd K dX7_sign1_10 ?_
  refine gWX.top (b := ((20 + (8 * r + c) : Nat) : Int)) (by omega) ?_
  refine x_callV2 K (c7_of Y h n (20 + (8 * r + c)) (by omega) (by omega)) mtX7_of miX7_of rc14 ⟨by decide, (by decide)⟩ lkRX7_69 ⟨by decide, by decide, by decide⟩ rfl (Nat.le_of_ble_eq_true rfl) dX7_sign1_11 ?_
  exact x_iret K hE rfl dX7_sign1_14 (by decide) (by decide) rfl rfl
theorem c7_setSign {E : gE} {σ : gS} (Y : Nat → Int) (h : gMs σ Y) (n : Nat) (hn5 : n < 5) (r c : Nat) (hr : r < 6) (hc : c < 8) (v : Int) : gCt E mX7_setSign 3 0 [rf 14 0, iv (n : Int), iv (r : Int), iv (c : Int), iv v] σ (.inl none) (gMp σ (ySet Y n (zset (zb Y n) r c v))) := by
  refine gCt_of (L := [some (rf 14 0), some (iv (n : Int)), some (iv (r : Int)), some (iv (c : Int)), some (iv v)]) (by decide +kernel) rfl rfl (Nat.le_of_ble_eq_true rfl) (fun X K hE => ?_)
  refine x_aload_0 K dX7_setSign_0 ?_
  refine x_iload_1 K dX7_setSign_1 ?_
  refine x_bipush K dX7_setSign_2 rfl ?_
  refine x_bipush K dX7_setSign_4 rfl ?_
  refine x_iload_2 K dX7_setSign_6 ?_
  refine x_imul K dX7_setSign_7 ?_
  refine x_iadd K dX7_setSign_8 ?_
  refine x_iload_3 K dX7_setSign_9 ?_
  refine x_iadd K dX7_setSign_10 ?_
  refine gWX.top (b := ((20 + (8 * r + c) : Nat) : Int)) (by omega) ?_
  refine x_iload_4 K dX7_setSign_11 ?_
  refine x_callV3v K (c7_set Y h n (20 + (8 * r + c)) (by omega) (by omega) v) mtX7_set miX7_set rc14 ⟨by decide, (by decide)⟩ lkRX7_80 ⟨by decide, by decide, by decide⟩ rfl (Nat.le_of_ble_eq_true rfl) dX7_setSign_13 ?_
  exact x_vret K hE rfl dX7_setSign_16 (by decide) (by decide) rfl
theorem c7_isSealed {E : gE} {σ : gS} (Y : Nat → Int) (h : gMs σ Y) (hY : gY Y) (n : Nat) (hn : (n : Int) < Y 0) : gCt E mX7_isSealed 3 0 [rf 14 0, iv (n : Int)] σ (.inl (some (iv (gB1 (zb Y n 2 = 1))))) σ := by
  refine gCt_of (L := [some (rf 14 0), some (iv (n : Int))]) (by decide +kernel) rfl rfl (Nat.le_of_ble_eq_true rfl) (fun X K hE => ?_)
  have hY0 := hY.1
  have hz := hY.2 n hn
  have ⟨q0, q1, q2, q3, q4, q5, q6, q7, q8⟩ := hz
  refine x_aload_0 K dX7_isSealed_0 ?_
  refine x_iload_1 K dX7_isSealed_1 ?_
  refine x_iconst K dX7_isSealed_2 ?_
  refine x_callV2 K (c7_of Y h n 2 (by omega) (by omega)) mtX7_of miX7_of rc14 ⟨by decide, (by decide)⟩ lkRX7_69 ⟨by decide, by decide, by decide⟩ rfl (Nat.le_of_ble_eq_true rfl) dX7_isSealed_3 ?_
  refine x_iconst K dX7_isSealed_6 ?_
  refine x_icmp_ne (tgt := 14) K (by omega) dX7_isSealed_7 (by decide) (fun h7 => ?_) (fun h7 => ?_)
  · refine x_iconst K dX7_isSealed_14 ?_
    exact x_zret K hE rfl dX7_isSealed_15 (by decide) (by decide) (by omega) (by unfold gB1; split <;> omega) rfl
  · refine x_iconst K dX7_isSealed_10 ?_
    refine x_goto (tgt := 15) K dX7_isSealed_11 (by decide) ?_
    exact x_zret K hE rfl dX7_isSealed_15 (by decide) (by decide) (by omega) (by unfold gB1; split <;> omega) rfl
theorem c7_length_r {E : gE} {σ : gS} (Y : Nat → Int) (h : gMs σ Y) (n : Nat) (hn5 : n < 5) : gCt E mX7_length 3 0 [rf 14 0, iv (n : Int), iv 1] σ (.inl (some (iv (zb Y n 1)))) σ := by
  refine gCt_of (L := [some (rf 14 0), some (iv (n : Int)), some (iv 1)]) (by decide +kernel) rfl rfl (Nat.le_of_ble_eq_true rfl) (fun X K hE => ?_)
  refine x_aload_0 K dX7_length_0 ?_
  refine x_iload_1 K dX7_length_1 ?_
  refine x_iload_2 K dX7_length_2 ?_
  refine x_if_eq (tgt := 10) K (by omega) dX7_length_3 (by decide) (fun h3 => absurd h3 (by omega)) (fun h3 => ?_)
  refine x_iconst K dX7_length_6 ?_
  refine x_goto (tgt := 11) K dX7_length_7 (by decide) ?_
  refine x_callV2 K (c7_of Y h n 1 (by omega) (by omega)) mtX7_of miX7_of rc14 ⟨by decide, (by decide)⟩ lkRX7_69 ⟨by decide, by decide, by decide⟩ rfl (Nat.le_of_ble_eq_true rfl) dX7_length_11 ?_
  exact x_iret K hE rfl dX7_length_14 (by decide) (by decide) rfl rfl
theorem c7_length_c {E : gE} {σ : gS} (Y : Nat → Int) (h : gMs σ Y) (n : Nat) (hn5 : n < 5) : gCt E mX7_length 3 0 [rf 14 0, iv (n : Int), iv 0] σ (.inl (some (iv (zb Y n 0)))) σ := by
  refine gCt_of (L := [some (rf 14 0), some (iv (n : Int)), some (iv 0)]) (by decide +kernel) rfl rfl (Nat.le_of_ble_eq_true rfl) (fun X K hE => ?_)
  refine x_aload_0 K dX7_length_0 ?_
  refine x_iload_1 K dX7_length_1 ?_
  refine x_iload_2 K dX7_length_2 ?_
  refine x_if_eq (tgt := 10) K (by omega) dX7_length_3 (by decide) (fun h3 => ?_) (fun h3 => absurd rfl h3)
  refine x_iconst K dX7_length_10 ?_
  refine x_callV2 K (c7_of Y h n 0 (by omega) (by omega)) mtX7_of miX7_of rc14 ⟨by decide, (by decide)⟩ lkRX7_69 ⟨by decide, by decide, by decide⟩ rfl (Nat.le_of_ble_eq_true rfl) dX7_length_11 ?_
  exact x_iret K hE rfl dX7_length_14 (by decide) (by decide) rfl rfl
theorem c7_along_r {E : gE} {σ : gS} (Y : Nat → Int) (h : gMs σ Y) (n : Nat) (hn5 : n < 5) (r c : Nat) (hr : r < 6) (hc : c < 8) : gCt E mX7_along 4 0 [rf 14 0, iv (n : Int), iv 1, iv (r : Int), iv (c : Int)] σ (.inl (some (iv (zb Y n (20 + (8 * r + c)))))) σ := by
  refine gCt_of (L := [some (rf 14 0), some (iv (n : Int)), some (iv 1), some (iv (r : Int)), some (iv (c : Int))]) (by decide +kernel) rfl rfl (Nat.le_of_ble_eq_true rfl) (fun X K hE => ?_)
  refine x_iload_2 K dX7_along_0 ?_
  refine x_if_eq (tgt := 15) K (by omega) dX7_along_1 (by decide) (fun h1 => absurd h1 (by omega)) (fun h1 => ?_)
  refine x_aload_0 K dX7_along_4 ?_
  refine x_iload_1 K dX7_along_5 ?_
  refine x_iload_3 K dX7_along_6 ?_
  refine x_iload_4 K dX7_along_7 ?_
  refine x_callV3 K (c7_sign1 Y h n hn5 r c hr hc) mtX7_sign1 miX7_sign1 rc14 ⟨by decide, (by decide)⟩ lkRX7_88 ⟨by decide, by decide, by decide⟩ rfl (Nat.le_of_ble_eq_true rfl) dX7_along_9 ?_
  refine x_goto (tgt := 23) K dX7_along_12 (by decide) ?_
  exact x_iret K hE rfl dX7_along_23 (by decide) (by decide) rfl rfl
theorem c7_along_c {E : gE} {σ : gS} (Y : Nat → Int) (h : gMs σ Y) (n : Nat) (hn5 : n < 5) (r c : Nat) (hr : r < 6) (hc : c < 8) : gCt E mX7_along 4 0 [rf 14 0, iv (n : Int), iv 0, iv (c : Int), iv (r : Int)] σ (.inl (some (iv (zb Y n (20 + (8 * r + c)))))) σ := by
  refine gCt_of (L := [some (rf 14 0), some (iv (n : Int)), some (iv 0), some (iv (c : Int)), some (iv (r : Int))]) (by decide +kernel) rfl rfl (Nat.le_of_ble_eq_true rfl) (fun X K hE => ?_)
  refine x_iload_2 K dX7_along_0 ?_
  refine x_if_eq (tgt := 15) K (by omega) dX7_along_1 (by decide) (fun h1 => ?_) (fun h1 => absurd rfl h1)
  refine x_aload_0 K dX7_along_15 ?_
  refine x_iload_1 K dX7_along_16 ?_
  refine x_iload_4 K dX7_along_17 ?_
  refine x_iload_3 K dX7_along_19 ?_
  refine x_callV3 K (c7_sign1 Y h n hn5 r c hr hc) mtX7_sign1 miX7_sign1 rc14 ⟨by decide, (by decide)⟩ lkRX7_88 ⟨by decide, by decide, by decide⟩ rfl (Nat.le_of_ble_eq_true rfl) dX7_along_20 ?_
  exact x_iret K hE rfl dX7_along_23 (by decide) (by decide) rfl rfl
theorem c7_smudgedIn_r {E : gE} {σ : gS} (Y : Nat → Int) (h : gMs σ Y) (hY : gY Y) (n : Nat) (hn : (n : Int) < Y 0) (k : Nat) (hk : k < 6) : gCt E mX7_smudgedIn 5 0 [rf 14 0, iv (n : Int), iv 1, iv (k : Int)] σ (.inl (some (iv (s_m (zb Y n) k)))) σ := by
  refine gCt_of (L := [some (rf 14 0), some (iv (n : Int)), some (iv 1), some (iv (k : Int)), none, none]) (by decide +kernel) rfl rfl (Nat.le_of_ble_eq_true rfl) (fun X K hE => ?_)
  have hY0 := hY.1
  have hz := hY.2 n hn
  have ⟨q0, q1, q2, q3, q4, q5, q6, q7, q8⟩ := hz
  refine x_iconst K dX7_smudgedIn_0 ?_
  refine x_istore_4 K dX7_smudgedIn_1 rfl ?_
  refine x_iconst K dX7_smudgedIn_3 ?_
  refine x_istore_5 K dX7_smudgedIn_4 rfl ?_
  refine gLp (P := fun i : Nat => gWX X E 0 0 6 [some (rf 14 0), some (iv (n : Int)), some (iv 1), some (iv (k : Int)), some (iv (gSum (fun i => gB1 (zb Y n (20 + (8 * k + i)) = -1)) i)), some (iv (i : Int))] [] (σ)) ((zb Y n 1).toNat) (fun k0 => ?_) (fun i hi ih => ?_) ?_
  · exact gWX.to rfl rfl (k0)
  · refine x_iload_5 K dX7_smudgedIn_6 ?_
    refine x_aload_0 K dX7_smudgedIn_8 ?_
    refine x_iload_1 K dX7_smudgedIn_9 ?_
    refine x_iload_2 K dX7_smudgedIn_10 ?_
    refine x_callV2 K (c7_length_r Y h n (by omega)) mtX7_length miX7_length rc14 ⟨by decide, (by decide)⟩ lkRX7_92 ⟨by decide, by decide, by decide⟩ rfl (Nat.le_of_ble_eq_true rfl) dX7_smudgedIn_11 ?_
    refine x_icmp_ge (tgt := 45) K (by omega) dX7_smudgedIn_14 (by decide) (fun h14 => absurd h14 (by omega)) (fun h14 => ?_)
    refine x_iload_4 K dX7_smudgedIn_17 ?_
    refine x_aload_0 K dX7_smudgedIn_19 ?_
    refine x_iload_1 K dX7_smudgedIn_20 ?_
    refine x_iload_2 K dX7_smudgedIn_21 ?_
    refine x_iload_3 K dX7_smudgedIn_22 ?_
    refine x_iload_5 K dX7_smudgedIn_23 ?_
    refine x_callV4 K (c7_along_r Y h n (by omega) k i (by omega) (by omega)) mtX7_along miX7_along rc14 ⟨by decide, (by decide)⟩ lkRX7_96 ⟨by decide, by decide, by decide⟩ rfl (Nat.le_of_ble_eq_true rfl) dX7_smudgedIn_25 ?_
    have b5 : -1 ≤ zb Y n (20 + (8 * k + i)) ∧ zb Y n (20 + (8 * k + i)) ≤ 9 := q5 _ (by omega)
    refine gTern (fun kt kf => x_if_ge (tgt := 35) K (by omega) dX7_smudgedIn_28 (by decide) kt kf) (fun k => x_iconst K dX7_smudgedIn_35 k) (fun k => x_iconst K dX7_smudgedIn_31 (x_goto K dX7_smudgedIn_32 (by decide) k)) ?_
    refine gWX.top (b := gB1 (zb Y n (20 + (8 * k + i)) = -1)) (by unfold gB1; split <;> split <;> omega) ?_
    refine x_iadd K dX7_smudgedIn_36 ?_
    refine x_istore_4 K dX7_smudgedIn_37 rfl ?_
    refine x_iinc_5 K dX7_smudgedIn_39 rfl ?_
    refine x_goto (tgt := 6) K dX7_smudgedIn_42 (by decide) ?_
    exact gWX.to rfl rfl (ih)
  · refine x_iload_5 K dX7_smudgedIn_6 ?_
    refine x_aload_0 K dX7_smudgedIn_8 ?_
    refine x_iload_1 K dX7_smudgedIn_9 ?_
    refine x_iload_2 K dX7_smudgedIn_10 ?_
    refine x_callV2 K (c7_length_r Y h n (by omega)) mtX7_length miX7_length rc14 ⟨by decide, (by decide)⟩ lkRX7_92 ⟨by decide, by decide, by decide⟩ rfl (Nat.le_of_ble_eq_true rfl) dX7_smudgedIn_11 ?_
    refine x_icmp_ge (tgt := 45) K (by omega) dX7_smudgedIn_14 (by decide) (fun h14 => ?_) (fun h14 => absurd h14 (by omega))
    refine x_iload_4 K dX7_smudgedIn_45 ?_
    exact x_iret K hE rfl dX7_smudgedIn_47 (by decide) (by decide) (by rw [s_rm_w hz hk, s_m_r _ hk]) rfl
theorem c7_sumOf_r {E : gE} {σ : gS} (Y : Nat → Int) (h : gMs σ Y) (hY : gY Y) (n : Nat) (hn : (n : Int) < Y 0) (k : Nat) (hk : k < 6) : gCt E mX7_sumOf 5 0 [rf 14 0, iv (n : Int), iv 1, iv (k : Int)] σ (.inl (some (iv (s_b (zb Y n) k % 10)))) σ := by
  refine gCt_of (L := [some (rf 14 0), some (iv (n : Int)), some (iv 1), some (iv (k : Int)), none, none]) (by decide +kernel) rfl rfl (Nat.le_of_ble_eq_true rfl) (fun X K hE => ?_)
  have hY0 := hY.1
  have hz := hY.2 n hn
  have ⟨q0, q1, q2, q3, q4, q5, q6, q7, q8⟩ := hz
  have bsb := s_b_bd hz (b := k) (by omega)
  refine x_iconst K dX7_sumOf_0 ?_
  refine x_istore_4 K dX7_sumOf_1 rfl ?_
  refine x_iconst K dX7_sumOf_3 ?_
  refine x_istore_5 K dX7_sumOf_4 rfl ?_
  refine gLp (P := fun i : Nat => gWX X E 0 0 6 [some (rf 14 0), some (iv (n : Int)), some (iv 1), some (iv (k : Int)), some (iv (gSum (fun i => max 0 (zb Y n (20 + (8 * k + i)))) i)), some (iv (i : Int))] [] (σ)) ((zb Y n 1).toNat) (fun k0 => ?_) (fun i hi ih => ?_) ?_
  · exact gWX.to rfl rfl (k0)
  · refine x_iload_5 K dX7_sumOf_6 ?_
    refine x_aload_0 K dX7_sumOf_8 ?_
    refine x_iload_1 K dX7_sumOf_9 ?_
    refine x_iload_2 K dX7_sumOf_10 ?_
    refine x_callV2 K (c7_length_r Y h n (by omega)) mtX7_length miX7_length rc14 ⟨by decide, (by decide)⟩ lkRX7_92 ⟨by decide, by decide, by decide⟩ rfl (Nat.le_of_ble_eq_true rfl) dX7_sumOf_11 ?_
    refine x_icmp_ge (tgt := 41) K (by omega) dX7_sumOf_14 (by decide) (fun h14 => absurd h14 (by omega)) (fun h14 => ?_)
    refine x_iload_4 K dX7_sumOf_17 ?_
    refine x_iconst K dX7_sumOf_19 ?_
    refine x_aload_0 K dX7_sumOf_20 ?_
    refine x_iload_1 K dX7_sumOf_21 ?_
    refine x_iload_2 K dX7_sumOf_22 ?_
    refine x_iload_3 K dX7_sumOf_23 ?_
    refine x_iload_5 K dX7_sumOf_24 ?_
    refine x_callV4 K (c7_along_r Y h n (by omega) k i (by omega) (by omega)) mtX7_along miX7_along rc14 ⟨by decide, (by decide)⟩ lkRX7_96 ⟨by decide, by decide, by decide⟩ rfl (Nat.le_of_ble_eq_true rfl) dX7_sumOf_26 ?_
    have b5 : -1 ≤ zb Y n (20 + (8 * k + i)) ∧ zb Y n (20 + (8 * k + i)) ≤ 9 := q5 _ (by omega)
    refine x_mmax K rfl (by omega) lwRX7_100 g_max ⟨by decide, (Nat.le_of_ble_eq_true rfl)⟩ ⟨by decide, by decide⟩ dX7_sumOf_29 ?_
    refine x_iadd K dX7_sumOf_32 ?_
    refine x_istore_4 K dX7_sumOf_33 rfl ?_
    refine x_iinc_5 K dX7_sumOf_35 rfl ?_
    refine x_goto (tgt := 6) K dX7_sumOf_38 (by decide) ?_
    exact gWX.to rfl rfl (ih)
  · refine x_iload_5 K dX7_sumOf_6 ?_
    refine x_aload_0 K dX7_sumOf_8 ?_
    refine x_iload_1 K dX7_sumOf_9 ?_
    refine x_iload_2 K dX7_sumOf_10 ?_
    refine x_callV2 K (c7_length_r Y h n (by omega)) mtX7_length miX7_length rc14 ⟨by decide, (by decide)⟩ lkRX7_92 ⟨by decide, by decide, by decide⟩ rfl (Nat.le_of_ble_eq_true rfl) dX7_sumOf_11 ?_
    refine x_icmp_ge (tgt := 41) K (by omega) dX7_sumOf_14 (by decide) (fun h14 => ?_) (fun h14 => absurd h14 (by omega))
    refine x_iload_4 K dX7_sumOf_41 ?_
    refine gWX.top (b := s_b (zb Y n) k) (by rw [s_rs_w hz hk, s_b_r _ hk]) ?_
    refine x_bipush K dX7_sumOf_43 rfl ?_
    refine x_irem K (by omega) dX7_sumOf_45 ?_
    exact x_iret K hE rfl dX7_sumOf_46 (by decide) (by decide) rfl rfl
theorem c7_told_r {E : gE} {σ : gS} (Y : Nat → Int) (h : gMs σ Y) (hY : gY Y) (n : Nat) (hn : (n : Int) < Y 0) (k : Nat) (hk : k < 6) : gCt E mX7_told 3 0 [rf 14 0, iv (n : Int), iv 1, iv (k : Int)] σ (.inl (some (iv (zb Y n (6 + k))))) σ := by
  refine gCt_of (L := [some (rf 14 0), some (iv (n : Int)), some (iv 1), some (iv (k : Int))]) (by decide +kernel) rfl rfl (Nat.le_of_ble_eq_true rfl) (fun X K hE => ?_)
  have hY0 := hY.1
  have hz := hY.2 n hn
  have ⟨q0, q1, q2, q3, q4, q5, q6, q7, q8⟩ := hz
  refine x_aload_0 K dX7_told_0 ?_
  refine x_iload_1 K dX7_told_1 ?_
  refine x_iload_2 K dX7_told_2 ?_
  refine x_if_eq (tgt := 11) K (by omega) dX7_told_3 (by decide) (fun h3 => absurd h3 (by omega)) (fun h3 => ?_)
  refine x_bipush K dX7_told_6 rfl ?_
  refine x_goto (tgt := 13) K dX7_told_8 (by decide) ?_
  refine x_iload_3 K dX7_told_13 ?_
  refine x_iadd K dX7_told_14 ?_
  refine gWX.top (b := ((6 + k : Nat) : Int)) (by omega) ?_
  refine x_callV2 K (c7_of Y h n (6 + k) (by omega) (by omega)) mtX7_of miX7_of rc14 ⟨by decide, (by decide)⟩ lkRX7_69 ⟨by decide, by decide, by decide⟩ rfl (Nat.le_of_ble_eq_true rfl) dX7_told_15 ?_
  exact x_iret K hE rfl dX7_told_18 (by decide) (by decide) (by first | rfl | (rw [show 12 + k = 6 + (6 + k) by omega])) rfl
theorem c7_faultOf_r {E : gE} {σ : gS} (Y : Nat → Int) (h : gMs σ Y) (hY : gY Y) (n : Nat) (hn : (n : Int) < Y 0) (k : Nat) (hk : k < 6) : gCt E mX7_faultOf 6 0 [rf 14 0, iv (n : Int), iv 1, iv (k : Int)] σ (.inl (some (iv (s_f (zb Y n) k)))) σ := by
  refine gCt_of (L := [some (rf 14 0), some (iv (n : Int)), some (iv 1), some (iv (k : Int))]) (by decide +kernel) rfl rfl (Nat.le_of_ble_eq_true rfl) (fun X K hE => ?_)
  have hY0 := hY.1
  have hz := hY.2 n hn
  have ⟨q0, q1, q2, q3, q4, q5, q6, q7, q8⟩ := hz
  have bsb := s_b_bd hz (b := k) (by omega)
  have bto := q4 k (by omega)
  refine x_aload_0 K dX7_faultOf_0 ?_
  refine x_iload_1 K dX7_faultOf_1 ?_
  refine x_iload_2 K dX7_faultOf_2 ?_
  refine x_iload_3 K dX7_faultOf_3 ?_
  refine x_callV3 K (c7_told_r Y h hY n hn k hk) mtX7_told miX7_told rc14 ⟨by decide, (by decide)⟩ lkRX7_105 ⟨by decide, by decide, by decide⟩ rfl (Nat.le_of_ble_eq_true rfl) dX7_faultOf_4 ?_
  refine x_aload_0 K dX7_faultOf_7 ?_
  refine x_iload_1 K dX7_faultOf_8 ?_
  refine x_iload_2 K dX7_faultOf_9 ?_
  refine x_iload_3 K dX7_faultOf_10 ?_
  refine x_callV3 K (c7_sumOf_r Y h hY n hn k hk) mtX7_sumOf miX7_sumOf rc14 ⟨by decide, (by decide)⟩ lkRX7_108 ⟨by decide, by decide, by decide⟩ rfl (Nat.le_of_ble_eq_true rfl) dX7_faultOf_11 ?_
  refine x_isub K dX7_faultOf_14 ?_
  refine x_bipush K dX7_faultOf_15 rfl ?_
  refine x_iadd K dX7_faultOf_17 ?_
  refine x_bipush K dX7_faultOf_18 rfl ?_
  refine x_irem K (by omega) dX7_faultOf_20 ?_
  exact x_iret K hE rfl dX7_faultOf_21 (by decide) (by decide) rfl rfl
theorem c7_isWrong_r {E : gE} {σ : gS} (Y : Nat → Int) (h : gMs σ Y) (hY : gY Y) (n : Nat) (hn : (n : Int) < Y 0) (k : Nat) (hk : k < 6) : gCt E mX7_isWrong 7 0 [rf 14 0, iv (n : Int), iv 1, iv (k : Int)] σ (.inl (some (iv (gB1 (s_w (zb Y n) k = true))))) σ := by
  refine gCt_of (L := [some (rf 14 0), some (iv (n : Int)), some (iv 1), some (iv (k : Int))]) (by decide +kernel) rfl rfl (Nat.le_of_ble_eq_true rfl) (fun X K hE => ?_)
  have hY0 := hY.1
  have hz := hY.2 n hn
  have ⟨q0, q1, q2, q3, q4, q5, q6, q7, q8⟩ := hz
  have bsb := s_b_bd hz (b := k) (by omega)
  have bto := q4 k (by omega)
  have bm := s_m_bd (zb Y n) k
  have bse := gB1_bd (zb Y n 2 = 1)
  have bff : s_f (zb Y n) k = (zb Y n (6 + k) - s_b (zb Y n) k % 10 + 10) % 10 := rfl
  have bw := s_w_iff (zb Y n) k
  refine x_aload_0 K dX7_isWrong_0 ?_
  refine x_iload_1 K dX7_isWrong_1 ?_
  refine x_callV1 K (c7_isSealed Y h hY n hn) mtX7_isSealed miX7_isSealed rc14 ⟨by decide, (by decide)⟩ lkRX7_111 ⟨by decide, by decide, by decide⟩ rfl (Nat.le_of_ble_eq_true rfl) dX7_isWrong_2 ?_
  refine x_if_eq (tgt := 32) K (by omega) dX7_isWrong_5 (by decide) (fun h5 => ?_) (fun h5 => ?_)
  · refine x_iconst K dX7_isWrong_32 ?_
    exact x_zret K hE rfl dX7_isWrong_33 (by decide) (by decide) (by omega) (by rw [gB1_iff bw]; unfold gB1 at *; split <;> simp_all <;> omega) rfl
  · refine x_aload_0 K dX7_isWrong_8 ?_
    refine x_iload_1 K dX7_isWrong_9 ?_
    refine x_iload_2 K dX7_isWrong_10 ?_
    refine x_iload_3 K dX7_isWrong_11 ?_
    refine x_callV3 K (c7_smudgedIn_r Y h hY n hn k hk) mtX7_smudgedIn miX7_smudgedIn rc14 ⟨by decide, (by decide)⟩ lkRX7_84 ⟨by decide, by decide, by decide⟩ rfl (Nat.le_of_ble_eq_true rfl) dX7_isWrong_12 ?_
    refine x_if_ne (tgt := 32) K (by omega) dX7_isWrong_15 (by decide) (fun h15 => ?_) (fun h15 => ?_)
    · refine x_iconst K dX7_isWrong_32 ?_
      exact x_zret K hE rfl dX7_isWrong_33 (by decide) (by decide) (by omega) (by rw [gB1_iff bw]; unfold gB1 at *; split <;> simp_all <;> omega) rfl
    · refine x_aload_0 K dX7_isWrong_18 ?_
      refine x_iload_1 K dX7_isWrong_19 ?_
      refine x_iload_2 K dX7_isWrong_20 ?_
      refine x_iload_3 K dX7_isWrong_21 ?_
      refine x_callV3 K (c7_faultOf_r Y h hY n hn k hk) mtX7_faultOf miX7_faultOf rc14 ⟨by decide, (by decide)⟩ lkRX7_114 ⟨by decide, by decide, by decide⟩ rfl (Nat.le_of_ble_eq_true rfl) dX7_isWrong_22 ?_
      refine x_if_le (tgt := 32) K (by omega) dX7_isWrong_25 (by decide) (fun h25 => ?_) (fun h25 => ?_)
      · refine x_iconst K dX7_isWrong_32 ?_
        exact x_zret K hE rfl dX7_isWrong_33 (by decide) (by decide) (by omega) (by rw [gB1_iff bw]; unfold gB1 at *; split <;> simp_all <;> omega) rfl
      · refine x_iconst K dX7_isWrong_28 ?_
        refine x_goto (tgt := 33) K dX7_isWrong_29 (by decide) ?_
        exact x_zret K hE rfl dX7_isWrong_33 (by decide) (by decide) (by omega) (by rw [gB1_iff bw]; unfold gB1 at *; split <;> simp_all <;> omega) rfl
theorem c7_smudgedIn_c {E : gE} {σ : gS} (Y : Nat → Int) (h : gMs σ Y) (hY : gY Y) (n : Nat) (hn : (n : Int) < Y 0) (k : Nat) (hk : k < 8) : gCt E mX7_smudgedIn 5 0 [rf 14 0, iv (n : Int), iv 0, iv (k : Int)] σ (.inl (some (iv (s_m (zb Y n) (6 + k))))) σ := by
  refine gCt_of (L := [some (rf 14 0), some (iv (n : Int)), some (iv 0), some (iv (k : Int)), none, none]) (by decide +kernel) rfl rfl (Nat.le_of_ble_eq_true rfl) (fun X K hE => ?_)
  have hY0 := hY.1
  have hz := hY.2 n hn
  have ⟨q0, q1, q2, q3, q4, q5, q6, q7, q8⟩ := hz
  refine x_iconst K dX7_smudgedIn_0 ?_
  refine x_istore_4 K dX7_smudgedIn_1 rfl ?_
  refine x_iconst K dX7_smudgedIn_3 ?_
  refine x_istore_5 K dX7_smudgedIn_4 rfl ?_
  refine gLp (P := fun i : Nat => gWX X E 0 0 6 [some (rf 14 0), some (iv (n : Int)), some (iv 0), some (iv (k : Int)), some (iv (gSum (fun i => gB1 (zb Y n (20 + (8 * i + k)) = -1)) i)), some (iv (i : Int))] [] (σ)) ((zb Y n 0).toNat) (fun k0 => ?_) (fun i hi ih => ?_) ?_
  · exact gWX.to rfl rfl (k0)
  · refine x_iload_5 K dX7_smudgedIn_6 ?_
    refine x_aload_0 K dX7_smudgedIn_8 ?_
    refine x_iload_1 K dX7_smudgedIn_9 ?_
    refine x_iload_2 K dX7_smudgedIn_10 ?_
    refine x_callV2 K (c7_length_c Y h n (by omega)) mtX7_length miX7_length rc14 ⟨by decide, (by decide)⟩ lkRX7_92 ⟨by decide, by decide, by decide⟩ rfl (Nat.le_of_ble_eq_true rfl) dX7_smudgedIn_11 ?_
    refine x_icmp_ge (tgt := 45) K (by omega) dX7_smudgedIn_14 (by decide) (fun h14 => absurd h14 (by omega)) (fun h14 => ?_)
    refine x_iload_4 K dX7_smudgedIn_17 ?_
    refine x_aload_0 K dX7_smudgedIn_19 ?_
    refine x_iload_1 K dX7_smudgedIn_20 ?_
    refine x_iload_2 K dX7_smudgedIn_21 ?_
    refine x_iload_3 K dX7_smudgedIn_22 ?_
    refine x_iload_5 K dX7_smudgedIn_23 ?_
    refine x_callV4 K (c7_along_c Y h n (by omega) i k (by omega) (by omega)) mtX7_along miX7_along rc14 ⟨by decide, (by decide)⟩ lkRX7_96 ⟨by decide, by decide, by decide⟩ rfl (Nat.le_of_ble_eq_true rfl) dX7_smudgedIn_25 ?_
    have b5 : -1 ≤ zb Y n (20 + (8 * i + k)) ∧ zb Y n (20 + (8 * i + k)) ≤ 9 := q5 _ (by omega)
    refine gTern (fun kt kf => x_if_ge (tgt := 35) K (by omega) dX7_smudgedIn_28 (by decide) kt kf) (fun k => x_iconst K dX7_smudgedIn_35 k) (fun k => x_iconst K dX7_smudgedIn_31 (x_goto K dX7_smudgedIn_32 (by decide) k)) ?_
    refine gWX.top (b := gB1 (zb Y n (20 + (8 * i + k)) = -1)) (by unfold gB1; split <;> split <;> omega) ?_
    refine x_iadd K dX7_smudgedIn_36 ?_
    refine x_istore_4 K dX7_smudgedIn_37 rfl ?_
    refine x_iinc_5 K dX7_smudgedIn_39 rfl ?_
    refine x_goto (tgt := 6) K dX7_smudgedIn_42 (by decide) ?_
    exact gWX.to rfl rfl (ih)
  · refine x_iload_5 K dX7_smudgedIn_6 ?_
    refine x_aload_0 K dX7_smudgedIn_8 ?_
    refine x_iload_1 K dX7_smudgedIn_9 ?_
    refine x_iload_2 K dX7_smudgedIn_10 ?_
    refine x_callV2 K (c7_length_c Y h n (by omega)) mtX7_length miX7_length rc14 ⟨by decide, (by decide)⟩ lkRX7_92 ⟨by decide, by decide, by decide⟩ rfl (Nat.le_of_ble_eq_true rfl) dX7_smudgedIn_11 ?_
    refine x_icmp_ge (tgt := 45) K (by omega) dX7_smudgedIn_14 (by decide) (fun h14 => ?_) (fun h14 => absurd h14 (by omega))
    refine x_iload_4 K dX7_smudgedIn_45 ?_
    exact x_iret K hE rfl dX7_smudgedIn_47 (by decide) (by decide) (by rw [s_cm_w hz hk, s_m_c]) rfl
theorem c7_sumOf_c {E : gE} {σ : gS} (Y : Nat → Int) (h : gMs σ Y) (hY : gY Y) (n : Nat) (hn : (n : Int) < Y 0) (k : Nat) (hk : k < 8) : gCt E mX7_sumOf 5 0 [rf 14 0, iv (n : Int), iv 0, iv (k : Int)] σ (.inl (some (iv (s_b (zb Y n) (6 + k) % 10)))) σ := by
  refine gCt_of (L := [some (rf 14 0), some (iv (n : Int)), some (iv 0), some (iv (k : Int)), none, none]) (by decide +kernel) rfl rfl (Nat.le_of_ble_eq_true rfl) (fun X K hE => ?_)
  have hY0 := hY.1
  have hz := hY.2 n hn
  have ⟨q0, q1, q2, q3, q4, q5, q6, q7, q8⟩ := hz
  have bsb := s_b_bd hz (b := (6 + k)) (by omega)
  refine x_iconst K dX7_sumOf_0 ?_
  refine x_istore_4 K dX7_sumOf_1 rfl ?_
  refine x_iconst K dX7_sumOf_3 ?_
  refine x_istore_5 K dX7_sumOf_4 rfl ?_
  refine gLp (P := fun i : Nat => gWX X E 0 0 6 [some (rf 14 0), some (iv (n : Int)), some (iv 0), some (iv (k : Int)), some (iv (gSum (fun i => max 0 (zb Y n (20 + (8 * i + k)))) i)), some (iv (i : Int))] [] (σ)) ((zb Y n 0).toNat) (fun k0 => ?_) (fun i hi ih => ?_) ?_
  · exact gWX.to rfl rfl (k0)
  · refine x_iload_5 K dX7_sumOf_6 ?_
    refine x_aload_0 K dX7_sumOf_8 ?_
    refine x_iload_1 K dX7_sumOf_9 ?_
    refine x_iload_2 K dX7_sumOf_10 ?_
    refine x_callV2 K (c7_length_c Y h n (by omega)) mtX7_length miX7_length rc14 ⟨by decide, (by decide)⟩ lkRX7_92 ⟨by decide, by decide, by decide⟩ rfl (Nat.le_of_ble_eq_true rfl) dX7_sumOf_11 ?_
    refine x_icmp_ge (tgt := 41) K (by omega) dX7_sumOf_14 (by decide) (fun h14 => absurd h14 (by omega)) (fun h14 => ?_)
    refine x_iload_4 K dX7_sumOf_17 ?_
    refine x_iconst K dX7_sumOf_19 ?_
    refine x_aload_0 K dX7_sumOf_20 ?_
    refine x_iload_1 K dX7_sumOf_21 ?_
    refine x_iload_2 K dX7_sumOf_22 ?_
    refine x_iload_3 K dX7_sumOf_23 ?_
    refine x_iload_5 K dX7_sumOf_24 ?_
    refine x_callV4 K (c7_along_c Y h n (by omega) i k (by omega) (by omega)) mtX7_along miX7_along rc14 ⟨by decide, (by decide)⟩ lkRX7_96 ⟨by decide, by decide, by decide⟩ rfl (Nat.le_of_ble_eq_true rfl) dX7_sumOf_26 ?_
    have b5 : -1 ≤ zb Y n (20 + (8 * i + k)) ∧ zb Y n (20 + (8 * i + k)) ≤ 9 := q5 _ (by omega)
    refine x_mmax K rfl (by omega) lwRX7_100 g_max ⟨by decide, (Nat.le_of_ble_eq_true rfl)⟩ ⟨by decide, by decide⟩ dX7_sumOf_29 ?_
    refine x_iadd K dX7_sumOf_32 ?_
    refine x_istore_4 K dX7_sumOf_33 rfl ?_
    refine x_iinc_5 K dX7_sumOf_35 rfl ?_
    refine x_goto (tgt := 6) K dX7_sumOf_38 (by decide) ?_
    exact gWX.to rfl rfl (ih)
  · refine x_iload_5 K dX7_sumOf_6 ?_
    refine x_aload_0 K dX7_sumOf_8 ?_
    refine x_iload_1 K dX7_sumOf_9 ?_
    refine x_iload_2 K dX7_sumOf_10 ?_
    refine x_callV2 K (c7_length_c Y h n (by omega)) mtX7_length miX7_length rc14 ⟨by decide, (by decide)⟩ lkRX7_92 ⟨by decide, by decide, by decide⟩ rfl (Nat.le_of_ble_eq_true rfl) dX7_sumOf_11 ?_
    refine x_icmp_ge (tgt := 41) K (by omega) dX7_sumOf_14 (by decide) (fun h14 => ?_) (fun h14 => absurd h14 (by omega))
    refine x_iload_4 K dX7_sumOf_41 ?_
    refine gWX.top (b := s_b (zb Y n) (6 + k)) (by rw [s_cs_w hz hk, s_b_c]) ?_
    refine x_bipush K dX7_sumOf_43 rfl ?_
    refine x_irem K (by omega) dX7_sumOf_45 ?_
    exact x_iret K hE rfl dX7_sumOf_46 (by decide) (by decide) rfl rfl
theorem c7_told_c {E : gE} {σ : gS} (Y : Nat → Int) (h : gMs σ Y) (hY : gY Y) (n : Nat) (hn : (n : Int) < Y 0) (k : Nat) (hk : k < 8) : gCt E mX7_told 3 0 [rf 14 0, iv (n : Int), iv 0, iv (k : Int)] σ (.inl (some (iv (zb Y n (6 + (6 + k)))))) σ := by
  refine gCt_of (L := [some (rf 14 0), some (iv (n : Int)), some (iv 0), some (iv (k : Int))]) (by decide +kernel) rfl rfl (Nat.le_of_ble_eq_true rfl) (fun X K hE => ?_)
  have hY0 := hY.1
  have hz := hY.2 n hn
  have ⟨q0, q1, q2, q3, q4, q5, q6, q7, q8⟩ := hz
  refine x_aload_0 K dX7_told_0 ?_
  refine x_iload_1 K dX7_told_1 ?_
  refine x_iload_2 K dX7_told_2 ?_
  refine x_if_eq (tgt := 11) K (by omega) dX7_told_3 (by decide) (fun h3 => ?_) (fun h3 => absurd rfl h3)
  refine x_bipush K dX7_told_11 rfl ?_
  refine x_iload_3 K dX7_told_13 ?_
  refine x_iadd K dX7_told_14 ?_
  refine gWX.top (b := ((12 + k : Nat) : Int)) (by omega) ?_
  refine x_callV2 K (c7_of Y h n (12 + k) (by omega) (by omega)) mtX7_of miX7_of rc14 ⟨by decide, (by decide)⟩ lkRX7_69 ⟨by decide, by decide, by decide⟩ rfl (Nat.le_of_ble_eq_true rfl) dX7_told_15 ?_
  exact x_iret K hE rfl dX7_told_18 (by decide) (by decide) (by first | rfl | (rw [show 12 + k = 6 + (6 + k) by omega])) rfl
theorem c7_faultOf_c {E : gE} {σ : gS} (Y : Nat → Int) (h : gMs σ Y) (hY : gY Y) (n : Nat) (hn : (n : Int) < Y 0) (k : Nat) (hk : k < 8) : gCt E mX7_faultOf 6 0 [rf 14 0, iv (n : Int), iv 0, iv (k : Int)] σ (.inl (some (iv (s_f (zb Y n) (6 + k))))) σ := by
  refine gCt_of (L := [some (rf 14 0), some (iv (n : Int)), some (iv 0), some (iv (k : Int))]) (by decide +kernel) rfl rfl (Nat.le_of_ble_eq_true rfl) (fun X K hE => ?_)
  have hY0 := hY.1
  have hz := hY.2 n hn
  have ⟨q0, q1, q2, q3, q4, q5, q6, q7, q8⟩ := hz
  have bsb := s_b_bd hz (b := (6 + k)) (by omega)
  have bto := q4 (6 + k) (by omega)
  refine x_aload_0 K dX7_faultOf_0 ?_
  refine x_iload_1 K dX7_faultOf_1 ?_
  refine x_iload_2 K dX7_faultOf_2 ?_
  refine x_iload_3 K dX7_faultOf_3 ?_
  refine x_callV3 K (c7_told_c Y h hY n hn k hk) mtX7_told miX7_told rc14 ⟨by decide, (by decide)⟩ lkRX7_105 ⟨by decide, by decide, by decide⟩ rfl (Nat.le_of_ble_eq_true rfl) dX7_faultOf_4 ?_
  refine x_aload_0 K dX7_faultOf_7 ?_
  refine x_iload_1 K dX7_faultOf_8 ?_
  refine x_iload_2 K dX7_faultOf_9 ?_
  refine x_iload_3 K dX7_faultOf_10 ?_
  refine x_callV3 K (c7_sumOf_c Y h hY n hn k hk) mtX7_sumOf miX7_sumOf rc14 ⟨by decide, (by decide)⟩ lkRX7_108 ⟨by decide, by decide, by decide⟩ rfl (Nat.le_of_ble_eq_true rfl) dX7_faultOf_11 ?_
  refine x_isub K dX7_faultOf_14 ?_
  refine x_bipush K dX7_faultOf_15 rfl ?_
  refine x_iadd K dX7_faultOf_17 ?_
  refine x_bipush K dX7_faultOf_18 rfl ?_
  refine x_irem K (by omega) dX7_faultOf_20 ?_
  exact x_iret K hE rfl dX7_faultOf_21 (by decide) (by decide) rfl rfl
theorem c7_isWrong_c {E : gE} {σ : gS} (Y : Nat → Int) (h : gMs σ Y) (hY : gY Y) (n : Nat) (hn : (n : Int) < Y 0) (k : Nat) (hk : k < 8) : gCt E mX7_isWrong 7 0 [rf 14 0, iv (n : Int), iv 0, iv (k : Int)] σ (.inl (some (iv (gB1 (s_w (zb Y n) (6 + k) = true))))) σ := by
  refine gCt_of (L := [some (rf 14 0), some (iv (n : Int)), some (iv 0), some (iv (k : Int))]) (by decide +kernel) rfl rfl (Nat.le_of_ble_eq_true rfl) (fun X K hE => ?_)
  have hY0 := hY.1
  have hz := hY.2 n hn
  have ⟨q0, q1, q2, q3, q4, q5, q6, q7, q8⟩ := hz
  have bsb := s_b_bd hz (b := (6 + k)) (by omega)
  have bto := q4 (6 + k) (by omega)
  have bm := s_m_bd (zb Y n) (6 + k)
  have bse := gB1_bd (zb Y n 2 = 1)
  have bff : s_f (zb Y n) (6 + k) = (zb Y n (6 + (6 + k)) - s_b (zb Y n) (6 + k) % 10 + 10) % 10 := rfl
  have bw := s_w_iff (zb Y n) (6 + k)
  refine x_aload_0 K dX7_isWrong_0 ?_
  refine x_iload_1 K dX7_isWrong_1 ?_
  refine x_callV1 K (c7_isSealed Y h hY n hn) mtX7_isSealed miX7_isSealed rc14 ⟨by decide, (by decide)⟩ lkRX7_111 ⟨by decide, by decide, by decide⟩ rfl (Nat.le_of_ble_eq_true rfl) dX7_isWrong_2 ?_
  refine x_if_eq (tgt := 32) K (by omega) dX7_isWrong_5 (by decide) (fun h5 => ?_) (fun h5 => ?_)
  · refine x_iconst K dX7_isWrong_32 ?_
    exact x_zret K hE rfl dX7_isWrong_33 (by decide) (by decide) (by omega) (by rw [gB1_iff bw]; unfold gB1 at *; split <;> simp_all <;> omega) rfl
  · refine x_aload_0 K dX7_isWrong_8 ?_
    refine x_iload_1 K dX7_isWrong_9 ?_
    refine x_iload_2 K dX7_isWrong_10 ?_
    refine x_iload_3 K dX7_isWrong_11 ?_
    refine x_callV3 K (c7_smudgedIn_c Y h hY n hn k hk) mtX7_smudgedIn miX7_smudgedIn rc14 ⟨by decide, (by decide)⟩ lkRX7_84 ⟨by decide, by decide, by decide⟩ rfl (Nat.le_of_ble_eq_true rfl) dX7_isWrong_12 ?_
    refine x_if_ne (tgt := 32) K (by omega) dX7_isWrong_15 (by decide) (fun h15 => ?_) (fun h15 => ?_)
    · refine x_iconst K dX7_isWrong_32 ?_
      exact x_zret K hE rfl dX7_isWrong_33 (by decide) (by decide) (by omega) (by rw [gB1_iff bw]; unfold gB1 at *; split <;> simp_all <;> omega) rfl
    · refine x_aload_0 K dX7_isWrong_18 ?_
      refine x_iload_1 K dX7_isWrong_19 ?_
      refine x_iload_2 K dX7_isWrong_20 ?_
      refine x_iload_3 K dX7_isWrong_21 ?_
      refine x_callV3 K (c7_faultOf_c Y h hY n hn k hk) mtX7_faultOf miX7_faultOf rc14 ⟨by decide, (by decide)⟩ lkRX7_114 ⟨by decide, by decide, by decide⟩ rfl (Nat.le_of_ble_eq_true rfl) dX7_isWrong_22 ?_
      refine x_if_le (tgt := 32) K (by omega) dX7_isWrong_25 (by decide) (fun h25 => ?_) (fun h25 => ?_)
      · refine x_iconst K dX7_isWrong_32 ?_
        exact x_zret K hE rfl dX7_isWrong_33 (by decide) (by decide) (by omega) (by rw [gB1_iff bw]; unfold gB1 at *; split <;> simp_all <;> omega) rfl
      · refine x_iconst K dX7_isWrong_28 ?_
        refine x_goto (tgt := 33) K dX7_isWrong_29 (by decide) ?_
        exact x_zret K hE rfl dX7_isWrong_33 (by decide) (by decide) (by omega) (by rw [gB1_iff bw]; unfold gB1 at *; split <;> simp_all <;> omega) rfl
theorem c7_smudged {E : gE} {σ : gS} (Y : Nat → Int) (h : gMs σ Y) (hY : gY Y) (n : Nat) (hn : (n : Int) < Y 0) : gCt E mX7_smudged 6 0 [rf 14 0, iv (n : Int)] σ (.inl (some (iv (s_sm (zb Y n))))) σ := by
  refine gCt_of (L := [some (rf 14 0), some (iv (n : Int)), none, none]) (by decide +kernel) rfl rfl (Nat.le_of_ble_eq_true rfl) (fun X K hE => ?_)
  have hY0 := hY.1
  have hz := hY.2 n hn
  have ⟨q0, q1, q2, q3, q4, q5, q6, q7, q8⟩ := hz
  refine x_iconst K dX7_smudged_0 ?_
  refine x_istore_2 K dX7_smudged_1 rfl ?_
  refine x_iconst K dX7_smudged_2 ?_
  refine x_istore_3 K dX7_smudged_3 rfl ?_
  refine gLp (P := fun k : Nat => gWX X E 0 0 4 [some (rf 14 0), some (iv (n : Int)), some (iv (gSum (s_m (zb Y n)) k)), some (iv (k : Int))] [] (σ)) ((zb Y n 0).toNat) (fun k0 => ?_) (fun k hk ih => ?_) ?_
  · exact gWX.to rfl rfl (k0)
  · refine x_iload_3 K dX7_smudged_4 ?_
    refine x_aload_0 K dX7_smudged_5 ?_
    refine x_iload_1 K dX7_smudged_6 ?_
    refine x_iconst K dX7_smudged_7 ?_
    refine x_callV2 K (c7_of Y h n 0 (by omega) (by omega)) mtX7_of miX7_of rc14 ⟨by decide, (by decide)⟩ lkRX7_69 ⟨by decide, by decide, by decide⟩ rfl (Nat.le_of_ble_eq_true rfl) dX7_smudged_8 ?_
    refine x_icmp_ge (tgt := 30) K (by omega) dX7_smudged_11 (by decide) (fun h11 => absurd h11 (by omega)) (fun h11 => ?_)
    refine x_iload_2 K dX7_smudged_14 ?_
    refine x_aload_0 K dX7_smudged_15 ?_
    refine x_iload_1 K dX7_smudged_16 ?_
    refine x_iconst K dX7_smudged_17 ?_
    refine x_iload_3 K dX7_smudged_18 ?_
    refine x_callV3 K (c7_smudgedIn_r Y h hY n hn k (by omega)) mtX7_smudgedIn miX7_smudgedIn rc14 ⟨by decide, (by decide)⟩ lkRX7_84 ⟨by decide, by decide, by decide⟩ rfl (Nat.le_of_ble_eq_true rfl) dX7_smudged_19 ?_
    refine x_iadd K dX7_smudged_22 ?_
    refine x_istore_2 K dX7_smudged_23 rfl ?_
    refine x_iinc_3 K dX7_smudged_24 rfl ?_
    refine x_goto (tgt := 4) K dX7_smudged_27 (by decide) ?_
    exact gWX.to rfl rfl (ih)
  · refine x_iload_3 K dX7_smudged_4 ?_
    refine x_aload_0 K dX7_smudged_5 ?_
    refine x_iload_1 K dX7_smudged_6 ?_
    refine x_iconst K dX7_smudged_7 ?_
    refine x_callV2 K (c7_of Y h n 0 (by omega) (by omega)) mtX7_of miX7_of rc14 ⟨by decide, (by decide)⟩ lkRX7_69 ⟨by decide, by decide, by decide⟩ rfl (Nat.le_of_ble_eq_true rfl) dX7_smudged_8 ?_
    refine x_icmp_ge (tgt := 30) K (by omega) dX7_smudged_11 (by decide) (fun h11 => ?_) (fun h11 => absurd h11 (by omega))
    refine x_iload_2 K dX7_smudged_30 ?_
    exact x_iret K hE rfl dX7_smudged_31 (by decide) (by decide) rfl rfl
theorem c7_wrongMany_r {E : gE} {σ : gS} (Y : Nat → Int) (h : gMs σ Y) (hY : gY Y) (n : Nat) (hn : (n : Int) < Y 0) : gCt E mX7_wrongMany 8 0 [rf 14 0, iv (n : Int), iv 1] σ (.inl (some (iv (s_wr (zb Y n))))) σ := by
  refine gCt_of (L := [some (rf 14 0), some (iv (n : Int)), some (iv 1), none, none]) (by decide +kernel) rfl rfl (Nat.le_of_ble_eq_true rfl) (fun X K hE => ?_)
  have hY0 := hY.1
  have hz := hY.2 n hn
  have ⟨q0, q1, q2, q3, q4, q5, q6, q7, q8⟩ := hz
  refine x_iconst K dX7_wrongMany_0 ?_
  refine x_istore_3 K dX7_wrongMany_1 rfl ?_
  refine x_iconst K dX7_wrongMany_2 ?_
  refine x_istore_4 K dX7_wrongMany_3 rfl ?_
  refine gLp (P := fun k : Nat => gWX X E 0 0 5 [some (rf 14 0), some (iv (n : Int)), some (iv 1), some (iv (gSum (fun k => gB1 (s_w (zb Y n) k = true)) k)), some (iv (k : Int))] [] (σ)) ((zb Y n 0).toNat) (fun k0 => ?_) (fun k hk ih => ?_) ?_
  · exact gWX.to rfl rfl (k0)
  · refine x_iload_4 K dX7_wrongMany_5 ?_
    refine x_aload_0 K dX7_wrongMany_7 ?_
    refine x_iload_1 K dX7_wrongMany_8 ?_
    refine x_iload_2 K dX7_wrongMany_9 ?_
    refine x_if_ne (tgt := 17) K (by omega) dX7_wrongMany_10 (by decide) (fun h10 => ?_) (fun h10 => absurd h10 (by omega))
    refine x_iconst K dX7_wrongMany_17 ?_
    refine x_callV2 K (c7_length_c Y h n (by omega)) mtX7_length miX7_length rc14 ⟨by decide, (by decide)⟩ lkRX7_92 ⟨by decide, by decide, by decide⟩ rfl (Nat.le_of_ble_eq_true rfl) dX7_wrongMany_18 ?_
    refine x_icmp_ge (tgt := 49) K (by omega) dX7_wrongMany_21 (by decide) (fun h21 => absurd h21 (by omega)) (fun h21 => ?_)
    refine x_iload_3 K dX7_wrongMany_24 ?_
    refine x_aload_0 K dX7_wrongMany_25 ?_
    refine x_iload_1 K dX7_wrongMany_26 ?_
    refine x_iload_2 K dX7_wrongMany_27 ?_
    refine x_iload_4 K dX7_wrongMany_28 ?_
    refine x_callV3 K (c7_isWrong_r Y h hY n hn k (by omega)) mtX7_isWrong miX7_isWrong rc14 ⟨by decide, (by decide)⟩ lkRX7_117 ⟨by decide, by decide, by decide⟩ rfl (Nat.le_of_ble_eq_true rfl) dX7_wrongMany_30 ?_
    have b9 := gB1_bd (s_w (zb Y n) k = true)
    refine gTern (fun kt kf => x_if_eq (tgt := 40) K (by omega) dX7_wrongMany_33 (by decide) kt kf) (fun k => x_iconst K dX7_wrongMany_40 k) (fun k => x_iconst K dX7_wrongMany_36 (x_goto K dX7_wrongMany_37 (by decide) k)) ?_
    refine gWX.top (b := gB1 (s_w (zb Y n) k = true)) (by by_cases q : s_w (zb Y n) k = true <;> simp [gB1, q]) ?_
    refine x_iadd K dX7_wrongMany_41 ?_
    refine x_istore_3 K dX7_wrongMany_42 rfl ?_
    refine x_iinc_4 K dX7_wrongMany_43 rfl ?_
    refine x_goto (tgt := 5) K dX7_wrongMany_46 (by decide) ?_
    exact gWX.to rfl rfl (ih)
  · refine x_iload_4 K dX7_wrongMany_5 ?_
    refine x_aload_0 K dX7_wrongMany_7 ?_
    refine x_iload_1 K dX7_wrongMany_8 ?_
    refine x_iload_2 K dX7_wrongMany_9 ?_
    refine x_if_ne (tgt := 17) K (by omega) dX7_wrongMany_10 (by decide) (fun h10 => ?_) (fun h10 => absurd h10 (by omega))
    refine x_iconst K dX7_wrongMany_17 ?_
    refine x_callV2 K (c7_length_c Y h n (by omega)) mtX7_length miX7_length rc14 ⟨by decide, (by decide)⟩ lkRX7_92 ⟨by decide, by decide, by decide⟩ rfl (Nat.le_of_ble_eq_true rfl) dX7_wrongMany_18 ?_
    refine x_icmp_ge (tgt := 49) K (by omega) dX7_wrongMany_21 (by decide) (fun h21 => ?_) (fun h21 => absurd h21 (by omega))
    refine x_iload_3 K dX7_wrongMany_49 ?_
    exact x_iret K hE rfl dX7_wrongMany_50 (by decide) (by decide) (s_wr_w hz) rfl
theorem c7_wrongFirst_r {E : gE} {σ : gS} (Y : Nat → Int) (h : gMs σ Y) (hY : gY Y) (n : Nat) (hn : (n : Int) < Y 0) (hne : s_wr (zb Y n) ≠ 0) : gCt E mX7_wrongFirst 8 0 [rf 14 0, iv (n : Int), iv 1] σ (.inl (some (iv ((s_r1 (zb Y n) : Int))))) σ := by
  refine gCt_of (L := [some (rf 14 0), some (iv (n : Int)), some (iv 1), none]) (by decide +kernel) rfl rfl (Nat.le_of_ble_eq_true rfl) (fun X K hE => ?_)
  have hY0 := hY.1
  have hz := hY.2 n hn
  have ⟨q0, q1, q2, q3, q4, q5, q6, q7, q8⟩ := hz
  have f1 := s_fw_row (z := zb Y n) hne
  have f2 := s_w_row hz f1.2.1 f1.2.2
  refine x_iconst K dX7_wrongFirst_0 ?_
  refine x_istore_3 K dX7_wrongFirst_1 rfl ?_
  refine gLp (P := fun k : Nat => (∀ j : Nat, j < k → s_w (zb Y n) j = false) → gWX X E 0 0 2 [some (rf 14 0), some (iv (n : Int)), some (iv 1), some (iv (k : Int))] [] (σ)) ((zb Y n 0).toNat) (fun k0 => ?_) (fun k hk ih => ?_) ?_
  · exact gWX.to rfl rfl (k0 (fun j hj => absurd hj (Nat.not_lt_zero j)))
  · intro hy
    refine x_iload_3 K dX7_wrongFirst_2 ?_
    refine x_aload_0 K dX7_wrongFirst_3 ?_
    refine x_iload_1 K dX7_wrongFirst_4 ?_
    refine x_iload_2 K dX7_wrongFirst_5 ?_
    refine x_if_ne (tgt := 13) K (by omega) dX7_wrongFirst_6 (by decide) (fun h6 => ?_) (fun h6 => absurd h6 (by omega))
    refine x_iconst K dX7_wrongFirst_13 ?_
    refine x_callV2 K (c7_length_c Y h n (by omega)) mtX7_length miX7_length rc14 ⟨by decide, (by decide)⟩ lkRX7_92 ⟨by decide, by decide, by decide⟩ rfl (Nat.le_of_ble_eq_true rfl) dX7_wrongFirst_14 ?_
    refine x_icmp_ge (tgt := 38) K (by omega) dX7_wrongFirst_17 (by decide) (fun h17 => absurd h17 (by omega)) (fun h17 => ?_)
    refine x_aload_0 K dX7_wrongFirst_20 ?_
    refine x_iload_1 K dX7_wrongFirst_21 ?_
    refine x_iload_2 K dX7_wrongFirst_22 ?_
    refine x_iload_3 K dX7_wrongFirst_23 ?_
    refine x_callV3 K (c7_isWrong_r Y h hY n hn k (by omega)) mtX7_isWrong miX7_isWrong rc14 ⟨by decide, (by decide)⟩ lkRX7_117 ⟨by decide, by decide, by decide⟩ rfl (Nat.le_of_ble_eq_true rfl) dX7_wrongFirst_24 ?_
    have b9 := gB1_bd (s_w (zb Y n) k = true)
    refine x_if_eq (tgt := 32) K (by omega) dX7_wrongFirst_27 (by decide) (fun h27 => ?_) (fun h27 => ?_)
    · have hw : s_w (zb Y n) k = false := Bool.eq_false_iff.mpr (fun q => by rw [gB1_t q] at h27; omega)
      refine x_iinc_3 K dX7_wrongFirst_32 rfl ?_
      refine x_goto (tgt := 2) K dX7_wrongFirst_35 (by decide) ?_
      exact gWX.to rfl rfl (ih (fun j hj => (Nat.lt_or_ge j k).elim (fun e => hy j e) (fun e => by
        obtain rfl : j = k := by omega
        exact hw)))
    · have hw : s_w (zb Y n) k = true := Classical.byContradiction (fun q => h27 (gB1_f q))
      refine x_iload_3 K dX7_wrongFirst_30 ?_
      exact x_iret K hE rfl dX7_wrongFirst_31 (by decide) (by decide) (by rw [s_r1_is (by omega) hw hy]) rfl
  · intro hy
    refine x_iload_3 K dX7_wrongFirst_2 ?_
    refine x_aload_0 K dX7_wrongFirst_3 ?_
    refine x_iload_1 K dX7_wrongFirst_4 ?_
    refine x_iload_2 K dX7_wrongFirst_5 ?_
    refine x_if_ne (tgt := 13) K (by omega) dX7_wrongFirst_6 (by decide) (fun h6 => ?_) (fun h6 => absurd h6 (by omega))
    refine x_iconst K dX7_wrongFirst_13 ?_
    refine x_callV2 K (c7_length_c Y h n (by omega)) mtX7_length miX7_length rc14 ⟨by decide, (by decide)⟩ lkRX7_92 ⟨by decide, by decide, by decide⟩ rfl (Nat.le_of_ble_eq_true rfl) dX7_wrongFirst_14 ?_
    refine x_icmp_ge (tgt := 38) K (by omega) dX7_wrongFirst_17 (by decide) (fun h17 => ?_) (fun h17 => absurd h17 (by omega))
    exfalso
    have := hy (s_r1 (zb Y n)) (by omega)
    rw [f1.2.2] at this
    cases this
theorem c7_wrongMany_c {E : gE} {σ : gS} (Y : Nat → Int) (h : gMs σ Y) (hY : gY Y) (n : Nat) (hn : (n : Int) < Y 0) : gCt E mX7_wrongMany 8 0 [rf 14 0, iv (n : Int), iv 0] σ (.inl (some (iv (s_wc (zb Y n))))) σ := by
  refine gCt_of (L := [some (rf 14 0), some (iv (n : Int)), some (iv 0), none, none]) (by decide +kernel) rfl rfl (Nat.le_of_ble_eq_true rfl) (fun X K hE => ?_)
  have hY0 := hY.1
  have hz := hY.2 n hn
  have ⟨q0, q1, q2, q3, q4, q5, q6, q7, q8⟩ := hz
  refine x_iconst K dX7_wrongMany_0 ?_
  refine x_istore_3 K dX7_wrongMany_1 rfl ?_
  refine x_iconst K dX7_wrongMany_2 ?_
  refine x_istore_4 K dX7_wrongMany_3 rfl ?_
  refine gLp (P := fun k : Nat => gWX X E 0 0 5 [some (rf 14 0), some (iv (n : Int)), some (iv 0), some (iv (gSum (fun k => gB1 (s_w (zb Y n) (6 + k) = true)) k)), some (iv (k : Int))] [] (σ)) ((zb Y n 1).toNat) (fun k0 => ?_) (fun k hk ih => ?_) ?_
  · exact gWX.to rfl rfl (k0)
  · refine x_iload_4 K dX7_wrongMany_5 ?_
    refine x_aload_0 K dX7_wrongMany_7 ?_
    refine x_iload_1 K dX7_wrongMany_8 ?_
    refine x_iload_2 K dX7_wrongMany_9 ?_
    refine x_if_ne (tgt := 17) K (by omega) dX7_wrongMany_10 (by decide) (fun h10 => absurd rfl h10) (fun h10 => ?_)
    refine x_iconst K dX7_wrongMany_13 ?_
    refine x_goto (tgt := 18) K dX7_wrongMany_14 (by decide) ?_
    refine x_callV2 K (c7_length_r Y h n (by omega)) mtX7_length miX7_length rc14 ⟨by decide, (by decide)⟩ lkRX7_92 ⟨by decide, by decide, by decide⟩ rfl (Nat.le_of_ble_eq_true rfl) dX7_wrongMany_18 ?_
    refine x_icmp_ge (tgt := 49) K (by omega) dX7_wrongMany_21 (by decide) (fun h21 => absurd h21 (by omega)) (fun h21 => ?_)
    refine x_iload_3 K dX7_wrongMany_24 ?_
    refine x_aload_0 K dX7_wrongMany_25 ?_
    refine x_iload_1 K dX7_wrongMany_26 ?_
    refine x_iload_2 K dX7_wrongMany_27 ?_
    refine x_iload_4 K dX7_wrongMany_28 ?_
    refine x_callV3 K (c7_isWrong_c Y h hY n hn k (by omega)) mtX7_isWrong miX7_isWrong rc14 ⟨by decide, (by decide)⟩ lkRX7_117 ⟨by decide, by decide, by decide⟩ rfl (Nat.le_of_ble_eq_true rfl) dX7_wrongMany_30 ?_
    have b9 := gB1_bd (s_w (zb Y n) (6 + k) = true)
    refine gTern (fun kt kf => x_if_eq (tgt := 40) K (by omega) dX7_wrongMany_33 (by decide) kt kf) (fun k => x_iconst K dX7_wrongMany_40 k) (fun k => x_iconst K dX7_wrongMany_36 (x_goto K dX7_wrongMany_37 (by decide) k)) ?_
    refine gWX.top (b := gB1 (s_w (zb Y n) (6 + k) = true)) (by by_cases q : s_w (zb Y n) (6 + k) = true <;> simp [gB1, q]) ?_
    refine x_iadd K dX7_wrongMany_41 ?_
    refine x_istore_3 K dX7_wrongMany_42 rfl ?_
    refine x_iinc_4 K dX7_wrongMany_43 rfl ?_
    refine x_goto (tgt := 5) K dX7_wrongMany_46 (by decide) ?_
    exact gWX.to rfl rfl (ih)
  · refine x_iload_4 K dX7_wrongMany_5 ?_
    refine x_aload_0 K dX7_wrongMany_7 ?_
    refine x_iload_1 K dX7_wrongMany_8 ?_
    refine x_iload_2 K dX7_wrongMany_9 ?_
    refine x_if_ne (tgt := 17) K (by omega) dX7_wrongMany_10 (by decide) (fun h10 => absurd rfl h10) (fun h10 => ?_)
    refine x_iconst K dX7_wrongMany_13 ?_
    refine x_goto (tgt := 18) K dX7_wrongMany_14 (by decide) ?_
    refine x_callV2 K (c7_length_r Y h n (by omega)) mtX7_length miX7_length rc14 ⟨by decide, (by decide)⟩ lkRX7_92 ⟨by decide, by decide, by decide⟩ rfl (Nat.le_of_ble_eq_true rfl) dX7_wrongMany_18 ?_
    refine x_icmp_ge (tgt := 49) K (by omega) dX7_wrongMany_21 (by decide) (fun h21 => ?_) (fun h21 => absurd h21 (by omega))
    refine x_iload_3 K dX7_wrongMany_49 ?_
    exact x_iret K hE rfl dX7_wrongMany_50 (by decide) (by decide) (s_wc_w hz) rfl
theorem c7_wrongFirst_c {E : gE} {σ : gS} (Y : Nat → Int) (h : gMs σ Y) (hY : gY Y) (n : Nat) (hn : (n : Int) < Y 0) (hne : s_wc (zb Y n) ≠ 0) : gCt E mX7_wrongFirst 8 0 [rf 14 0, iv (n : Int), iv 0] σ (.inl (some (iv ((s_c1 (zb Y n) : Int))))) σ := by
  refine gCt_of (L := [some (rf 14 0), some (iv (n : Int)), some (iv 0), none]) (by decide +kernel) rfl rfl (Nat.le_of_ble_eq_true rfl) (fun X K hE => ?_)
  have hY0 := hY.1
  have hz := hY.2 n hn
  have ⟨q0, q1, q2, q3, q4, q5, q6, q7, q8⟩ := hz
  have f1 := s_fw_col (z := zb Y n) hne
  have f2 := s_w_col hz f1.2.1 f1.2.2
  refine x_iconst K dX7_wrongFirst_0 ?_
  refine x_istore_3 K dX7_wrongFirst_1 rfl ?_
  refine gLp (P := fun k : Nat => (∀ j : Nat, j < k → s_w (zb Y n) (6 + j) = false) → gWX X E 0 0 2 [some (rf 14 0), some (iv (n : Int)), some (iv 0), some (iv (k : Int))] [] (σ)) ((zb Y n 1).toNat) (fun k0 => ?_) (fun k hk ih => ?_) ?_
  · exact gWX.to rfl rfl (k0 (fun j hj => absurd hj (Nat.not_lt_zero j)))
  · intro hy
    refine x_iload_3 K dX7_wrongFirst_2 ?_
    refine x_aload_0 K dX7_wrongFirst_3 ?_
    refine x_iload_1 K dX7_wrongFirst_4 ?_
    refine x_iload_2 K dX7_wrongFirst_5 ?_
    refine x_if_ne (tgt := 13) K (by omega) dX7_wrongFirst_6 (by decide) (fun h6 => absurd rfl h6) (fun h6 => ?_)
    refine x_iconst K dX7_wrongFirst_9 ?_
    refine x_goto (tgt := 14) K dX7_wrongFirst_10 (by decide) ?_
    refine x_callV2 K (c7_length_r Y h n (by omega)) mtX7_length miX7_length rc14 ⟨by decide, (by decide)⟩ lkRX7_92 ⟨by decide, by decide, by decide⟩ rfl (Nat.le_of_ble_eq_true rfl) dX7_wrongFirst_14 ?_
    refine x_icmp_ge (tgt := 38) K (by omega) dX7_wrongFirst_17 (by decide) (fun h17 => absurd h17 (by omega)) (fun h17 => ?_)
    refine x_aload_0 K dX7_wrongFirst_20 ?_
    refine x_iload_1 K dX7_wrongFirst_21 ?_
    refine x_iload_2 K dX7_wrongFirst_22 ?_
    refine x_iload_3 K dX7_wrongFirst_23 ?_
    refine x_callV3 K (c7_isWrong_c Y h hY n hn k (by omega)) mtX7_isWrong miX7_isWrong rc14 ⟨by decide, (by decide)⟩ lkRX7_117 ⟨by decide, by decide, by decide⟩ rfl (Nat.le_of_ble_eq_true rfl) dX7_wrongFirst_24 ?_
    have b9 := gB1_bd (s_w (zb Y n) (6 + k) = true)
    refine x_if_eq (tgt := 32) K (by omega) dX7_wrongFirst_27 (by decide) (fun h27 => ?_) (fun h27 => ?_)
    · have hw : s_w (zb Y n) (6 + k) = false := Bool.eq_false_iff.mpr (fun q => by rw [gB1_t q] at h27; omega)
      refine x_iinc_3 K dX7_wrongFirst_32 rfl ?_
      refine x_goto (tgt := 2) K dX7_wrongFirst_35 (by decide) ?_
      exact gWX.to rfl rfl (ih (fun j hj => (Nat.lt_or_ge j k).elim (fun e => hy j e) (fun e => by
        obtain rfl : j = k := by omega
        exact hw)))
    · have hw : s_w (zb Y n) (6 + k) = true := Classical.byContradiction (fun q => h27 (gB1_f q))
      refine x_iload_3 K dX7_wrongFirst_30 ?_
      exact x_iret K hE rfl dX7_wrongFirst_31 (by decide) (by decide) (by rw [s_c1_is (by omega) hw hy]) rfl
  · intro hy
    refine x_iload_3 K dX7_wrongFirst_2 ?_
    refine x_aload_0 K dX7_wrongFirst_3 ?_
    refine x_iload_1 K dX7_wrongFirst_4 ?_
    refine x_iload_2 K dX7_wrongFirst_5 ?_
    refine x_if_ne (tgt := 13) K (by omega) dX7_wrongFirst_6 (by decide) (fun h6 => absurd rfl h6) (fun h6 => ?_)
    refine x_iconst K dX7_wrongFirst_9 ?_
    refine x_goto (tgt := 14) K dX7_wrongFirst_10 (by decide) ?_
    refine x_callV2 K (c7_length_r Y h n (by omega)) mtX7_length miX7_length rc14 ⟨by decide, (by decide)⟩ lkRX7_92 ⟨by decide, by decide, by decide⟩ rfl (Nat.le_of_ble_eq_true rfl) dX7_wrongFirst_14 ?_
    refine x_icmp_ge (tgt := 38) K (by omega) dX7_wrongFirst_17 (by decide) (fun h17 => ?_) (fun h17 => absurd h17 (by omega))
    exfalso
    have := hy (s_c1 (zb Y n)) (by omega)
    rw [f1.2.2] at this
    cases this
theorem c7_inDoubt {E : gE} {σ : gS} (Y : Nat → Int) (h : gMs σ Y) (hY : gY Y) (n : Nat) (hn : (n : Int) < Y 0) (r c : Nat) (hr : r < 6) (hc : c < 8) : gCt E mX7_inDoubt 8 0 [rf 14 0, iv (n : Int), iv (r : Int), iv (c : Int)] σ (.inl (some (iv (gB1 (s_df (zb Y n) r c = true))))) σ := by
  refine gCt_of (L := [some (rf 14 0), some (iv (n : Int)), some (iv (r : Int)), some (iv (c : Int))]) (by decide +kernel) rfl rfl (Nat.le_of_ble_eq_true rfl) (fun X K hE => ?_)
  have hY0 := hY.1
  have hz := hY.2 n hn
  have ⟨q0, q1, q2, q3, q4, q5, q6, q7, q8⟩ := hz
  have b0 : -1 ≤ zb Y n (20 + (8 * r + c)) ∧ zb Y n (20 + (8 * r + c)) ≤ 9 := q5 (8 * r + c) (by omega)
  have b1 := gB1_bd (s_w (zb Y n) r = true)
  have b2 := gB1_bd (s_w (zb Y n) (6 + c) = true)
  have e : s_df (zb Y n) r c = true ↔ (zb Y n (20 + (8 * r + c)) = -1 ∨ (s_w (zb Y n) r = true ∧ s_w (zb Y n) (6 + c) = true)) := by unfold s_df; simp
  refine x_aload_0 K dX7_inDoubt_0 ?_
  refine x_iload_1 K dX7_inDoubt_1 ?_
  refine x_iload_2 K dX7_inDoubt_2 ?_
  refine x_iload_3 K dX7_inDoubt_3 ?_
  refine x_callV3 K (c7_sign1 Y h n (by omega) r c hr hc) mtX7_sign1 miX7_sign1 rc14 ⟨by decide, (by decide)⟩ lkRX7_88 ⟨by decide, by decide, by decide⟩ rfl (Nat.le_of_ble_eq_true rfl) dX7_inDoubt_4 ?_
  refine x_if_lt (tgt := 30) K (by omega) dX7_inDoubt_7 (by decide) (fun h7 => ?_) (fun h7 => ?_)
  · refine x_iconst K dX7_inDoubt_30 ?_
    refine x_goto (tgt := 35) K dX7_inDoubt_31 (by decide) ?_
    exact x_zret K hE rfl dX7_inDoubt_35 (by decide) (by decide) (by omega) (by rw [gB1_iff e]; unfold gB1 at *; split <;> simp_all <;> omega) rfl
  · refine x_aload_0 K dX7_inDoubt_10 ?_
    refine x_iload_1 K dX7_inDoubt_11 ?_
    refine x_iconst K dX7_inDoubt_12 ?_
    refine x_iload_2 K dX7_inDoubt_13 ?_
    refine x_callV3 K (c7_isWrong_r Y h hY n hn r hr) mtX7_isWrong miX7_isWrong rc14 ⟨by decide, (by decide)⟩ lkRX7_117 ⟨by decide, by decide, by decide⟩ rfl (Nat.le_of_ble_eq_true rfl) dX7_inDoubt_14 ?_
    refine x_if_eq (tgt := 34) K (by omega) dX7_inDoubt_17 (by decide) (fun h17 => ?_) (fun h17 => ?_)
    · refine x_iconst K dX7_inDoubt_34 ?_
      exact x_zret K hE rfl dX7_inDoubt_35 (by decide) (by decide) (by omega) (by rw [gB1_iff e]; unfold gB1 at *; split <;> simp_all <;> omega) rfl
    · refine x_aload_0 K dX7_inDoubt_20 ?_
      refine x_iload_1 K dX7_inDoubt_21 ?_
      refine x_iconst K dX7_inDoubt_22 ?_
      refine x_iload_3 K dX7_inDoubt_23 ?_
      refine x_callV3 K (c7_isWrong_c Y h hY n hn c hc) mtX7_isWrong miX7_isWrong rc14 ⟨by decide, (by decide)⟩ lkRX7_117 ⟨by decide, by decide, by decide⟩ rfl (Nat.le_of_ble_eq_true rfl) dX7_inDoubt_24 ?_
      refine x_if_eq (tgt := 34) K (by omega) dX7_inDoubt_27 (by decide) (fun h27 => ?_) (fun h27 => ?_)
      · refine x_iconst K dX7_inDoubt_34 ?_
        exact x_zret K hE rfl dX7_inDoubt_35 (by decide) (by decide) (by omega) (by rw [gB1_iff e]; unfold gB1 at *; split <;> simp_all <;> omega) rfl
      · refine x_iconst K dX7_inDoubt_30 ?_
        refine x_goto (tgt := 35) K dX7_inDoubt_31 (by decide) ?_
        exact x_zret K hE rfl dX7_inDoubt_35 (by decide) (by decide) (by omega) (by rw [gB1_iff e]; unfold gB1 at *; split <;> simp_all <;> omega) rfl
theorem c7_doubtsOf {E : gE} {σ : gS} (Y : Nat → Int) (h : gMs σ Y) (hY : gY Y) (n : Nat) (hn : (n : Int) < Y 0) : gCt E mX7_doubtsOf 9 0 [rf 14 0, iv (n : Int)] σ (.inl (some (iv (s_db (zb Y n))))) σ := by
  refine gCt_of (L := [some (rf 14 0), some (iv (n : Int)), none, none, none]) (by decide +kernel) rfl rfl (Nat.le_of_ble_eq_true rfl) (fun X K hE => ?_)
  have hY0 := hY.1
  have hz := hY.2 n hn
  have ⟨q0, q1, q2, q3, q4, q5, q6, q7, q8⟩ := hz
  refine x_iconst K dX7_doubtsOf_0 ?_
  refine x_istore_2 K dX7_doubtsOf_1 rfl ?_
  refine x_iconst K dX7_doubtsOf_2 ?_
  refine x_istore_3 K dX7_doubtsOf_3 rfl ?_
  refine gLp (P := fun r : Nat => gWX X E 0 0 4 [some (rf 14 0), some (iv (n : Int)), some (iv (gSum (fun r => gSum (fun c => gB1 (s_df (zb Y n) r c = true)) (zb Y n 1).toNat) r)), some (iv (r : Int)), none] [] (σ)) ((zb Y n 0).toNat) (fun k0 => ?_) (fun r hr ih => ?_) ?_
  · exact gWX.to rfl rfl (k0)
  · refine x_iload_3 K dX7_doubtsOf_4 ?_
    refine x_aload_0 K dX7_doubtsOf_5 ?_
    refine x_iload_1 K dX7_doubtsOf_6 ?_
    refine x_iconst K dX7_doubtsOf_7 ?_
    refine x_callV2 K (c7_of Y h n 0 (by omega) (by omega)) mtX7_of miX7_of rc14 ⟨by decide, (by decide)⟩ lkRX7_69 ⟨by decide, by decide, by decide⟩ rfl (Nat.le_of_ble_eq_true rfl) dX7_doubtsOf_8 ?_
    refine x_icmp_ge (tgt := 59) K (by omega) dX7_doubtsOf_11 (by decide) (fun h11 => absurd h11 (by omega)) (fun h11 => ?_)
    refine x_iconst K dX7_doubtsOf_14 ?_
    refine x_istore_4 K dX7_doubtsOf_15 rfl ?_
    refine gLp (P := fun c : Nat => gWX X E 0 0 17 [some (rf 14 0), some (iv (n : Int)), some (iv (gSum (fun r => gSum (fun c => gB1 (s_df (zb Y n) r c = true)) (zb Y n 1).toNat) r + gSum (fun c => gB1 (s_df (zb Y n) r c = true)) c)), some (iv (r : Int)), some (iv (c : Int))] [] (σ)) ((zb Y n 1).toNat) (fun k0 => ?_) (fun c hc ih => ?_) ?_
    · exact gWX.to (by simp only [gSum, Int.add_zero]; rfl) rfl (k0)
    · refine x_iload_4 K dX7_doubtsOf_17 ?_
      refine x_aload_0 K dX7_doubtsOf_19 ?_
      refine x_iload_1 K dX7_doubtsOf_20 ?_
      refine x_iconst K dX7_doubtsOf_21 ?_
      refine x_callV2 K (c7_of Y h n 1 (by omega) (by omega)) mtX7_of miX7_of rc14 ⟨by decide, (by decide)⟩ lkRX7_69 ⟨by decide, by decide, by decide⟩ rfl (Nat.le_of_ble_eq_true rfl) dX7_doubtsOf_22 ?_
      refine x_icmp_ge (tgt := 53) K (by omega) dX7_doubtsOf_25 (by decide) (fun h25 => absurd h25 (by omega)) (fun h25 => ?_)
      refine x_iload_2 K dX7_doubtsOf_28 ?_
      refine x_aload_0 K dX7_doubtsOf_29 ?_
      refine x_iload_1 K dX7_doubtsOf_30 ?_
      refine x_iload_3 K dX7_doubtsOf_31 ?_
      refine x_iload_4 K dX7_doubtsOf_32 ?_
      refine x_callV3 K (c7_inDoubt Y h hY n hn r c (by omega) (by omega)) mtX7_inDoubt miX7_inDoubt rc14 ⟨by decide, (by decide)⟩ lkRX7_163 ⟨by decide, by decide, by decide⟩ rfl (Nat.le_of_ble_eq_true rfl) dX7_doubtsOf_34 ?_
      have b9 := gB1_bd (s_df (zb Y n) r c = true)
      refine gTern (fun kt kf => x_if_eq (tgt := 44) K (by omega) dX7_doubtsOf_37 (by decide) kt kf) (fun k => x_iconst K dX7_doubtsOf_44 k) (fun k => x_iconst K dX7_doubtsOf_40 (x_goto K dX7_doubtsOf_41 (by decide) k)) ?_
      refine gWX.top (b := gB1 (s_df (zb Y n) r c = true)) (by unfold gB1; split <;> split <;> simp_all) ?_
      refine x_iadd K dX7_doubtsOf_45 ?_
      refine gWX.top (b := gSum (fun r => gSum (fun c => gB1 (s_df (zb Y n) r c = true)) (zb Y n 1).toNat) r + (gSum (fun c => gB1 (s_df (zb Y n) r c = true)) c + gB1 (s_df (zb Y n) r c = true))) (Int.add_assoc _ _ _) ?_
      refine x_istore_2 K dX7_doubtsOf_46 rfl ?_
      refine x_iinc_4 K dX7_doubtsOf_47 rfl ?_
      refine x_goto (tgt := 17) K dX7_doubtsOf_50 (by decide) ?_
      exact gWX.to rfl rfl (ih)
    · refine x_iload_4 K dX7_doubtsOf_17 ?_
      refine x_aload_0 K dX7_doubtsOf_19 ?_
      refine x_iload_1 K dX7_doubtsOf_20 ?_
      refine x_iconst K dX7_doubtsOf_21 ?_
      refine x_callV2 K (c7_of Y h n 1 (by omega) (by omega)) mtX7_of miX7_of rc14 ⟨by decide, (by decide)⟩ lkRX7_69 ⟨by decide, by decide, by decide⟩ rfl (Nat.le_of_ble_eq_true rfl) dX7_doubtsOf_22 ?_
      refine x_icmp_ge (tgt := 53) K (by omega) dX7_doubtsOf_25 (by decide) (fun h25 => ?_) (fun h25 => absurd h25 (by omega))
      refine x_iinc_3 K dX7_doubtsOf_53 rfl ?_
      refine x_goto (tgt := 4) K dX7_doubtsOf_56 (by decide) ?_
      exact gWX.fgt 4 (gWX.to rfl rfl ih)
  · refine x_iload_3 K dX7_doubtsOf_4 ?_
    refine x_aload_0 K dX7_doubtsOf_5 ?_
    refine x_iload_1 K dX7_doubtsOf_6 ?_
    refine x_iconst K dX7_doubtsOf_7 ?_
    refine x_callV2 K (c7_of Y h n 0 (by omega) (by omega)) mtX7_of miX7_of rc14 ⟨by decide, (by decide)⟩ lkRX7_69 ⟨by decide, by decide, by decide⟩ rfl (Nat.le_of_ble_eq_true rfl) dX7_doubtsOf_8 ?_
    refine x_icmp_ge (tgt := 59) K (by omega) dX7_doubtsOf_11 (by decide) (fun h11 => ?_) (fun h11 => absurd h11 (by omega))
    refine x_iload_2 K dX7_doubtsOf_59 ?_
    exact x_iret K hE rfl dX7_doubtsOf_60 (by decide) (by decide) rfl rfl
theorem c7_countOf {E : gE} {σ : gS} (Y : Nat → Int) (h : gMs σ Y) (hY : gY Y) (n : Nat) (hn : (n : Int) < Y 0) (a : Int) (ha : 0 ≤ a ∧ a ≤ 9) : gCt E mX7_countOf 4 0 [rf 14 0, iv (n : Int), iv a] σ (.inl (some (iv (s_ho (zb Y n) a)))) σ := by
  refine gCt_of (L := [some (rf 14 0), some (iv (n : Int)), some (iv a), none, none, none]) (by decide +kernel) rfl rfl (Nat.le_of_ble_eq_true rfl) (fun X K hE => ?_)
  have hY0 := hY.1
  have hz := hY.2 n hn
  have ⟨q0, q1, q2, q3, q4, q5, q6, q7, q8⟩ := hz
  refine x_iconst K dX7_countOf_0 ?_
  refine x_istore_3 K dX7_countOf_1 rfl ?_
  refine x_iconst K dX7_countOf_2 ?_
  refine x_istore_4 K dX7_countOf_3 rfl ?_
  refine gLp (P := fun r : Nat => gWX X E 0 0 5 [some (rf 14 0), some (iv (n : Int)), some (iv a), some (iv (gSum (fun r => gSum (fun c => gB1 (zb Y n (20 + (8 * r + c)) = a)) (zb Y n 1).toNat) r)), some (iv (r : Int)), none] [] (σ)) ((zb Y n 0).toNat) (fun k0 => ?_) (fun r hr ih => ?_) ?_
  · exact gWX.to rfl rfl (k0)
  · refine x_iload_4 K dX7_countOf_5 ?_
    refine x_aload_0 K dX7_countOf_7 ?_
    refine x_iload_1 K dX7_countOf_8 ?_
    refine x_iconst K dX7_countOf_9 ?_
    refine x_callV2 K (c7_of Y h n 0 (by omega) (by omega)) mtX7_of miX7_of rc14 ⟨by decide, (by decide)⟩ lkRX7_69 ⟨by decide, by decide, by decide⟩ rfl (Nat.le_of_ble_eq_true rfl) dX7_countOf_10 ?_
    refine x_icmp_ge (tgt := 63) K (by omega) dX7_countOf_13 (by decide) (fun h13 => absurd h13 (by omega)) (fun h13 => ?_)
    refine x_iconst K dX7_countOf_16 ?_
    refine x_istore_5 K dX7_countOf_17 rfl ?_
    refine gLp (P := fun c : Nat => gWX X E 0 0 19 [some (rf 14 0), some (iv (n : Int)), some (iv a), some (iv (gSum (fun r => gSum (fun c => gB1 (zb Y n (20 + (8 * r + c)) = a)) (zb Y n 1).toNat) r + gSum (fun c => gB1 (zb Y n (20 + (8 * r + c)) = a)) c)), some (iv (r : Int)), some (iv (c : Int))] [] (σ)) ((zb Y n 1).toNat) (fun k0 => ?_) (fun c hc ih => ?_) ?_
    · exact gWX.to (by simp only [gSum, Int.add_zero]; rfl) rfl (k0)
    · refine x_iload_5 K dX7_countOf_19 ?_
      refine x_aload_0 K dX7_countOf_21 ?_
      refine x_iload_1 K dX7_countOf_22 ?_
      refine x_iconst K dX7_countOf_23 ?_
      refine x_callV2 K (c7_of Y h n 1 (by omega) (by omega)) mtX7_of miX7_of rc14 ⟨by decide, (by decide)⟩ lkRX7_69 ⟨by decide, by decide, by decide⟩ rfl (Nat.le_of_ble_eq_true rfl) dX7_countOf_24 ?_
      refine x_icmp_ge (tgt := 57) K (by omega) dX7_countOf_27 (by decide) (fun h27 => absurd h27 (by omega)) (fun h27 => ?_)
      refine x_iload_3 K dX7_countOf_30 ?_
      refine x_aload_0 K dX7_countOf_31 ?_
      refine x_iload_1 K dX7_countOf_32 ?_
      refine x_iload_4 K dX7_countOf_33 ?_
      refine x_iload_5 K dX7_countOf_35 ?_
      refine x_callV3 K (c7_sign1 Y h n (by omega) r c (by omega) (by omega)) mtX7_sign1 miX7_sign1 rc14 ⟨by decide, (by decide)⟩ lkRX7_88 ⟨by decide, by decide, by decide⟩ rfl (Nat.le_of_ble_eq_true rfl) dX7_countOf_37 ?_
      refine x_iload_2 K dX7_countOf_40 ?_
      have b9 : -1 ≤ zb Y n (20 + (8 * r + c)) ∧ zb Y n (20 + (8 * r + c)) ≤ 9 := q5 (8 * r + c) (by omega)
      refine gTernN (fun kt kf => x_icmp_ne (tgt := 48) K (by omega) dX7_countOf_41 (by decide) kt kf) (fun k => x_iconst K dX7_countOf_48 k) (fun k => x_iconst K dX7_countOf_44 (x_goto K dX7_countOf_45 (by decide) k)) ?_
      refine gWX.top (b := gB1 (zb Y n (20 + (8 * r + c)) = a)) rfl ?_
      refine x_iadd K dX7_countOf_49 ?_
      refine gWX.top (b := gSum (fun r => gSum (fun c => gB1 (zb Y n (20 + (8 * r + c)) = a)) (zb Y n 1).toNat) r + (gSum (fun c => gB1 (zb Y n (20 + (8 * r + c)) = a)) c + gB1 (zb Y n (20 + (8 * r + c)) = a))) (Int.add_assoc _ _ _) ?_
      refine x_istore_3 K dX7_countOf_50 rfl ?_
      refine x_iinc_5 K dX7_countOf_51 rfl ?_
      refine x_goto (tgt := 19) K dX7_countOf_54 (by decide) ?_
      exact gWX.to rfl rfl (ih)
    · refine x_iload_5 K dX7_countOf_19 ?_
      refine x_aload_0 K dX7_countOf_21 ?_
      refine x_iload_1 K dX7_countOf_22 ?_
      refine x_iconst K dX7_countOf_23 ?_
      refine x_callV2 K (c7_of Y h n 1 (by omega) (by omega)) mtX7_of miX7_of rc14 ⟨by decide, (by decide)⟩ lkRX7_69 ⟨by decide, by decide, by decide⟩ rfl (Nat.le_of_ble_eq_true rfl) dX7_countOf_24 ?_
      refine x_icmp_ge (tgt := 57) K (by omega) dX7_countOf_27 (by decide) (fun h27 => ?_) (fun h27 => absurd h27 (by omega))
      refine x_iinc_4 K dX7_countOf_57 rfl ?_
      refine x_goto (tgt := 5) K dX7_countOf_60 (by decide) ?_
      exact gWX.fgt 5 (gWX.to rfl rfl ih)
  · refine x_iload_4 K dX7_countOf_5 ?_
    refine x_aload_0 K dX7_countOf_7 ?_
    refine x_iload_1 K dX7_countOf_8 ?_
    refine x_iconst K dX7_countOf_9 ?_
    refine x_callV2 K (c7_of Y h n 0 (by omega) (by omega)) mtX7_of miX7_of rc14 ⟨by decide, (by decide)⟩ lkRX7_69 ⟨by decide, by decide, by decide⟩ rfl (Nat.le_of_ble_eq_true rfl) dX7_countOf_10 ?_
    refine x_icmp_ge (tgt := 63) K (by omega) dX7_countOf_13 (by decide) (fun h13 => ?_) (fun h13 => absurd h13 (by omega))
    refine x_iload_3 K dX7_countOf_63 ?_
    exact x_iret K hE rfl dX7_countOf_64 (by decide) (by decide) rfl rfl
theorem c7_cellsOf {E : gE} {σ : gS} (Y : Nat → Int) (h : gMs σ Y) (hY : gY Y) (n : Nat) (hn : (n : Int) < Y 0) : gCt E mX7_cellsOf 3 0 [rf 14 0, iv (n : Int)] σ (.inl (some (iv (s_cl (zb Y n))))) σ := by
  refine gCt_of (L := [some (rf 14 0), some (iv (n : Int))]) (by decide +kernel) rfl rfl (Nat.le_of_ble_eq_true rfl) (fun X K hE => ?_)
  have hY0 := hY.1
  have hz := hY.2 n hn
  have ⟨q0, q1, q2, q3, q4, q5, q6, q7, q8⟩ := hz
  refine x_aload_0 K dX7_cellsOf_0 ?_
  refine x_iload_1 K dX7_cellsOf_1 ?_
  refine x_iconst K dX7_cellsOf_2 ?_
  refine x_callV2 K (c7_of Y h n 0 (by omega) (by omega)) mtX7_of miX7_of rc14 ⟨by decide, (by decide)⟩ lkRX7_69 ⟨by decide, by decide, by decide⟩ rfl (Nat.le_of_ble_eq_true rfl) dX7_cellsOf_3 ?_
  refine x_aload_0 K dX7_cellsOf_6 ?_
  refine x_iload_1 K dX7_cellsOf_7 ?_
  refine x_iconst K dX7_cellsOf_8 ?_
  refine x_callV2 K (c7_of Y h n 1 (by omega) (by omega)) mtX7_of miX7_of rc14 ⟨by decide, (by decide)⟩ lkRX7_69 ⟨by decide, by decide, by decide⟩ rfl (Nat.le_of_ble_eq_true rfl) dX7_cellsOf_9 ?_
  refine x_imul K dX7_cellsOf_12 ?_
  exact x_iret K hE rfl dX7_cellsOf_13 (by decide) (by decide) rfl rfl
