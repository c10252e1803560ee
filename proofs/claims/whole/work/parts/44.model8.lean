/-! ===== ScrollChecksModel: a text taken apart ===== -/
def gPz (σ : gS) (p b m : Int) (O : Nat → Int) : gS := (fun a i c => if a = 14 ∧ i = 0 ∧ c = 15 then p else if a = 14 ∧ i = 0 ∧ c = 16 then b else if a = 14 ∧ i = 0 ∧ c = 19 then m else if a = 22 ∧ i = 0 ∧ c < 300 then O c else σ.1 a i c, σ.2)
theorem gPz_at (σ : gS) (p b m : Int) (O : Nat → Int) (a i c : Nat) : (gPz σ p b m O).1 a i c = if a = 14 ∧ i = 0 ∧ c = 15 then p else if a = 14 ∧ i = 0 ∧ c = 16 then b else if a = 14 ∧ i = 0 ∧ c = 19 then m else if a = 22 ∧ i = 0 ∧ c < 300 then O c else σ.1 a i c := rfl
theorem gPz_p (σ : gS) (p b m v : Int) (O : Nat → Int) : gU (gPz σ p b m O) 14 0 15 v = gPz σ v b m O := gS_ext (fun a i c => by
  rw [gU_at, gPz_at, gPz_at]
  by_cases q : a = 14 ∧ i = 0 ∧ c = 15
  · rw [if_pos q, if_pos q]
  · rw [if_neg q, if_neg q, if_neg q]) rfl
theorem gPz_b (σ : gS) (p b m v : Int) (O : Nat → Int) : gU (gPz σ p b m O) 14 0 16 v = gPz σ p v m O := gS_ext (fun a i c => by
  rw [gU_at, gPz_at, gPz_at]
  by_cases q : a = 14 ∧ i = 0 ∧ c = 16
  · rw [if_pos q, if_neg (by omega), if_pos q]
  · rw [if_neg q, if_neg (c := a = 14 ∧ i = 0 ∧ c = 16) q, if_neg (c := a = 14 ∧ i = 0 ∧ c = 16) q]) rfl
theorem gPz_m (σ : gS) (p b m v : Int) (O : Nat → Int) : gU (gPz σ p b m O) 14 0 19 v = gPz σ p b v O := gS_ext (fun a i c => by
  rw [gU_at, gPz_at, gPz_at]
  by_cases q : a = 14 ∧ i = 0 ∧ c = 19
  · rw [if_pos q, if_neg (by omega), if_neg (by omega), if_pos q]
  · rw [if_neg q, if_neg (c := a = 14 ∧ i = 0 ∧ c = 19) q, if_neg (c := a = 14 ∧ i = 0 ∧ c = 19) q]) rfl
theorem gPz_o (σ : gS) (p b m v : Int) (O : Nat → Int) {j : Nat} (hj : j < 300) : gU (gPz σ p b m O) 22 0 j v = gPz σ p b m (fun c => if c = j then v else O c) := gS_ext (fun a i c => by
  rw [gU_at, gPz_at, gPz_at]
  by_cases q : a = 22 ∧ i = 0 ∧ c = j
  · rw [if_pos q, if_neg (by omega), if_neg (by omega), if_neg (by omega), if_pos (by omega), if_pos q.2.2]
  · rw [if_neg q]
    by_cases q2 : a = 22 ∧ i = 0 ∧ c < 300
    · rw [if_neg (by omega), if_neg (by omega), if_neg (by omega), if_pos q2, if_neg (by omega), if_neg (by omega), if_neg (by omega), if_pos q2, if_neg (by omega)]
    · rw [if_neg (c := a = 22 ∧ i = 0 ∧ c < 300) q2, if_neg (c := a = 22 ∧ i = 0 ∧ c < 300) q2]) rfl
theorem gPz_0 (σ : gS) : σ = gPz σ (σ.1 14 0 15) (σ.1 14 0 16) (σ.1 14 0 19) (σ.1 22 0) := gS_ext (fun a i c => by
  rw [gPz_at]
  by_cases q : a = 14 ∧ i = 0 ∧ c = 15
  · rw [if_pos q, q.1, q.2.1, q.2.2]
  rw [if_neg q]
  by_cases q : a = 14 ∧ i = 0 ∧ c = 16
  · rw [if_pos q, q.1, q.2.1, q.2.2]
  rw [if_neg q]
  by_cases q : a = 14 ∧ i = 0 ∧ c = 19
  · rw [if_pos q, q.1, q.2.1, q.2.2]
  rw [if_neg q]
  by_cases q : a = 22 ∧ i = 0 ∧ c < 300
  · rw [if_pos q, q.1, q.2.1]
  rw [if_neg q]) rfl
/-- the reference's own text -/
def gI7 (σ : gS) (T : Nat → Int) (l : Nat) : Prop := σ.1 14 0 14 = (l : Int) ∧ l ≤ 60 ∧ ∀ j, j < 60 → σ.1 21 0 j = T j ∧ 0 ≤ T j ∧ T j < 65536
abbrev m_h (T : Nat → Int) (l : Nat) (q : Nat × Int) (lo hi : Int) : Prop := q.2 = 0 ∧ q.1 < l ∧ lo ≤ T q.1 ∧ T q.1 ≤ hi
def m_sg (T : Nat → Int) (l : Nat) (q : Nat × Int) (lo hi : Int) : Nat × Int := if m_h T l q lo hi then (q.1 + 1, 0) else (q.1, 1)
def m_vl (T : Nat → Int) (l : Nat) (q : Nat × Int) (lo hi : Int) : Int := if m_h T l q lo hi then T q.1 - lo else 0
/-- a place and a mark that stands for "out" -/
def m_q (l : Nat) (q : Nat × Int) : Prop := q.1 ≤ l ∧ (q.2 = 0 ∨ q.2 = 1)
theorem m_sg_q {T : Nat → Int} {l : Nat} {q : Nat × Int} {lo hi : Int} (h : m_q l q) : m_q l (m_sg T l q lo hi) := by
  unfold m_sg
  split
  · rename_i y
    exact ⟨by have := y.2.1; show q.1 + 1 ≤ l; omega, Or.inl rfl⟩
  · exact ⟨h.1, Or.inr rfl⟩
abbrev gPq (σ : gS) (q : Nat × Int) (m : Int) (O : Nat → Int) : gS := gPz σ (q.1 : Int) q.2 m O
theorem c7_isHere {E : gE} {σ : gS} (T : Nat → Int) (l : Nat) (hI : gI7 σ T l) (q : Nat × Int) (hq : m_q l q) (m : Int) (O : Nat → Int) (lo hi : Int) (hlh : (0 ≤ lo ∧ lo < 65536) ∧ 0 ≤ hi ∧ hi < 65536) : gCt E mX7_isHere 2 0 [rf 14 0, iv lo, iv hi] (gPq σ q m O) (.inl (some (iv (gB1 (m_h T l q lo hi))))) (gPq σ q m O) := by
  refine gCt_of (L := [some (rf 14 0), some (iv lo), some (iv hi)]) (by decide +kernel) rfl rfl (Nat.le_of_ble_eq_true rfl) (fun X K hE => ?_)
  have hI2 := hI.2.1
  have hq1 := hq.1
  have hq2 := hq.2
  refine x_aload_0 K dX7_isHere_0 ?_
  refine x_getI K gfRX7_211 ⟨by decide, (by decide)⟩ dX7_isHere_1 ?_
  refine gWX.top (b := q.2) rfl ?_
  refine x_if_ne (tgt := 39) K (by omega) dX7_isHere_4 (by decide) (fun h4 => ?_) (fun h4 => ?_)
  · have hx : ¬ m_h T l q lo hi := fun y => h4 y.1
    refine x_iconst K dX7_isHere_39 ?_
    exact x_zret K hE rfl dX7_isHere_40 (by decide) (by decide) (by omega) (by first | exact (gB1_t hx).symm | exact (gB1_f hx).symm) rfl
  · have hz0 : q.2 = 0 := by omega
    refine x_aload_0 K dX7_isHere_7 ?_
    refine x_getI K gfRX7_214 ⟨by decide, (by decide)⟩ dX7_isHere_8 ?_
    refine gWX.top (b := (q.1 : Int)) rfl ?_
    refine x_aload_0 K dX7_isHere_11 ?_
    refine x_getI K gfRX7_209 ⟨by decide, (by decide)⟩ dX7_isHere_12 ?_
    refine gWX.top (b := (l : Int)) hI.1 ?_
    refine x_icmp_ge (tgt := 39) K (by omega) dX7_isHere_15 (by decide) (fun h15 => ?_) (fun h15 => ?_)
    · have hx : ¬ m_h T l q lo hi := fun y => by have := y.2.1; omega
      refine x_iconst K dX7_isHere_39 ?_
      exact x_zret K hE rfl dX7_isHere_40 (by decide) (by decide) (by omega) (by first | exact (gB1_t hx).symm | exact (gB1_f hx).symm) rfl
    · have hT := hI.2.2 q.1 (by omega)
      refine x_aload_0 K dX7_isHere_18 ?_
      refine x_getC K gfRX7_29 ⟨by decide, (by decide)⟩ dX7_isHere_19 ?_
      refine x_aload_0 K dX7_isHere_22 ?_
      refine x_getI K gfRX7_214 ⟨by decide, (by decide)⟩ dX7_isHere_23 ?_
      refine gWX.top (b := (q.1 : Int)) rfl ?_
      refine x_cald K q.1 rfl rfl ⟨by decide, by decide⟩ (by omega) dX7_isHere_26 ?_
      refine gWX.top (b := T q.1) (hI.2.2 q.1 (by omega)).1 ?_
      refine x_iload_1 K dX7_isHere_27 ?_
      refine x_iload_2 K dX7_isHere_28 ?_
      refine x_callS3 K (c7_in (T q.1) lo hi (by omega)) mtX7_in msX7_in lkRX7_61 ⟨by decide, by decide, by decide⟩ rfl (Nat.le_of_ble_eq_true rfl) dX7_isHere_29 ?_
      have b9 := gB1_bd (lo ≤ T q.1 ∧ T q.1 ≤ hi)
      refine x_if_eq (tgt := 39) K (by omega) dX7_isHere_32 (by decide) (fun h32 => ?_) (fun h32 => ?_)
      · have hx : ¬ m_h T l q lo hi := fun y => by rw [gB1_t y.2.2] at h32; omega
        refine x_iconst K dX7_isHere_39 ?_
        exact x_zret K hE rfl dX7_isHere_40 (by decide) (by decide) (by omega) (by first | exact (gB1_t hx).symm | exact (gB1_f hx).symm) rfl
      · have hx : m_h T l q lo hi := ⟨hz0, by omega, Classical.byContradiction (fun y => h32 (gB1_f y))⟩
        refine x_iconst K dX7_isHere_35 ?_
        refine x_goto (tgt := 40) K dX7_isHere_36 (by decide) ?_
        exact x_zret K hE rfl dX7_isHere_40 (by decide) (by decide) (by omega) (by first | exact (gB1_t hx).symm | exact (gB1_f hx).symm) rfl
theorem c7_sign {E : gE} {σ : gS} (T : Nat → Int) (l : Nat) (hI : gI7 σ T l) (q : Nat × Int) (hq : m_q l q) (m : Int) (O : Nat → Int) (lo hi : Int) (hlh : (0 ≤ lo ∧ lo < 65536) ∧ 0 ≤ hi ∧ hi < 65536) : gCt E mX7_sign 3 0 [rf 14 0, iv lo, iv hi] (gPq σ q m O) (.inl (some (iv (m_vl T l q lo hi)))) (gPq σ (m_sg T l q lo hi) m O) := by
  refine gCt_of (L := [some (rf 14 0), some (iv lo), some (iv hi)]) (by decide +kernel) rfl rfl (Nat.le_of_ble_eq_true rfl) (fun X K hE => ?_)
  have hI2 := hI.2.1
  have hq1 := hq.1
  have hq2 := hq.2
  refine x_aload_0 K dX7_sign_0 ?_
  refine x_aload_0 K dX7_sign_1 ?_
  refine x_iload_1 K dX7_sign_2 ?_
  refine x_iload_2 K dX7_sign_3 ?_
  refine x_callV2 K (c7_isHere T l hI q hq m O lo hi hlh) mtX7_isHere miX7_isHere rc14 ⟨by decide, (by decide)⟩ lkRX7_217 ⟨by decide, by decide, by decide⟩ rfl (Nat.le_of_ble_eq_true rfl) dX7_sign_4 ?_
  have b9 := gB1_bd (m_h T l q lo hi)
  refine x_if_ne (tgt := 14) K (by omega) dX7_sign_7 (by decide) (fun h7 => ?_) (fun h7 => ?_)
  · have hx : m_h T l q lo hi := Classical.byContradiction (fun y => h7 (gB1_f y))
    have e1 : m_sg T l q lo hi = (q.1 + 1, 0) := if_pos hx
    have e2 : m_vl T l q lo hi = T q.1 - lo := if_pos hx
    have hx2 := hx.2.1
    refine x_iconst K dX7_sign_14 ?_
    refine x_putZ K gpRX7_211 ⟨by decide, (by decide)⟩ (by omega) dX7_sign_15 ?_
    refine gWX.eq (σ' := gPz σ (q.1 : Int) 0 m O) (gPz_b _ _ _ _ _ _) ?_
    refine x_aload_0 K dX7_sign_18 ?_
    refine x_getI K gfRX7_211 ⟨by decide, (by decide)⟩ dX7_sign_19 ?_
    refine gWX.top (b := 0) rfl ?_
    refine x_if_eq (tgt := 27) K (by omega) dX7_sign_22 (by decide) (fun h22 => ?_) (fun h22 => absurd rfl h22)
    refine x_aload_0 K dX7_sign_27 ?_
    refine x_dup K dX7_sign_28 rfl ?_
    refine x_getI K gfRX7_214 ⟨by decide, (by decide)⟩ dX7_sign_29 ?_
    refine gWX.top (b := (q.1 : Int)) rfl ?_
    refine x_iconst K dX7_sign_32 ?_
    refine x_iadd K dX7_sign_33 ?_
    refine x_putI K gpRX7_214 ⟨by decide, (by decide)⟩ dX7_sign_34 ?_
    refine gWX.eq (σ' := gPz σ ((q.1 : Int) + 1) 0 m O) (gPz_p _ _ _ _ _ _) ?_
    refine x_aload_0 K dX7_sign_37 ?_
    refine x_getC K gfRX7_29 ⟨by decide, (by decide)⟩ dX7_sign_38 ?_
    refine x_aload_0 K dX7_sign_41 ?_
    refine x_getI K gfRX7_214 ⟨by decide, (by decide)⟩ dX7_sign_42 ?_
    refine gWX.top (b := (q.1 : Int) + 1) rfl ?_
    refine x_iconst K dX7_sign_45 ?_
    refine x_isub K dX7_sign_46 ?_
    refine gWX.top (b := (q.1 : Int)) (by omega) ?_
    refine x_cald K q.1 rfl rfl ⟨by decide, by decide⟩ (by omega) dX7_sign_47 ?_
    refine gWX.top (b := T q.1) (hI.2.2 q.1 (by omega)).1 ?_
    refine x_iload_1 K dX7_sign_48 ?_
    refine x_isub K dX7_sign_49 ?_
    exact x_iret K hE rfl dX7_sign_50 (by decide) (by decide) e2.symm (by rw [e1]; rfl)
  · have hx : ¬ m_h T l q lo hi := fun y => by rw [gB1_t y] at h7; omega
    have e1 : m_sg T l q lo hi = (q.1, 1) := if_neg hx
    have e2 : m_vl T l q lo hi = 0 := if_neg hx
    refine x_iconst K dX7_sign_10 ?_
    refine x_goto (tgt := 15) K dX7_sign_11 (by decide) ?_
    refine x_putZ K gpRX7_211 ⟨by decide, (by decide)⟩ (by omega) dX7_sign_15 ?_
    refine gWX.eq (σ' := gPz σ (q.1 : Int) 1 m O) (gPz_b _ _ _ _ _ _) ?_
    refine x_aload_0 K dX7_sign_18 ?_
    refine x_getI K gfRX7_211 ⟨by decide, (by decide)⟩ dX7_sign_19 ?_
    refine gWX.top (b := 1) rfl ?_
    refine x_if_eq (tgt := 27) K (by omega) dX7_sign_22 (by decide) (fun h22 => absurd h22 (by omega)) (fun h22 => ?_)
    refine x_iconst K dX7_sign_25 ?_
    exact x_iret K hE rfl dX7_sign_26 (by decide) (by decide) e2.symm (by rw [e1])
theorem c7_digit {E : gE} {σ : gS} (T : Nat → Int) (l : Nat) (hI : gI7 σ T l) (q : Nat × Int) (hq : m_q l q) (m : Int) (O : Nat → Int) : gCt E mX7_digit 4 0 [rf 14 0] (gPq σ q m O) (.inl (some (iv (m_vl T l q 48 57)))) (gPq σ (m_sg T l q 48 57) m O) := by
  refine gCt_of (L := [some (rf 14 0)]) (by decide +kernel) rfl rfl (Nat.le_of_ble_eq_true rfl) (fun X K hE => ?_)
  refine x_aload_0 K dX7_digit_0 ?_
  refine x_bipush K dX7_digit_1 rfl ?_
  refine x_bipush K dX7_digit_3 rfl ?_
  refine x_callV2 K (c7_sign T l hI q hq m O 48 57 (by omega)) mtX7_sign miX7_sign rc14 ⟨by decide, (by decide)⟩ lkRX7_221 ⟨by decide, by decide, by decide⟩ rfl (Nat.le_of_ble_eq_true rfl) dX7_digit_5 ?_
  exact x_iret K hE rfl dX7_digit_8 (by decide) (by decide) rfl rfl
theorem c7_digitBehind {E : gE} {σ : gS} (T : Nat → Int) (l : Nat) (hI : gI7 σ T l) (q : Nat × Int) (hq : m_q l q) (m : Int) (O : Nat → Int) (c : Int) (hc : 0 ≤ c ∧ c < 65536) : gCt E mX7_digitBehind 5 0 [rf 14 0, iv c] (gPq σ q m O) (.inl (some (iv (m_vl T l (m_sg T l q c c) 48 57)))) (gPq σ (m_sg T l (m_sg T l q c c) 48 57) m O) := by
  refine gCt_of (L := [some (rf 14 0), some (iv c), none]) (by decide +kernel) rfl rfl (Nat.le_of_ble_eq_true rfl) (fun X K hE => ?_)
  refine x_aload_0 K dX7_digitBehind_0 ?_
  refine x_iload_1 K dX7_digitBehind_1 ?_
  refine x_iload_1 K dX7_digitBehind_2 ?_
  refine x_callV2 K (c7_sign T l hI q hq m O c c ⟨hc, hc⟩) mtX7_sign miX7_sign rc14 ⟨by decide, (by decide)⟩ lkRX7_221 ⟨by decide, by decide, by decide⟩ rfl (Nat.le_of_ble_eq_true rfl) dX7_digitBehind_3 ?_
  refine x_istore_2 K dX7_digitBehind_6 rfl ?_
  refine x_aload_0 K dX7_digitBehind_7 ?_
  refine x_callV0 K (c7_digit T l hI _ (m_sg_q hq) m O) mtX7_digit miX7_digit rc14 ⟨by decide, (by decide)⟩ lkRX7_225 ⟨by decide, by decide, by decide⟩ rfl (Nat.le_of_ble_eq_true rfl) dX7_digitBehind_8 ?_
  exact x_iret K hE rfl dX7_digitBehind_11 (by decide) (by decide) rfl rfl
/-- one letter of a form taken -/
def m_stp (T : Nat → Int) (l : Nat) (q : Nat × Int) (c : Int) : Nat × Int := if c = 35 then m_sg T l q 48 57 else m_sg T l q c c
/-- the place behind the letter j of the form d that begins at s -/
def m_at (T : Nat → Int) (l s d : Nat) : Nat → Nat × Int
  | 0 => (s + 1, 0)
  | j + 1 => m_stp T l (m_at T l s d j) ((gDb d).getD (j + 1) 0)
def m_fin (T : Nat → Int) (l s d : Nat) : Nat × Int := m_at T l s d ((gDb d).length - 1)
def m_v (T : Nat → Int) (l s d k : Nat) : Int := if 2 * k + 1 < (gDb d).length then m_vl T l (m_at T l s d (2 * k)) 48 57 else 0
/-- the table of orders with one more -/
def m_O (T : Nat → Int) (l s d m : Nat) (O : Nat → Int) : Nat → Int := fun c => if c = 5 * m + 4 then m_v T l s d 3 else if c = 5 * m + 3 then m_v T l s d 2 else if c = 5 * m + 2 then m_v T l s d 1 else if c = 5 * m + 1 then m_v T l s d 0 else if c = 5 * m then gD1 d else O c
theorem m_at_q {T : Nat → Int} {l s d : Nat} (hs : s < l) : ∀ j, m_q l (m_at T l s d j)
  | 0 => ⟨by show s + 1 ≤ l; omega, Or.inl rfl⟩
  | j + 1 => by
    have ih := m_at_q (T := T) (d := d) hs j
    show m_q l (m_stp T l (m_at T l s d j) _)
    unfold m_stp
    split <;> exact m_sg_q ih
/-- the letters that begin an order -/
theorem gLb_D : ∀ d, d < 8 → 1 ≤ d → gLb.getD (d - 1) 0 = gD1 d ∧ gI8 (gD1 d) = gD1 d := by decide
theorem m_ix (c : Int) (hc : 0 ≤ c ∧ c < 65536) : gIxr (fun j => gLb.getD j 0) 7 c ≠ -1 ↔ ∃ d, d < 8 ∧ 1 ≤ d ∧ c = gD1 d := by
  have hall : ∀ j, j < 7 → 0 < gLb.getD j 0 ∧ gLb.getD j 0 < 128 := by decide
  constructor
  · intro h
    unfold gIxr at h
    split at h
    · rename_i h256
      obtain ⟨j, _, px, _, hj, _⟩ := gFst_yes h
      have e := of_decide_eq_true px
      have b := hall j (by omega)
      refine ⟨j + 1, by omega, by omega, ?_⟩
      have e2 := (gLb_D (j + 1) (by omega) (by omega)).1
      rw [Nat.add_sub_cancel] at e2
      have b2 : 0 < gI8 c := by rw [← e]; exact b.1
      rw [← e2]
      refine Eq.trans ?_ e.symm
      unfold gI8 at b2 ⊢
      by_cases q : c % 256 < 128
      · rw [if_pos q]; omega
      · rw [if_neg q] at b2; omega
    · exact absurd rfl h
  · rintro ⟨d, hd, h1, rfl⟩
    have e := gLb_D d hd h1
    have b := hall (d - 1) (by omega)
    rw [e.1] at b
    unfold gIxr
    rw [if_pos (by omega)]
    intro q
    have := gFst_no q (d - 1) (by omega) (by omega)
    have h3 : ¬ gLb.getD (d - 1) 0 = gI8 (gD1 d) := of_decide_eq_false this
    rw [e.1, e.2] at h3
    exact h3 rfl
