/-! ===== the world with scroll i's numbers put to z ===== -/
def gPut (σ : gS) (i : Nat) (z : Nat → Int) : gS := (fun a b c => if b = i then (
    if a = 3 then (if 4 ≤ c ∧ c < 10 then z (c - 4) else σ.1 a b c)
    else if a = 4 then (if c < 48 then z (20 + c) else σ.1 a b c)
    else if a = 5 then (if c < 14 then s_b z c else σ.1 a b c)
    else if a = 6 then (if c < 14 then s_m z c else σ.1 a b c)
    else if a = 7 then (if c < 14 then z (6 + c) else σ.1 a b c)
    else σ.1 a b c) else σ.1 a b c, σ.2)
theorem gPut_2 (σ : gS) (i : Nat) (z : Nat → Int) : (gPut σ i z).2 = σ.2 := rfl
theorem gPut_oi (σ : gS) (i : Nat) (z : Nat → Int) {a b c : Nat} (h : b ≠ i) : (gPut σ i z).1 a b c = σ.1 a b c := if_neg h
theorem gPut_ok (σ : gS) (i : Nat) (z : Nat → Int) {a b c : Nat} (h : ¬ (3 ≤ a ∧ a ≤ 7)) : (gPut σ i z).1 a b c = σ.1 a b c := by
  show (if b = i then _ else σ.1 a b c) = _
  by_cases hb : b = i
  · rw [if_pos hb, if_neg (by omega), if_neg (by omega), if_neg (by omega), if_neg (by omega), if_neg (by omega)]
  · rw [if_neg hb]
theorem gPut_3 (σ : gS) (i : Nat) (z : Nat → Int) (c : Nat) : (gPut σ i z).1 3 i c = if 4 ≤ c ∧ c < 10 then z (c - 4) else σ.1 3 i c := by
  show (if i = i then _ else _) = _
  rw [if_pos rfl, if_pos rfl]
theorem gPut_4 (σ : gS) (i : Nat) (z : Nat → Int) (c : Nat) : (gPut σ i z).1 4 i c = if c < 48 then z (20 + c) else σ.1 4 i c := by
  show (if i = i then _ else _) = _
  rw [if_pos rfl, if_neg (by omega), if_pos rfl]
theorem gPut_5 (σ : gS) (i : Nat) (z : Nat → Int) (c : Nat) : (gPut σ i z).1 5 i c = if c < 14 then s_b z c else σ.1 5 i c := by
  show (if i = i then _ else _) = _
  rw [if_pos rfl, if_neg (by omega), if_neg (by omega), if_pos rfl]
theorem gPut_6 (σ : gS) (i : Nat) (z : Nat → Int) (c : Nat) : (gPut σ i z).1 6 i c = if c < 14 then s_m z c else σ.1 6 i c := by
  show (if i = i then _ else _) = _
  rw [if_pos rfl, if_neg (by omega), if_neg (by omega), if_neg (by omega), if_pos rfl]
theorem gPut_7 (σ : gS) (i : Nat) (z : Nat → Int) (c : Nat) : (gPut σ i z).1 7 i c = if c < 14 then z (6 + c) else σ.1 7 i c := by
  show (if i = i then _ else _) = _
  rw [if_pos rfl, if_neg (by omega), if_neg (by omega), if_neg (by omega), if_neg (by omega), if_pos rfl]
theorem gScr_put (σ : gS) (i : Nat) (z : Nat → Int) : gScr (gPut σ i z) i z := by
  refine ⟨?_, ?_, ?_, ?_, ?_, ?_, fun j hj => ?_, fun b hb => ?_, fun b hb => ?_, fun b hb => ?_⟩
  · rw [gPut_3]; rfl
  · rw [gPut_3]; rfl
  · rw [gPut_3]; rfl
  · rw [gPut_3]; rfl
  · rw [gPut_3]; rfl
  · rw [gPut_3]; rfl
  · rw [gPut_4, if_pos hj]
  · rw [gPut_5, if_pos hb]
  · rw [gPut_6, if_pos hb]
  · rw [gPut_7, if_pos hb]
/-- what is known of a scroll, and nothing else changed: the world is told by its numbers -/
theorem gPut_eq {σ σ' : gS} {i : Nat} {z : Nat → Int} (h : gScr σ' i z) (h2 : σ'.2 = σ.2) (ho : ∀ a b c, ¬ (b = i ∧ ((a = 3 ∧ 4 ≤ c ∧ c < 10) ∨ (a = 4 ∧ c < 48) ∨ (a = 5 ∧ c < 14) ∨ (a = 6 ∧ c < 14) ∨ (a = 7 ∧ c < 14))) → σ'.1 a b c = σ.1 a b c) : σ' = gPut σ i z := by
  obtain ⟨e0, e1, e2, e3, e4, e5, es, eb, em, et⟩ := h
  refine gS_ext (fun a b c => ?_) h2
  by_cases hb : b = i
  · subst hb
    by_cases h3 : a = 3
    · subst h3
      rw [gPut_3]
      by_cases hc : 4 ≤ c ∧ c < 10
      · rw [if_pos hc]
        obtain rfl | rfl | rfl | rfl | rfl | rfl : c = 4 ∨ c = 5 ∨ c = 6 ∨ c = 7 ∨ c = 8 ∨ c = 9 := by omega
        · exact e0
        · exact e1
        · exact e2
        · exact e3
        · exact e4
        · exact e5
      · rw [if_neg hc, ho 3 b c (by omega)]
    by_cases h4 : a = 4
    · subst h4
      rw [gPut_4]
      split
      · rename_i hc; exact es c hc
      · rw [ho 4 b c (by omega)]
    by_cases h5 : a = 5
    · subst h5
      rw [gPut_5]
      split
      · rename_i hc; exact eb c hc
      · rw [ho 5 b c (by omega)]
    by_cases h6 : a = 6
    · subst h6
      rw [gPut_6]
      split
      · rename_i hc; exact em c hc
      · rw [ho 6 b c (by omega)]
    by_cases h7 : a = 7
    · subst h7
      rw [gPut_7]
      split
      · rename_i hc; exact et c hc
      · rw [ho 7 b c (by omega)]
    rw [gPut_ok σ b z (by omega), ho a b c (by omega)]
  · rw [gPut_oi σ i z hb, ho a b c (by omega)]
theorem gPut_self {σ : gS} {i : Nat} {z : Nat → Int} (h : gScr σ i z) : gPut σ i z = σ := (gPut_eq h rfl (fun _ _ _ _ => rfl)).symm
theorem gPut_put (σ : gS) (i : Nat) (z y : Nat → Int) : gPut (gPut σ i z) i y = gPut σ i y := by
  refine gPut_eq (gScr_put _ i y) rfl (fun a b c hn => ?_)
  by_cases hb : b = i
  · subst hb
    by_cases h3 : a = 3
    · subst h3; rw [gPut_3, if_neg (by omega), gPut_3, if_neg (by omega)]
    by_cases h4 : a = 4
    · subst h4; rw [gPut_4, if_neg (by omega), gPut_4, if_neg (by omega)]
    by_cases h5 : a = 5
    · subst h5; rw [gPut_5, if_neg (by omega), gPut_5, if_neg (by omega)]
    by_cases h6 : a = 6
    · subst h6; rw [gPut_6, if_neg (by omega), gPut_6, if_neg (by omega)]
    by_cases h7 : a = 7
    · subst h7; rw [gPut_7, if_neg (by omega), gPut_7, if_neg (by omega)]
    rw [gPut_ok _ b y (by omega), gPut_ok σ b z (by omega)]
  · rw [gPut_oi _ i y hb, gPut_oi σ i z hb]
theorem gSetS_put {σ : gS} {i : Nat} {z : Nat → Int} (h : gScr σ i z) {r c : Nat} (s : Int) (hr : r < 6) (hc : c < 8) : gSetS σ i r c s = gPut σ i (zset z r c s) := by
  refine gPut_eq (gScr_set h s hr hc) rfl (fun a b j hn => ?_)
  by_cases hb : b = i
  · subst hb
    by_cases h4 : a = 4
    · subst h4; rw [gSetS_4, if_neg (by omega)]
    by_cases h5 : a = 5
    · subst h5; rw [gSetS_5 σ b r c s j hr, if_neg (by omega), Int.add_zero]
    by_cases h6 : a = 6
    · subst h6; rw [gSetS_6 σ b r c s j hr, if_neg (by omega), Int.add_zero]
    exact gSetS_off σ b r c s (by omega)
  · exact gSetS_off σ i r c s (by omega)
theorem gScr_po {σ : gS} {i k : Nat} {z y : Nat → Int} (h : gScr σ k y) (hk : k ≠ i) : gScr (gPut σ i z) k y := by
  obtain ⟨e0, e1, e2, e3, e4, e5, es, eb, em, et⟩ := h
  exact ⟨by rw [gPut_oi σ i z hk]; exact e0, by rw [gPut_oi σ i z hk]; exact e1, by rw [gPut_oi σ i z hk]; exact e2, by rw [gPut_oi σ i z hk]; exact e3, by rw [gPut_oi σ i z hk]; exact e4, by rw [gPut_oi σ i z hk]; exact e5, fun j hj => by rw [gPut_oi σ i z hk]; exact es j hj, fun j hj => by rw [gPut_oi σ i z hk]; exact eb j hj, fun j hj => by rw [gPut_oi σ i z hk]; exact em j hj, fun j hj => by rw [gPut_oi σ i z hk]; exact et j hj⟩
/-- a scroll known is known by the same numbers -/
theorem gPut_zc (σ : gS) (i : Nat) {z y : Nat → Int} (h : ∀ j, j < 68 → z j = y j) : gPut σ i z = gPut σ i y := by
  have hb : ∀ b, b < 14 → s_b z b = s_b y b := fun b hb => by
    unfold s_b s_rs s_cs
    split
    · exact gSum_cong 8 (fun k hk => by rw [h _ (by omega)])
    · exact gSum_cong 6 (fun k hk => by rw [h _ (by omega)])
  have hm : ∀ b, b < 14 → s_m z b = s_m y b := fun b hb => by
    unfold s_m s_rm s_cm
    split
    · exact gSum_cong 8 (fun k hk => by rw [h _ (by omega)])
    · exact gSum_cong 6 (fun k hk => by rw [h _ (by omega)])
  refine gPut_eq (σ' := gPut σ i z) ?_ rfl (fun a b c hn => ?_)
  · obtain ⟨e0, e1, e2, e3, e4, e5, es, eb, em, et⟩ := gScr_put σ i z
    exact ⟨e0.trans (h 0 (by omega)), e1.trans (h 1 (by omega)), e2.trans (h 2 (by omega)), e3.trans (h 3 (by omega)), e4.trans (h 4 (by omega)), e5.trans (h 5 (by omega)), fun j hj => (es j hj).trans (h _ (by omega)), fun j hj => (eb j hj).trans (hb j hj), fun j hj => (em j hj).trans (hm j hj), fun j hj => (et j hj).trans (h _ (by omega))⟩
  · by_cases hbi : b = i
    · subst hbi
      by_cases h3 : a = 3
      · subst h3; rw [gPut_3, if_neg (by omega)]
      by_cases h4 : a = 4
      · subst h4; rw [gPut_4, if_neg (by omega)]
      by_cases h5 : a = 5
      · subst h5; rw [gPut_5, if_neg (by omega)]
      by_cases h6 : a = 6
      · subst h6; rw [gPut_6, if_neg (by omega)]
      by_cases h7 : a = 7
      · subst h7; rw [gPut_7, if_neg (by omega)]
      rw [gPut_ok σ b z (by omega)]
    · rw [gPut_oi σ i z hbi]
