/-! ===== what the law's loop keeps: the class, the reference, and what both stand for ===== -/
def CI (σ : gS) (Y : Nat → Int) (pm : Nat) (P : Nat → Nat → Int) (sv : Int) (S : Nat → Int) (rs dt er : Int) (T : Nat → Int) (l k : Nat) (w : Nat → Int) : Prop :=
  (gSh σ 0 Y ∧ gHp σ ∧ σ.1 8 0 1 = (pm : Int) ∧ ∀ j, j < pm → gSh σ (σ.2.1 j) (P j)) ∧ (σ.1 0 0 7 = sv ∧ (sv = 1 → gSh σ 2 S)) ∧ (σ.1 0 0 9 = rs ∧ σ.1 0 0 10 = dt ∧ σ.1 0 0 8 = er) ∧ gIn σ T l ∧ σ.1 12 0 1 = 0 ∧ σ.1 12 0 3 = (k : Int) ∧ ∀ j, j < k → σ.1 13 0 j = w j
def MI (σ : gS) (Y : Nat → Int) (pm : Nat) (P : Nat → Nat → Int) (sv : Int) (S : Nat → Int) (rs dt er : Int) (T : Nat → Int) (l k : Nat) (w : Nat → Int) : Prop :=
  (gMs σ Y ∧ σ.1 14 0 6 = (pm : Int) ∧ ∀ j, j < pm → ∀ i, i < 345 → σ.1 19 0 (345 * j + i) = P j i) ∧ (σ.1 14 0 4 = sv ∧ (sv = 1 → ∀ i, i < 345 → σ.1 18 0 i = S i)) ∧ (σ.1 14 0 8 = rs ∧ σ.1 14 0 9 = dt ∧ σ.1 14 0 17 = er) ∧ gI7 σ T l ∧ σ.1 14 0 12 = (k : Int) ∧ ∀ j, j < k → σ.1 20 0 j = w j
def VI (Y : Nat → Int) (pm : Nat) (P : Nat → Nat → Int) (sv : Int) (S : Nat → Int) (rs er : Int) (k : Nat) (w : Nat → Int) : Prop :=
  gY Y ∧ pm ≤ 8 ∧ (∀ j, j < pm → gY (P j)) ∧ (sv = 0 ∨ sv = 1) ∧ (sv = 1 → gY S) ∧ (rs = 0 ∨ 1 ≤ rs ∧ rs ≤ 7) ∧ (-1 ≤ er ∧ er ≤ 1000) ∧ k ≤ 12 ∧ ∀ j, j < k → 0 ≤ w j ∧ w j < 128
def gInv (σ : gS) : Prop := ∃ Y pm P sv S rs dt er T l k w, CI σ Y pm P sv S rs dt er T l k w ∧ MI σ Y pm P sv S rs dt er T l k w ∧ VI Y pm P sv S rs er k w
/-- what one side does leaves the other -/
def gHi (σ σ' : gS) : Prop := ∀ a b c, 14 ≤ a → σ'.1 a b c = σ.1 a b c
def gLow (σ σ' : gS) : Prop := (∀ a b c, a < 14 → σ'.1 a b c = σ.1 a b c) ∧ σ'.2.1 = σ.2.1
section INV
variable {σ σ' : gS} {Y : Nat → Int} {pm : Nat} {P : Nat → Nat → Int} {sv : Int} {S : Nat → Int} {rs dt er : Int} {T : Nat → Int} {l k : Nat} {w : Nat → Int}
theorem gSh_cg {sh : Nat} (h0 : Y 0 ≤ 5) (he : ∀ a b c, (a = 1 ∨ 3 ≤ a ∧ a ≤ 7) → σ'.1 a b c = σ.1 a b c) (h : gSh σ sh Y) : gSh σ' sh Y :=
  gSh_ext h0 (fun c _ _ => he _ _ _ (Or.inl rfl)) (fun a b c h3 h7 _ => he _ _ _ (Or.inr ⟨h3, h7⟩)) h
theorem CI_lo (hv : VI Y pm P sv S rs er k w) (he : gLow σ σ') (h : CI σ Y pm P sv S rs dt er T l k w) : CI σ' Y pm P sv S rs dt er T l k w := by
  obtain ⟨⟨a1, a2, a3, a4⟩, ⟨b1, b2⟩, ⟨c1, c2, c3⟩, d1, d2, d3, d4⟩ := h
  obtain ⟨v1, v2, v3, v4, v5, _⟩ := hv
  obtain ⟨e1, e2⟩ := he
  refine ⟨⟨gSh_cg v1.1.2 (fun a b c q => e1 a b c (by omega)) a1, gHp_ext e2 (e1 _ _ _ (by omega)) a2, (e1 _ _ _ (by omega)).trans a3, fun j hj => ?_⟩, ⟨(e1 _ _ _ (by omega)).trans b1, fun q => gSh_cg (v5 q).1.2 (fun a b c q => e1 a b c (by omega)) (b2 q)⟩, ⟨(e1 _ _ _ (by omega)).trans c1, (e1 _ _ _ (by omega)).trans c2, (e1 _ _ _ (by omega)).trans c3⟩, gIn_ext (e1 _ _ _ (by omega)) (fun j => e1 _ _ _ (by omega)) d1, (e1 _ _ _ (by omega)).trans d2, (e1 _ _ _ (by omega)).trans d3, fun j hj => (e1 _ _ _ (by omega)).trans (d4 j hj)⟩
  rw [e2]
  exact gSh_cg (v3 j hj).1.2 (fun a b c q => e1 a b c (by omega)) (a4 j hj)
theorem gI7_ext (he : ∀ a b c, 14 ≤ a → σ'.1 a b c = σ.1 a b c) (h : gI7 σ T l) : gI7 σ' T l := ⟨(he _ _ _ (by omega)).trans h.1, h.2.1, fun j hj => ⟨(he _ _ _ (by omega)).trans (h.2.2 j hj).1, (h.2.2 j hj).2⟩⟩
theorem MI_hi (he : gHi σ σ') (h : MI σ Y pm P sv S rs dt er T l k w) : MI σ' Y pm P sv S rs dt er T l k w := by
  obtain ⟨⟨a1, a2, a3⟩, ⟨b1, b2⟩, ⟨c1, c2, c3⟩, d1, d2, d3⟩ := h
  exact ⟨⟨fun j hj => (he _ _ _ (by omega)).trans (a1 j hj), (he _ _ _ (by omega)).trans a2, fun j hj i hi => (he _ _ _ (by omega)).trans (a3 j hj i hi)⟩, ⟨(he _ _ _ (by omega)).trans b1, fun q i hi => (he _ _ _ (by omega)).trans (b2 q i hi)⟩, ⟨(he _ _ _ (by omega)).trans c1, (he _ _ _ (by omega)).trans c2, (he _ _ _ (by omega)).trans c3⟩, gI7_ext he d1, (he _ _ _ (by omega)).trans d2, fun j hj => (he _ _ _ (by omega)).trans (d3 j hj)⟩
/-- the out cells are nobody's -/
theorem gHi_o (x : Int64) (h : gHi σ σ') : gHi σ (gOl σ' x) := h
theorem gHi_d (x : UInt64) (h : gHi σ σ') : gHi σ (gOd σ' x) := h
theorem gLow_o (x : Int64) : gLow σ (gOl σ x) := ⟨fun _ _ _ _ => rfl, rfl⟩
theorem gLow_d (x : UInt64) : gLow σ (gOd σ x) := ⟨fun _ _ _ _ => rfl, rfl⟩
theorem gLow_t {a b : gS} (h : gLow σ a) (h2 : gLow a b) : gLow σ b := ⟨fun x y z q => (h2.1 x y z q).trans (h.1 x y z q), h2.2.trans h.2⟩
theorem gHi_rf : gHi σ σ := fun _ _ _ _ => rfl
theorem gHi_u {σ2 : gS} (i b c : Nat) (v : Int) (hi : i < 14) (h : gHi σ σ2) : gHi σ (gU σ2 i b c v) := fun x y z q => by
  rw [gU_at, if_neg (by omega)]; exact h x y z q
theorem gHi_sh {σ2 : gS} (sh : Nat) (Z : Nat → Int) (h : gHi σ σ2) : gHi σ (gShPut σ2 sh Z) := fun x y z q => by
  rw [gShPut, gShPm_off _ _ _ _ (by unfold gShC; omega)]; exact h x y z q
theorem gHi_put {σ2 : gS} (i : Nat) (z : Nat → Int) (h : gHi σ σ2) : gHi σ (gPut σ2 i z) := fun x y c q => by
  rw [gPut_off _ _ _ (by omega)]; exact h x y c q
theorem gHi_rem {σ2 : gS} (Z : Nat → Int) (h : gHi σ σ2) : gHi σ (gRem σ2 Z) := by
  unfold gRem
  split
  · refine gHi_u _ _ _ _ (by omega) (gHi_sh _ _ (gHi_u _ _ _ _ (by omega) ?_))
    exact h
  · exact gHi_u _ _ _ _ (by omega) (gHi_sh _ _ h)
theorem gHi_tx {σ2 : gS} (t : List Int) (h : gHi σ σ2) : gHi σ (gTx σ2 t) := fun x y z q => by
  rw [gTx_at, if_neg (by omega), if_neg (by omega)]; exact h x y z q
theorem gLow_u {σ2 : gS} (i b c : Nat) (v : Int) (hi : 14 ≤ i) (h : gLow σ σ2) : gLow σ (gU σ2 i b c v) := ⟨fun x y z q => by
  rw [gU_at, if_neg (by omega)]; exact h.1 x y z q, h.2⟩
theorem gLow_cp {σ2 : gS} (k0 i0 k1 i1 a b n : Nat) (hi : 14 ≤ k1) (h : gLow σ σ2) : gLow σ (gCp σ2 k0 i0 k1 i1 a b n) := ⟨fun x y z q => by
  rw [gCp_at, if_neg (by omega)]; exact h.1 x y z q, h.2⟩
theorem gLow_mp {σ2 : gS} (Z : Nat → Int) (h : gLow σ σ2) : gLow σ (gMp σ2 Z) := ⟨fun x y z q => by
  rw [gMp_at, if_neg (by omega)]; exact h.1 x y z q, h.2⟩
theorem gLow_rf : gLow σ σ := ⟨fun _ _ _ _ => rfl, rfl⟩
theorem gLow_kp {σ2 : gS} (h : gLow σ σ2) : gLow σ (gKp σ2) := gLow_cp _ _ _ _ _ _ _ (by omega) (gLow_u _ _ _ _ (by omega) h)
theorem gLow_en {σ2 : gS} (n : Nat) (h : gLow σ σ2) : gLow σ (gEn σ2 n) := by
  unfold gEn gEq gSf
  split
  · exact gLow_u _ _ _ _ (by omega) (gLow_cp _ _ _ _ _ _ _ (by omega) (gLow_u _ _ _ _ (by omega) (gLow_cp _ _ _ _ _ _ _ (by omega) h)))
  · exact gLow_u _ _ _ _ (by omega) (gLow_cp _ _ _ _ _ _ _ (by omega) h)
theorem gLow_ru {σ2 : gS} (p w d : Int) (h : gLow σ σ2) : gLow σ (gRu σ2 p w d) := gLow_u _ _ _ _ (by omega) (gLow_u _ _ _ _ (by omega) (gLow_u _ _ _ _ (by omega) (gLow_u _ _ _ _ (by omega) h)))
theorem gLow_fl {σ2 : gS} (p : Int) (h : gLow σ σ2) : gLow σ (gFl σ2 p) := gLow_u _ _ _ _ (by omega) h
theorem gLow_mo {σ2 : gS} (d : Nat) (Z : Nat → Int) (s r c e : Int) (h : gLow σ σ2) : gLow σ (gMO d σ2 Z s r c e) := by
  unfold gMO
  split
  · exact gLow_mp _ h
  · split
    · exact gLow_fl _ h
    · exact gLow_ru _ _ _ h
theorem gLow_as (t : Int) : gLow σ (gAs σ t) := gLow_u _ _ _ _ (by omega) (gLow_cp _ _ _ _ _ _ _ (by omega) (gLow_fl 0 gLow_rf))
theorem gLow_ml {σ2 : gS} (t : List Int) (h : gLow σ σ2) : gLow σ (gMl σ2 t) := ⟨fun x y z q => by
  rw [gMl_at, if_neg (by omega), if_neg (by omega)]; exact h.1 x y z q, h.2⟩
theorem gLow_pz {σ2 : gS} (p b m : Int) (O : Nat → Int) (h : gLow σ σ2) : gLow σ (gPz σ2 p b m O) := ⟨fun x y z q => by
  rw [gPz_at, if_neg (by omega), if_neg (by omega), if_neg (by omega), if_neg (by omega)]; exact h.1 x y z q, h.2⟩
/-- the trial scroll is nobody's -/
theorem CI_55 (z : Nat → Int) (hv : VI Y pm P sv S rs er k w) (h : CI σ Y pm P sv S rs dt er T l k w) : CI (gPut σ 55 z) Y pm P sv S rs dt er T l k w := by
  obtain ⟨⟨a1, a2, a3, a4⟩, ⟨b1, b2⟩, ⟨c1, c2, c3⟩, d1, d2, d3, d4⟩ := h
  obtain ⟨v1, v2, v3, v4, v5, _⟩ := hv
  have key : ∀ (sh : Nat) (Z : Nat → Int), sh < 11 → Z 0 ≤ 5 → gSh σ sh Z → gSh (gPut σ 55 z) sh Z := fun sh Z hs h0 h => gSh_ext h0 (fun c _ _ => gPut_off _ _ _ (by omega)) (fun a b c _ _ hb => gPut_off _ _ _ (by omega)) h
  exact ⟨⟨key 0 Y (by omega) v1.1.2 a1, gHp_ext rfl (gPut_off _ _ _ (by omega)) a2, (gPut_off _ _ _ (by omega)).trans a3, fun j hj => key _ _ (a2.1 j (by omega)).2 (v3 j hj).1.2 (a4 j hj)⟩, ⟨(gPut_off _ _ _ (by omega)).trans b1, fun q => key 2 S (by omega) (v5 q).1.2 (b2 q)⟩, ⟨(gPut_off _ _ _ (by omega)).trans c1, (gPut_off _ _ _ (by omega)).trans c2, (gPut_off _ _ _ (by omega)).trans c3⟩, gIn_ext (gPut_off _ _ _ (by omega)) (fun j => gPut_off _ _ _ (by omega)) d1, (gPut_off _ _ _ (by omega)).trans d2, (gPut_off _ _ _ (by omega)).trans d3, fun j hj => (gPut_off _ _ _ (by omega)).trans (d4 j hj)⟩
/-- the mark "thrown" is asked at once -/
theorem MI_fl (t : Int) (h : MI σ Y pm P sv S rs dt er T l k w) : MI (gFl σ t) Y pm P sv S rs dt er T l k w := by
  have e : ∀ a b c, ¬ (a = 14 ∧ c = 7) → (gFl σ t).1 a b c = σ.1 a b c := fun a b c q => by rw [gU_at, if_neg (by omega)]
  obtain ⟨⟨a1, a2, a3⟩, ⟨b1, b2⟩, ⟨c1, c2, c3⟩, d1, d2, d3⟩ := h
  exact ⟨⟨fun j hj => (e _ _ _ (by omega)).trans (a1 j hj), (e _ _ _ (by omega)).trans a2, fun j hj i hi => (e _ _ _ (by omega)).trans (a3 j hj i hi)⟩, ⟨(e _ _ _ (by omega)).trans b1, fun q i hi => (e _ _ _ (by omega)).trans (b2 q i hi)⟩, ⟨(e _ _ _ (by omega)).trans c1, (e _ _ _ (by omega)).trans c2, (e _ _ _ (by omega)).trans c3⟩, ⟨(e _ _ _ (by omega)).trans d1.1, d1.2.1, fun j hj => ⟨(e _ _ _ (by omega)).trans (d1.2.2 j hj).1, (d1.2.2 j hj).2⟩⟩, (e _ _ _ (by omega)).trans d2, fun j hj => (e _ _ _ (by omega)).trans (d3 j hj)⟩
/-- nor are the rows aside, before, the orders and the marks of a reading -/
def gQt (a c : Nat) : Prop := (a = 14 ∧ (c = 7 ∨ c = 10 ∨ c = 15 ∨ c = 16 ∨ c = 19)) ∨ a = 16 ∨ a = 17 ∨ a = 22
theorem MI_qt (e : ∀ a b c, 14 ≤ a → ¬ gQt a c → σ'.1 a b c = σ.1 a b c) (h : MI σ Y pm P sv S rs dt er T l k w) : MI σ' Y pm P sv S rs dt er T l k w := by
  unfold gQt at e
  obtain ⟨⟨a1, a2, a3⟩, ⟨b1, b2⟩, ⟨c1, c2, c3⟩, d1, d2, d3⟩ := h
  exact ⟨⟨fun j hj => (e _ _ _ (by omega) (by omega)).trans (a1 j hj), (e _ _ _ (by omega) (by omega)).trans a2, fun j hj i hi => (e _ _ _ (by omega) (by omega)).trans (a3 j hj i hi)⟩, ⟨(e _ _ _ (by omega) (by omega)).trans b1, fun q i hi => (e _ _ _ (by omega) (by omega)).trans (b2 q i hi)⟩, ⟨(e _ _ _ (by omega) (by omega)).trans c1, (e _ _ _ (by omega) (by omega)).trans c2, (e _ _ _ (by omega) (by omega)).trans c3⟩, ⟨(e _ _ _ (by omega) (by omega)).trans d1.1, d1.2.1, fun j hj => ⟨(e _ _ _ (by omega) (by omega)).trans (d1.2.2 j hj).1, (d1.2.2 j hj).2⟩⟩, (e _ _ _ (by omega) (by omega)).trans d2, fun j hj => (e _ _ _ (by omega) (by omega)).trans (d3 j hj)⟩
theorem MI_as (t : Int) (h : MI σ Y pm P sv S rs dt er T l k w) : MI (gAs σ t) Y pm P sv S rs dt er T l k w := MI_qt (fun a b c _ q => by
  unfold gQt at q
  unfold gAs
  rw [gU_at, if_neg (by omega), gCp_at, if_neg (by omega), gU_at, if_neg (by omega)]) h
theorem MI_kp (h : MI σ Y pm P sv S rs dt er T l k w) : MI (gKp σ) Y pm P sv S rs dt er T l k w := MI_qt (fun a b c _ q => by
  unfold gQt at q
  rw [gCp_at, if_neg (by omega), gU_at, if_neg (by omega)]) h
/-- a refusal kept -/
theorem MI_ru (p w2 d : Int) (h : MI σ Y pm P sv S rs dt er T l k w) : MI (gRu σ p w2 d) Y pm P sv S w2 d er T l k w := by
  have e : ∀ a b c, ¬ (a = 14 ∧ (c = 7 ∨ c = 8 ∨ c = 9 ∨ c = 10)) → (gRu σ p w2 d).1 a b c = σ.1 a b c := fun a b c q => by rw [gU_at, if_neg (by omega), gU_at, if_neg (by omega), gU_at, if_neg (by omega), gU_at, if_neg (by omega)]
  obtain ⟨⟨a1, a2, a3⟩, ⟨b1, b2⟩, ⟨c1, c2, c3⟩, d1, d2, d3⟩ := h
  exact ⟨⟨fun j hj => (e _ _ _ (by omega)).trans (a1 j hj), (e _ _ _ (by omega)).trans a2, fun j hj i hi => (e _ _ _ (by omega)).trans (a3 j hj i hi)⟩, ⟨(e _ _ _ (by omega)).trans b1, fun q i hi => (e _ _ _ (by omega)).trans (b2 q i hi)⟩, ⟨rfl, rfl, (e _ _ _ (by omega)).trans c3⟩, ⟨(e _ _ _ (by omega)).trans d1.1, d1.2.1, fun j hj => ⟨(e _ _ _ (by omega)).trans (d1.2.2 j hj).1, (d1.2.2 j hj).2⟩⟩, (e _ _ _ (by omega)).trans d2, fun j hj => (e _ _ _ (by omega)).trans (d3 j hj)⟩
theorem CI_rf (b : Int) (hv : VI Y pm P sv S rs er k w) (h : CI σ Y pm P sv S rs dt er T l k w) : CI (gRf σ b) Y pm P sv S (b / 100) (b % 100) er T l k w := by
  have e : ∀ a x c, ¬ (a = 0 ∧ (c = 9 ∨ c = 10)) → (gRf σ b).1 a x c = σ.1 a x c := fun a x c q => by unfold gRf; rw [gU_at, if_neg (by omega), gU_at, if_neg (by omega)]
  obtain ⟨⟨a1, a2, a3, a4⟩, ⟨b1, b2⟩, ⟨c1, c2, c3⟩, d1, d2, d3, d4⟩ := h
  obtain ⟨v1, v2, v3, v4, v5, _⟩ := hv
  exact ⟨⟨gSh_cg v1.1.2 (fun a b c q => e a b c (by omega)) a1, gHp_ext rfl (e _ _ _ (by omega)) a2, (e _ _ _ (by omega)).trans a3, fun j hj => gSh_cg (v3 j hj).1.2 (fun a b c q => e a b c (by omega)) (a4 j hj)⟩, ⟨(e _ _ _ (by omega)).trans b1, fun q => gSh_cg (v5 q).1.2 (fun a b c q => e a b c (by omega)) (b2 q)⟩, ⟨rfl, rfl, (e _ _ _ (by omega)).trans c3⟩, gIn_ext (e _ _ _ (by omega)) (fun j => e _ _ _ (by omega)) d1, (e _ _ _ (by omega)).trans d2, (e _ _ _ (by omega)).trans d3, fun j hj => (e _ _ _ (by omega)).trans (d4 j hj)⟩
/-- one state more in the past -/
def gPu (P : Nat → Nat → Int) (pm : Nat) (Y : Nat → Int) : Nat → Nat → Int := if pm = 8 then (fun j => if j = 7 then Y else P (j + 1)) else (fun j => if j = pm then Y else P j)
def gPn (pm : Nat) : Nat := if pm = 8 then 8 else pm + 1
theorem VI_pu (Y2 : Nat → Int) (h2 : gY Y2) (hv : VI Y pm P sv S rs er k w) : VI Y2 (gPn pm) (gPu P pm Y) sv S rs er k w := by
  obtain ⟨v1, v2, v3, v4⟩ := hv
  unfold gPn gPu
  by_cases q : pm = 8
  · rw [if_pos q, if_pos q]
    refine ⟨h2, by omega, fun j hj => ?_, v4⟩
    try dsimp only
    by_cases q2 : j = 7
    · rw [if_pos q2]; exact v1
    · rw [if_neg q2]; exact v3 _ (by omega)
  · rw [if_neg q, if_neg q]
    refine ⟨h2, by omega, fun j hj => ?_, v4⟩
    try dsimp only
    by_cases q2 : j = pm
    · rw [if_pos q2]; exact v1
    · rw [if_neg q2]; exact v3 _ (by omega)
theorem gRt_8 (p : Nat → Nat) {j : Nat} (hj : j < 8) : gRt p 8 j = if j = 7 then p 0 else p (j + 1) := if_pos ⟨by omega, hj⟩
theorem CI_rem (hv : VI Y pm P sv S rs er k w) (h : CI σ Y pm P sv S rs dt er T l k w) : CI (gRem σ Y) Y (gPn pm) (gPu P pm Y) sv S rs dt er T l k w := by
  obtain ⟨⟨a1, a2, a3, a4⟩, ⟨b1, b2⟩, ⟨c1, c2, c3⟩, d1, d2, d3, d4⟩ := h
  obtain ⟨v1, v2, v3, v4, v5, _⟩ := hv
  have off : ∀ a b c, (a = 1 → b < 3) → (3 ≤ a → a ≤ 7 → b / 5 < 3) → a ≠ 8 → (gRem σ Y).1 a b c = σ.1 a b c := fun a b c h1 h2 h8 => gRem_off a2 Y h1 h2 h8
  have hpast : gHp (gRem σ Y) ∧ (gRem σ Y).1 8 0 1 = (gPn pm : Int) ∧ ∀ j, j < gPn pm → gSh (gRem σ Y) ((gRem σ Y).2.1 j) (gPu P pm Y j) := by
    unfold gRem gPn gPu
    by_cases q : pm = 8
    · rw [if_pos (by omega), if_pos q, if_pos q]
      have hp0 := a2.1 0 (by omega)
      refine ⟨⟨fun j hj => ?_, fun i j hi hj he => ?_, ?_, ?_⟩, rfl, fun j hj => ?_⟩
      · show 3 ≤ gRt σ.2.1 8 j ∧ gRt σ.2.1 8 j < 11
        rw [gRt_8 _ hj]
        split
        · exact hp0
        · exact a2.1 _ (by omega)
      · have he : gRt σ.2.1 8 i = gRt σ.2.1 8 j := he
        rw [gRt_8 _ hi, gRt_8 _ hj] at he
        by_cases qi : i = 7
        · by_cases qj : j = 7
          · omega
          · rw [if_pos qi, if_neg qj] at he
            have := a2.2.1 _ _ (by omega) (by omega) he
            omega
        · by_cases qj : j = 7
          · rw [if_neg qi, if_pos qj] at he
            have := a2.2.1 _ _ (by omega) (by omega) he
            omega
          · rw [if_neg qi, if_neg qj] at he
            have := a2.2.1 _ _ (by omega) (by omega) he
            omega
      · show (0 : Int) ≤ 8; omega
      · show (8 : Int) ≤ 8; omega
      · show gSh _ (gRt σ.2.1 8 j) _
        rw [gRt_8 _ hj]
        by_cases qj : j = 7
        · rw [if_pos qj, if_pos qj]
          exact gSh_cg v1.1.2 (fun a b c q => by rw [gU_at, if_neg (by omega)]) (gShPut_sh v1.1)
        · rw [if_neg qj, if_neg qj]
          have hne : σ.2.1 (j + 1) ≠ σ.2.1 0 := fun y => by have := a2.2.1 _ _ (by omega) (by omega) y; omega
          have h9 : gSh (gU (gPm σ (gRt σ.2.1 8)) 8 0 1 7) (σ.2.1 (j + 1)) (P (j + 1)) := gSh_cg (σ := σ) (v3 _ (by omega)).1.2 (fun a b c q => by rw [gU_at, if_neg (by omega)]; rfl) (a4 _ (by omega))
          have h10 : gSh (gShPut (gU (gPm σ (gRt σ.2.1 8)) 8 0 1 7) (σ.2.1 0) Y) (σ.2.1 (j + 1)) (P (j + 1)) := gShPm_sh2 hne (v3 _ (by omega)).1.2 h9
          exact gSh_cg (v3 _ (by omega)).1.2 (fun a b c q => by rw [gU_at, if_neg (by omega)]) h10
    · rw [if_neg (by omega), if_neg q, if_neg q]
      have ep : (σ.1 8 0 1).toNat = pm := by omega
      have hp0 := a2.1 pm (by omega)
      rw [ep]
      refine ⟨⟨a2.1, a2.2.1, ?_, ?_⟩, ?_, fun j hj => ?_⟩
      · show 0 ≤ σ.1 8 0 1 + 1; omega
      · show σ.1 8 0 1 + 1 ≤ 8; omega
      · show σ.1 8 0 1 + 1 = _; omega
      · show gSh _ (σ.2.1 j) _
        try dsimp only
        by_cases qj : j = pm
        · rw [if_pos qj, qj]
          exact gSh_cg v1.1.2 (fun a b c q => by rw [gU_at, if_neg (by omega)]) (gShPut_sh v1.1)
        · rw [if_neg qj]
          have hne : σ.2.1 j ≠ σ.2.1 pm := fun y => by have := a2.2.1 _ _ (by omega) (by omega) y; omega
          have h10 : gSh (gShPut σ (σ.2.1 pm) Y) (σ.2.1 j) (P j) := gShPm_sh2 hne (v3 _ (by omega)).1.2 (a4 _ (by omega))
          exact gSh_cg (v3 _ (by omega)).1.2 (fun a b c q => by rw [gU_at, if_neg (by omega)]) h10
  exact ⟨⟨gRem_sh a2 Y (by omega) v1.1.2 a1, hpast.1, hpast.2.1, hpast.2.2⟩, ⟨(off _ _ _ (by omega) (by omega) (by omega)).trans b1, fun q => gRem_sh a2 Y (by omega) (v5 q).1.2 (b2 q)⟩, ⟨(off _ _ _ (by omega) (by omega) (by omega)).trans c1, (off _ _ _ (by omega) (by omega) (by omega)).trans c2, (off _ _ _ (by omega) (by omega) (by omega)).trans c3⟩, gIn_ext (off _ _ _ (by omega) (by omega) (by omega)) (fun j => off _ _ _ (by omega) (by omega) (by omega)) d1, (off _ _ _ (by omega) (by omega) (by omega)).trans d2, (off _ _ _ (by omega) (by omega) (by omega)).trans d3, fun j hj => (off _ _ _ (by omega) (by omega) (by omega)).trans (d4 j hj)⟩
/-- the shelf of now put to Y2 -/
theorem CI_put {Y2 : Nat → Int} (h2 : gY Y2) (hv : VI Y pm P sv S rs er k w) (h : CI σ Y pm P sv S rs dt er T l k w) : CI (gShPut σ 0 Y2) Y2 pm P sv S rs dt er T l k w := by
  obtain ⟨⟨a1, a2, a3, a4⟩, ⟨b1, b2⟩, ⟨c1, c2, c3⟩, d1, d2, d3, d4⟩ := h
  obtain ⟨v1, v2, v3, v4, v5, _⟩ := hv
  have off : ∀ a b c, (a = 0 ∨ 8 ≤ a) → (gShPut σ 0 Y2).1 a b c = σ.1 a b c := fun a b c q => gShPm_off _ _ _ _ (by unfold gShC; omega)
  exact ⟨⟨gShPut_sh h2.1, gHp_ext (σ := σ) (σ' := gShPut σ 0 Y2) rfl (off _ _ _ (by omega)) a2, (off _ _ _ (by omega)).trans a3, fun j hj => by
    have hne : σ.2.1 j ≠ 0 := by have := (a2.1 j (by omega)).1; omega
    exact gShPm_sh2 hne (v3 j hj).1.2 (a4 j hj)⟩, ⟨(off _ _ _ (by omega)).trans b1, fun q => gShPm_sh2 (by omega) (v5 q).1.2 (b2 q)⟩, ⟨(off _ _ _ (by omega)).trans c1, (off _ _ _ (by omega)).trans c2, (off _ _ _ (by omega)).trans c3⟩, gIn_ext (off _ _ _ (by omega)) (fun j => off _ _ _ (by omega)) d1, (off _ _ _ (by omega)).trans d2, (off _ _ _ (by omega)).trans d3, fun j hj => (off _ _ _ (by omega)).trans (d4 j hj)⟩
theorem VI_y {Y2 : Nat → Int} (h2 : gY Y2) (hv : VI Y pm P sv S rs er k w) : VI Y2 pm P sv S rs er k w := ⟨h2, hv.2⟩
theorem CI_ch {Y2 : Nat → Int} (h2 : gY Y2) (hv : VI Y pm P sv S rs er k w) (h : CI σ Y pm P sv S rs dt er T l k w) : CI (gShPut (gRem σ Y) 0 Y2) Y2 (gPn pm) (gPu P pm Y) sv S rs dt er T l k w :=
  CI_put h2 (VI_pu Y hv.1 hv) (CI_rem hv h)
/-- the reference keeps before, and pushes it -/
theorem MI_en {τ : gS} {Y2 : Nat → Int} (hb : ∀ j, j < 345 → τ.1 16 0 j = Y j) (he : ∀ a b c, 14 ≤ a → ¬ gQt a c → a ≠ 15 → τ.1 a b c = σ.1 a b c) (hs : gMs τ Y2) (hv : VI Y pm P sv S rs er k w) (h : MI σ Y pm P sv S rs dt er T l k w) : MI (gEn τ pm) Y2 (gPn pm) (gPu P pm Y) sv S rs dt er T l k w := by
  unfold gQt at he
  obtain ⟨⟨a1, a2, a3⟩, ⟨b1, b2⟩, ⟨c1, c2, c3⟩, d1, d2, d3⟩ := h
  have hpm := hv.2.1
  have off : ∀ a b c, ¬ (a = 14 ∧ c = 6) → a ≠ 19 → (gEn τ pm).1 a b c = τ.1 a b c := fun a b c h1 h2 => by
    unfold gEn gEq gSf
    split
    · rw [gU_at, if_neg (by omega), gCp_at, if_neg (by omega), gU_at, if_neg (by omega), gCp_at, if_neg (by omega)]
    · rw [gU_at, if_neg (by omega), gCp_at, if_neg (by omega)]
  have e : ∀ a b c, 14 ≤ a → ¬ ((a = 14 ∧ (c = 7 ∨ c = 10 ∨ c = 15 ∨ c = 16 ∨ c = 19)) ∨ a = 16 ∨ a = 17 ∨ a = 22) → a ≠ 15 → ¬ (a = 14 ∧ c = 6) → a ≠ 19 → (gEn τ pm).1 a b c = σ.1 a b c := fun a b c h1 h2 h3 h4 h5 => (off a b c h4 h5).trans (he a b c h1 h2 h3)
  refine ⟨⟨fun j hj => (off _ _ _ (by omega) (by omega)).trans (hs j hj), ?_, fun j hj i hi => ?_⟩, ⟨(e _ _ _ (by omega) (by omega) (by omega) (by omega) (by omega)).trans b1, fun q i hi => (e _ _ _ (by omega) (by omega) (by omega) (by omega) (by omega)).trans (b2 q i hi)⟩, ⟨(e _ _ _ (by omega) (by omega) (by omega) (by omega) (by omega)).trans c1, (e _ _ _ (by omega) (by omega) (by omega) (by omega) (by omega)).trans c2, (e _ _ _ (by omega) (by omega) (by omega) (by omega) (by omega)).trans c3⟩, ⟨(e _ _ _ (by omega) (by omega) (by omega) (by omega) (by omega)).trans d1.1, d1.2.1, fun j hj => ⟨(e _ _ _ (by omega) (by omega) (by omega) (by omega) (by omega)).trans (d1.2.2 j hj).1, (d1.2.2 j hj).2⟩⟩, (e _ _ _ (by omega) (by omega) (by omega) (by omega) (by omega)).trans d2, fun j hj => (e _ _ _ (by omega) (by omega) (by omega) (by omega) (by omega)).trans (d3 j hj)⟩
  · unfold gEn gPn
    split
    · rfl
    · show (pm : Int) + 1 = _; omega
  · unfold gPn at hj
    unfold gEn gEq gSf gPu
    by_cases q : pm = 8
    · rw [if_pos q] at hj
      rw [if_pos q, if_pos q]
      try dsimp only
      rw [gU_at, if_neg (by omega), gCp_at]
      by_cases qj : j = 7
      · rw [if_pos (by omega), if_pos qj, gU_at, if_neg (by omega), gCp_at, if_neg (by omega), show 0 + (345 * j + i - 345 * 7) = i by omega]
        exact hb i hi
      · rw [if_neg (by omega), if_neg qj, gU_at, if_neg (by omega), gCp_at, if_pos (by omega), he _ _ _ (by omega) (by omega) (by omega), show 345 + (345 * j + i - 0) = 345 * (j + 1) + i by omega]
        exact a3 (j + 1) (by omega) i hi
    · rw [if_neg q] at hj
      rw [if_neg q, if_neg q]
      try dsimp only
      rw [gU_at, if_neg (by omega), gCp_at]
      by_cases qj : j = pm
      · rw [if_pos (by omega), if_pos qj, show 0 + (345 * j + i - 345 * pm) = i by omega]
        exact hb i hi
      · rw [if_neg (by omega), if_neg qj, he _ _ _ (by omega) (by omega) (by omega)]
        exact a3 j (by omega) i hi
theorem MI_ch {Y2 : Nat → Int} (hv : VI Y pm P sv S rs er k w) (h : MI σ Y pm P sv S rs dt er T l k w) : MI (gEn (gMp (gKp σ) Y2) pm) Y2 (gPn pm) (gPu P pm Y) sv S rs dt er T l k w :=
  MI_en (σ := σ) (fun j hj => by rw [gMp_at, if_neg (by omega)]; exact gKp_b h.1.1 j hj) (fun a b c h1 h2 h3 => by
    unfold gQt at h2
    rw [gMp_at, if_neg (by omega), gCp_at, if_neg (by omega), gU_at, if_neg (by omega)]) (gMp_ms _ _) hv h
end INV
