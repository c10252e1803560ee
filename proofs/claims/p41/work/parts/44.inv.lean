/-! ===== what the law keeps of the class ===== -/
def CI (σ : gS) (Y : Nat → Int) (pm : Nat) (P : Nat → Nat → Int) (sv : Int) (S : Nat → Int) (rs dt er : Int) (T : Nat → Int) (l k : Nat) (w : Nat → Int) : Prop :=
  (gSh σ 0 Y ∧ gHp σ ∧ σ.1 8 0 1 = (pm : Int) ∧ ∀ j, j < pm → gSh σ (σ.2.1 j) (P j)) ∧ (σ.1 0 0 7 = sv ∧ (sv = 1 → gSh σ 2 S)) ∧ (σ.1 0 0 9 = rs ∧ σ.1 0 0 10 = dt ∧ σ.1 0 0 8 = er) ∧ gIn σ T l ∧ σ.1 12 0 1 = 0 ∧ σ.1 12 0 3 = (k : Int) ∧ ∀ j, j < k → σ.1 13 0 j = w j
def VI (Y : Nat → Int) (pm : Nat) (P : Nat → Nat → Int) (sv : Int) (S : Nat → Int) (rs er : Int) (k : Nat) (w : Nat → Int) : Prop :=
  gY Y ∧ pm ≤ 8 ∧ (∀ j, j < pm → gY (P j)) ∧ (sv = 0 ∨ sv = 1) ∧ (sv = 1 → gY S) ∧ (rs = 0 ∨ 1 ≤ rs ∧ rs ≤ 7) ∧ (-1 ≤ er ∧ er ≤ 1000) ∧ k ≤ 12 ∧ ∀ j, j < k → 0 ≤ w j ∧ w j < 128
def gHi (σ σ' : gS) : Prop := ∀ a b c, 14 ≤ a → σ'.1 a b c = σ.1 a b c
def gLow (σ σ' : gS) : Prop := (∀ a b c, a < 14 → σ'.1 a b c = σ.1 a b c) ∧ σ'.2.1 = σ.2.1
section INV
variable {σ σ' : gS} {Y : Nat → Int} {pm : Nat} {P : Nat → Nat → Int} {sv : Int} {S : Nat → Int} {rs dt er : Int} {T : Nat → Int} {l k : Nat} {w : Nat → Int}
theorem gSh_cg {sh : Nat} (h0 : Y 0 ≤ 5) (he : ∀ a b c, (a = 1 ∨ 3 ≤ a ∧ a ≤ 7) → σ'.1 a b c = σ.1 a b c) (h : gSh σ sh Y) : gSh σ' sh Y :=
  gSh_ext h0 (fun c _ _ => he _ _ _ (Or.inl rfl)) (fun a b c h3 h7 _ => he _ _ _ (Or.inr ⟨h3, h7⟩)) h
theorem CI_lo (hv : VI Y pm P sv S rs er k w) (he : gLow σ σ') (h : CI σ Y pm P sv S rs dt er T l k w) : CI σ' Y pm P sv S rs dt er T l k w := by
  obtain ⟨⟨a1, a2, a3, a4⟩, ⟨b1, b2⟩, ⟨c1, c2, c3⟩, d1, d2, d3, d4⟩ := h
  obtain ⟨v1, v2, v3, v4, v5, _⟩ := hv
  obtain ⟨e1, e2⟩ := he
  refine ⟨⟨gSh_cg v1.1.2 (fun a b c q => e1 a b c (by omega)) a1, gHp_ext e2 (e1 _ _ _ (by omega)) a2, (e1 _ _ _ (by omega)).trans a3, fun j hj => ?_⟩, ⟨(e1 _ _ _ (by omega)).trans b1, fun q => gSh_cg (v5 q).1.2 (fun a b c q => e1 a b c (by omega)) (b2 q)⟩, ⟨(e1 _ _ _ (by omega)).trans c1, (e1 _ _ _ (by omega)).trans c2, (e1 _ _ _ (by omega)).trans c3⟩, gIn_ext (e1 _ _ _ (by omega)) (fun j => e1 _ _ _ (by omega)) d1, (e1 _ _ _ (by omega)).trans d2, (e1 _ _ _ (by omega)).trans d3, fun j hj => (e1 _ _ _ (by omega)).trans (d4 j hj)⟩
  rw [e2]
  exact gSh_cg (v3 j hj).1.2 (fun a b c q => e1 a b c (by omega)) (a4 j hj)
theorem gLow_t {a b : gS} (h : gLow σ a) (h2 : gLow a b) : gLow σ b := ⟨fun x y z q => (h2.1 x y z q).trans (h.1 x y z q), h2.2.trans h.2⟩
theorem gHi_rf : gHi σ σ := fun _ _ _ _ => rfl
theorem gHi_u {σ2 : gS} (i b c : Nat) (v : Int) (hi : i < 14) (h : gHi σ σ2) : gHi σ (gU σ2 i b c v) := fun x y z q => by
  rw [gU_at, if_neg (by omega)]; exact h x y z q
theorem gHi_sh {σ2 : gS} (sh : Nat) (Z : Nat → Int) (h : gHi σ σ2) : gHi σ (gShPut σ2 sh Z) := fun x y z q => by
  rw [gShPut, gShPm_off _ _ _ _ (by unfold gShC; omega)]; exact h x y z q
theorem gHi_put {σ2 : gS} (i : Nat) (z : Nat → Int) (h : gHi σ σ2) : gHi σ (gPut σ2 i z) := fun x y c q => by
  rw [gPut_off _ _ _ (by omega)]; exact h x y c q
theorem gHi_rem {σ2 : gS} (Z : Nat → Int) (h : gHi σ σ2) : gHi σ (gRem σ2 Z) := by
  unfold gRem
  split
  · refine gHi_u _ _ _ _ (by omega) (gHi_sh _ _ (gHi_u _ _ _ _ (by omega) ?_))
    exact h
  · exact gHi_u _ _ _ _ (by omega) (gHi_sh _ _ h)
theorem gHi_tx {σ2 : gS} (t : List Int) (h : gHi σ σ2) : gHi σ (gTx σ2 t) := fun x y z q => by
  rw [gTx_at, if_neg (by omega), if_neg (by omega)]; exact h x y z q
theorem gLow_u {σ2 : gS} (i b c : Nat) (v : Int) (hi : 14 ≤ i) (h : gLow σ σ2) : gLow σ (gU σ2 i b c v) := ⟨fun x y z q => by
  rw [gU_at, if_neg (by omega)]; exact h.1 x y z q, h.2⟩
theorem gLow_cp {σ2 : gS} (k0 i0 k1 i1 a b n : Nat) (hi : 14 ≤ k1) (h : gLow σ σ2) : gLow σ (gCp σ2 k0 i0 k1 i1 a b n) := ⟨fun x y z q => by
  rw [gCp_at, if_neg (by omega)]; exact h.1 x y z q, h.2⟩
theorem gLow_rf : gLow σ σ := ⟨fun _ _ _ _ => rfl, rfl⟩
theorem CI_55 (z : Nat → Int) (hv : VI Y pm P sv S rs er k w) (h : CI σ Y pm P sv S rs dt er T l k w) : CI (gPut σ 55 z) Y pm P sv S rs dt er T l k w := by
  obtain ⟨⟨a1, a2, a3, a4⟩, ⟨b1, b2⟩, ⟨c1, c2, c3⟩, d1, d2, d3, d4⟩ := h
  obtain ⟨v1, v2, v3, v4, v5, _⟩ := hv
  have key : ∀ (sh : Nat) (Z : Nat → Int), sh < 11 → Z 0 ≤ 5 → gSh σ sh Z → gSh (gPut σ 55 z) sh Z := fun sh Z hs h0 h => gSh_ext h0 (fun c _ _ => gPut_off _ _ _ (by omega)) (fun a b c _ _ hb => gPut_off _ _ _ (by omega)) h
  exact ⟨⟨key 0 Y (by omega) v1.1.2 a1, gHp_ext rfl (gPut_off _ _ _ (by omega)) a2, (gPut_off _ _ _ (by omega)).trans a3, fun j hj => key _ _ (a2.1 j (by omega)).2 (v3 j hj).1.2 (a4 j hj)⟩, ⟨(gPut_off _ _ _ (by omega)).trans b1, fun q => key 2 S (by omega) (v5 q).1.2 (b2 q)⟩, ⟨(gPut_off _ _ _ (by omega)).trans c1, (gPut_off _ _ _ (by omega)).trans c2, (gPut_off _ _ _ (by omega)).trans c3⟩, gIn_ext (gPut_off _ _ _ (by omega)) (fun j => gPut_off _ _ _ (by omega)) d1, (gPut_off _ _ _ (by omega)).trans d2, (gPut_off _ _ _ (by omega)).trans d3, fun j hj => (gPut_off _ _ _ (by omega)).trans (d4 j hj)⟩
theorem CI_rf (b : Int) (hv : VI Y pm P sv S rs er k w) (h : CI σ Y pm P sv S rs dt er T l k w) : CI (gRf σ b) Y pm P sv S (b / 100) (b % 100) er T l k w := by
  have e : ∀ a x c, ¬ (a = 0 ∧ (c = 9 ∨ c = 10)) → (gRf σ b).1 a x c = σ.1 a x c := fun a x c q => by unfold gRf; rw [gU_at, if_neg (by omega), gU_at, if_neg (by omega)]
  obtain ⟨⟨a1, a2, a3, a4⟩, ⟨b1, b2⟩, ⟨c1, c2, c3⟩, d1, d2, d3, d4⟩ := h
  obtain ⟨v1, v2, v3, v4, v5, _⟩ := hv
  exact ⟨⟨gSh_cg v1.1.2 (fun a b c q => e a b c (by omega)) a1, gHp_ext rfl (e _ _ _ (by omega)) a2, (e _ _ _ (by omega)).trans a3, fun j hj => gSh_cg (v3 j hj).1.2 (fun a b c q => e a b c (by omega)) (a4 j hj)⟩, ⟨(e _ _ _ (by omega)).trans b1, fun q => gSh_cg (v5 q).1.2 (fun a b c q => e a b c (by omega)) (b2 q)⟩, ⟨rfl, rfl, (e _ _ _ (by omega)).trans c3⟩, gIn_ext (e _ _ _ (by omega)) (fun j => e _ _ _ (by omega)) d1, (e _ _ _ (by omega)).trans d2, (e _ _ _ (by omega)).trans d3, fun j hj => (e _ _ _ (by omega)).trans (d4 j hj)⟩
def gPu (P : Nat → Nat → Int) (pm : Nat) (Y : Nat → Int) : Nat → Nat → Int := if pm = 8 then (fun j => if j = 7 then Y else P (j + 1)) else (fun j => if j = pm then Y else P j)
def gPn (pm : Nat) : Nat := if pm = 8 then 8 else pm + 1
theorem VI_pu (Y2 : Nat → Int) (h2 : gY Y2) (hv : VI Y pm P sv S rs er k w) : VI Y2 (gPn pm) (gPu P pm Y) sv S rs er k w := by
  obtain ⟨v1, v2, v3, v4⟩ := hv
  unfold gPn gPu
  by_cases q : pm = 8
  · rw [if_pos q, if_pos q]
    refine ⟨h2, by omega, fun j hj => ?_, v4⟩
    try dsimp only
    by_cases q2 : j = 7
    · rw [if_pos q2]; exact v1
    · rw [if_neg q2]; exact v3 _ (by omega)
  · rw [if_neg q, if_neg q]
    refine ⟨h2, by omega, fun j hj => ?_, v4⟩
    try dsimp only
    by_cases q2 : j = pm
    · rw [if_pos q2]; exact v1
    · rw [if_neg q2]; exact v3 _ (by omega)
theorem gRt_8 (p : Nat → Nat) {j : Nat} (hj : j < 8) : gRt p 8 j = if j = 7 then p 0 else p (j + 1) := if_pos ⟨by omega, hj⟩
theorem CI_rem (hv : VI Y pm P sv S rs er k w) (h : CI σ Y pm P sv S rs dt er T l k w) : CI (gRem σ Y) Y (gPn pm) (gPu P pm Y) sv S rs dt er T l k w := by
  obtain ⟨⟨a1, a2, a3, a4⟩, ⟨b1, b2⟩, ⟨c1, c2, c3⟩, d1, d2, d3, d4⟩ := h
  obtain ⟨v1, v2, v3, v4, v5, _⟩ := hv
  have off : ∀ a b c, (a = 1 → b < 3) → (3 ≤ a → a ≤ 7 → b / 5 < 3) → a ≠ 8 → (gRem σ Y).1 a b c = σ.1 a b c := fun a b c h1 h2 h8 => gRem_off a2 Y h1 h2 h8
  have hpast : gHp (gRem σ Y) ∧ (gRem σ Y).1 8 0 1 = (gPn pm : Int) ∧ ∀ j, j < gPn pm → gSh (gRem σ Y) ((gRem σ Y).2.1 j) (gPu P pm Y j) := by
    unfold gRem gPn gPu
    by_cases q : pm = 8
    · rw [if_pos (by omega), if_pos q, if_pos q]
      have hp0 := a2.1 0 (by omega)
      refine ⟨⟨fun j hj => ?_, fun i j hi hj he => ?_, ?_, ?_⟩, rfl, fun j hj => ?_⟩
      · show 3 ≤ gRt σ.2.1 8 j ∧ gRt σ.2.1 8 j < 11
        rw [gRt_8 _ hj]
        split
        · exact hp0
        · exact a2.1 _ (by omega)
      · have he : gRt σ.2.1 8 i = gRt σ.2.1 8 j := he
        rw [gRt_8 _ hi, gRt_8 _ hj] at he
        by_cases qi : i = 7
        · by_cases qj : j = 7
          · omega
          · rw [if_pos qi, if_neg qj] at he
            have := a2.2.1 _ _ (by omega) (by omega) he
            omega
        · by_cases qj : j = 7
          · rw [if_neg qi, if_pos qj] at he
            have := a2.2.1 _ _ (by omega) (by omega) he
            omega
          · rw [if_neg qi, if_neg qj] at he
            have := a2.2.1 _ _ (by omega) (by omega) he
            omega
      · show (0 : Int) ≤ 8; omega
      · show (8 : Int) ≤ 8; omega
      · show gSh _ (gRt σ.2.1 8 j) _
        rw [gRt_8 _ hj]
        by_cases qj : j = 7
        · rw [if_pos qj, if_pos qj]
          exact gSh_cg v1.1.2 (fun a b c q => by rw [gU_at, if_neg (by omega)]) (gShPut_sh v1.1)
        · rw [if_neg qj, if_neg qj]
          have hne : σ.2.1 (j + 1) ≠ σ.2.1 0 := fun y => by have := a2.2.1 _ _ (by omega) (by omega) y; omega
          have h9 : gSh (gU (gPm σ (gRt σ.2.1 8)) 8 0 1 7) (σ.2.1 (j + 1)) (P (j + 1)) := gSh_cg (σ := σ) (v3 _ (by omega)).1.2 (fun a b c q => by rw [gU_at, if_neg (by omega)]; rfl) (a4 _ (by omega))
          have h10 : gSh (gShPut (gU (gPm σ (gRt σ.2.1 8)) 8 0 1 7) (σ.2.1 0) Y) (σ.2.1 (j + 1)) (P (j + 1)) := gShPm_sh2 hne (v3 _ (by omega)).1.2 h9
          exact gSh_cg (v3 _ (by omega)).1.2 (fun a b c q => by rw [gU_at, if_neg (by omega)]) h10
    · rw [if_neg (by omega), if_neg q, if_neg q]
      have ep : (σ.1 8 0 1).toNat = pm := by omega
      have hp0 := a2.1 pm (by omega)
      rw [ep]
      refine ⟨⟨a2.1, a2.2.1, ?_, ?_⟩, ?_, fun j hj => ?_⟩
      · show 0 ≤ σ.1 8 0 1 + 1; omega
      · show σ.1 8 0 1 + 1 ≤ 8; omega
      · show σ.1 8 0 1 + 1 = _; omega
      · show gSh _ (σ.2.1 j) _
        try dsimp only
        by_cases qj : j = pm
        · rw [if_pos qj, qj]
          exact gSh_cg v1.1.2 (fun a b c q => by rw [gU_at, if_neg (by omega)]) (gShPut_sh v1.1)
        · rw [if_neg qj]
          have hne : σ.2.1 j ≠ σ.2.1 pm := fun y => by have := a2.2.1 _ _ (by omega) (by omega) y; omega
          have h10 : gSh (gShPut σ (σ.2.1 pm) Y) (σ.2.1 j) (P j) := gShPm_sh2 hne (v3 _ (by omega)).1.2 (a4 _ (by omega))
          exact gSh_cg (v3 _ (by omega)).1.2 (fun a b c q => by rw [gU_at, if_neg (by omega)]) h10
  exact ⟨⟨gRem_sh a2 Y (by omega) v1.1.2 a1, hpast.1, hpast.2.1, hpast.2.2⟩, ⟨(off _ _ _ (by omega) (by omega) (by omega)).trans b1, fun q => gRem_sh a2 Y (by omega) (v5 q).1.2 (b2 q)⟩, ⟨(off _ _ _ (by omega) (by omega) (by omega)).trans c1, (off _ _ _ (by omega) (by omega) (by omega)).trans c2, (off _ _ _ (by omega) (by omega) (by omega)).trans c3⟩, gIn_ext (off _ _ _ (by omega) (by omega) (by omega)) (fun j => off _ _ _ (by omega) (by omega) (by omega)) d1, (off _ _ _ (by omega) (by omega) (by omega)).trans d2, (off _ _ _ (by omega) (by omega) (by omega)).trans d3, fun j hj => (off _ _ _ (by omega) (by omega) (by omega)).trans (d4 j hj)⟩
theorem CI_put {Y2 : Nat → Int} (h2 : gY Y2) (hv : VI Y pm P sv S rs er k w) (h : CI σ Y pm P sv S rs dt er T l k w) : CI (gShPut σ 0 Y2) Y2 pm P sv S rs dt er T l k w := by
  obtain ⟨⟨a1, a2, a3, a4⟩, ⟨b1, b2⟩, ⟨c1, c2, c3⟩, d1, d2, d3, d4⟩ := h
  obtain ⟨v1, v2, v3, v4, v5, _⟩ := hv
  have off : ∀ a b c, (a = 0 ∨ 8 ≤ a) → (gShPut σ 0 Y2).1 a b c = σ.1 a b c := fun a b c q => gShPm_off _ _ _ _ (by unfold gShC; omega)
  exact ⟨⟨gShPut_sh h2.1, gHp_ext (σ := σ) (σ' := gShPut σ 0 Y2) rfl (off _ _ _ (by omega)) a2, (off _ _ _ (by omega)).trans a3, fun j hj => by
    have hne : σ.2.1 j ≠ 0 := by have := (a2.1 j (by omega)).1; omega
    exact gShPm_sh2 hne (v3 j hj).1.2 (a4 j hj)⟩, ⟨(off _ _ _ (by omega)).trans b1, fun q => gShPm_sh2 (by omega) (v5 q).1.2 (b2 q)⟩, ⟨(off _ _ _ (by omega)).trans c1, (off _ _ _ (by omega)).trans c2, (off _ _ _ (by omega)).trans c3⟩, gIn_ext (off _ _ _ (by omega)) (fun j => off _ _ _ (by omega)) d1, (off _ _ _ (by omega)).trans d2, (off _ _ _ (by omega)).trans d3, fun j hj => (off _ _ _ (by omega)).trans (d4 j hj)⟩
theorem VI_y {Y2 : Nat → Int} (h2 : gY Y2) (hv : VI Y pm P sv S rs er k w) : VI Y2 pm P sv S rs er k w := ⟨h2, hv.2⟩
theorem CI_ch {Y2 : Nat → Int} (h2 : gY Y2) (hv : VI Y pm P sv S rs er k w) (h : CI σ Y pm P sv S rs dt er T l k w) : CI (gShPut (gRem σ Y) 0 Y2) Y2 (gPn pm) (gPu P pm Y) sv S rs dt er T l k w :=
  CI_put h2 (VI_pu Y hv.1 hv) (CI_rem hv h)
end INV
section INV2
variable {σ σ' : gS} {Y : Nat → Int} {pm : Nat} {P : Nat → Nat → Int} {sv : Int} {S : Nat → Int} {rs dt er : Int} {T : Nat → Int} {l k : Nat} {w : Nat → Int}
theorem CI_remg {Z : Nat → Int} (hZ : gY Z) (hv : VI Y pm P sv S rs er k w) (h : CI σ Y pm P sv S rs dt er T l k w) : CI (gRem σ Z) Y (gPn pm) (gPu P pm Z) sv S rs dt er T l k w := by
  have h1 : CI (gShPut σ 0 Z) Z pm P sv S rs dt er T l k w := CI_put hZ hv h
  have a2 := h.1.2.1
  have h2 := CI_rem (VI_y hZ hv) h1
  have e3 := h.1.2.2.1
  have e8 : (gShPut σ 0 Z).1 8 0 1 = σ.1 8 0 1 := gShPm_off _ _ _ _ (by unfold gShC; omega)
  have hpm := hv.2.1
  have hk3 : ∀ j, j < 8 → σ.2.1 j / 1 = σ.2.1 j ∧ 3 ≤ σ.2.1 j := fun j hj => ⟨Nat.div_one _, (a2.1 j hj).1⟩
  have key : ∀ a b c, (a ≠ 1 ∨ b ≠ 0) → (a < 3 ∨ 7 < a ∨ b / 5 ≠ 0) → (gRem (gShPut σ 0 Z) Z).1 a b c = (gRem σ Z).1 a b c := by
    intro a b c q1 q2
    have cg : ∀ (τ τ' : gS) (sh : Nat), τ'.1 a b c = τ.1 a b c → (gShPut τ' sh Z).1 a b c = (gShPut τ sh Z).1 a b c := fun τ τ' sh e => by
      unfold gShPut
      rw [gShPm_at, gShPm_at]
      split
      · rfl
      · split
        · by_cases q : (a = 3 ∧ 4 ≤ c ∧ c < 10) ∨ (a = 4 ∧ c < 48) ∨ (a = 5 ∧ c < 14) ∨ (a = 6 ∧ c < 14) ∨ (a = 7 ∧ c < 14)
          · rcases q with ⟨rfl, h4, h5⟩ | ⟨rfl, h4⟩ | ⟨rfl, h4⟩ | ⟨rfl, h4⟩ | ⟨rfl, h4⟩
            · rw [gPut_3, gPut_3, if_pos ⟨h4, h5⟩, if_pos ⟨h4, h5⟩]
            · rw [gPut_4, gPut_4, if_pos h4, if_pos h4]
            · rw [gPut_5, gPut_5, if_pos h4, if_pos h4]
            · rw [gPut_6, gPut_6, if_pos h4, if_pos h4]
            · rw [gPut_7, gPut_7, if_pos h4, if_pos h4]
          · rw [gPut_off _ _ _ (fun y => q y.2), gPut_off _ _ _ (fun y => q y.2)]; exact e
        · exact e
    have e0 : (gShPut σ 0 Z).1 a b c = σ.1 a b c := gShPm_off _ _ _ _ (by unfold gShC; omega)
    unfold gRem
    rw [e8]
    split
    · rw [gU_at, gU_at]
      split
      · rfl
      · refine cg _ _ _ ?_
        rw [gU_at, gU_at]
        split
        · rfl
        · exact e0
    · rw [gU_at, gU_at]
      split
      · rfl
      · exact cg _ _ _ e0
  have key2 : (gRem (gShPut σ 0 Z) Z).2.1 = (gRem σ Z).2.1 := by
    unfold gRem
    rw [e8]
    split <;> rfl
  obtain ⟨⟨b1, b2, b3, b4⟩, ⟨c1, c2⟩, ⟨f1, f2, f3⟩, g1, g2, g3, g4⟩ := h2
  have hP : ∀ j, j < gPn pm → gY (gPu P pm Z j) := (VI_pu Z hZ (VI_y hZ hv)).2.2.1
  have hgp : gHp (gRem σ Z) := gHp_ext (σ := gRem (gShPut σ 0 Z) Z) key2.symm (key 8 0 1 (by omega) (by omega)).symm b2
  have hpn : gPn pm ≤ 8 := by unfold gPn; split <;> omega
  refine ⟨⟨gRem_sh a2 Z (by omega) hv.1.1.2 h.1.1, hgp, (key 8 0 1 (by omega) (by omega)).symm.trans b3, fun j hj => ?_⟩, ⟨(key _ _ _ (by omega) (by omega)).symm.trans c1, fun q => ?_⟩, ⟨(key _ _ _ (by omega) (by omega)).symm.trans f1, (key _ _ _ (by omega) (by omega)).symm.trans f2, (key _ _ _ (by omega) (by omega)).symm.trans f3⟩, gIn_ext (key _ _ _ (by omega) (by omega)).symm (fun j => (key _ _ _ (by omega) (by omega)).symm) g1, (key _ _ _ (by omega) (by omega)).symm.trans g2, (key _ _ _ (by omega) (by omega)).symm.trans g3, fun j hj => (key _ _ _ (by omega) (by omega)).symm.trans (g4 j hj)⟩
  · have h9 := b4 j hj
    rw [key2] at h9
    have h3 := (hgp.1 j (by omega)).1
    exact gSh_ext (hP j hj).1.2 (fun c _ _ => (key _ _ _ (by omega) (by omega)).symm) (fun a b c _ _ hb => (key _ _ _ (by omega) (by omega)).symm) h9
  · exact gSh_ext (hv.2.2.2.2.1 q).1.2 (fun c _ _ => (key _ _ _ (by omega) (by omega)).symm) (fun a b c _ _ hb => (key _ _ _ (by omega) (by omega)).symm) (c2 q)
theorem gLn_bd {z : Nat → Int} (hz : gZ z) {r : Nat} (hr : r < 6) : (gLn z r).length ≤ 12 ∧ ∀ j, j < (gLn z r).length → 0 ≤ (gLn z r).getD j 0 ∧ (gLn z r).getD j 0 < 128 := by
  have hw := hz.2.1
  have ht := hz.2.2.2.2.1 r (by omega)
  have hall : ∀ v ∈ gLn z r, 0 ≤ v ∧ v < 128 := by
    intro v hv
    unfold gLn at hv
    rcases List.mem_append.mp hv with hv | hv
    · rcases List.mem_append.mp hv with hv | hv
      · unfold gLnC at hv
        obtain ⟨c, hc, rfl⟩ := List.mem_map.mp hv
        have := List.mem_range.mp hc
        have := gCh_bd hz hr (c := c) (by omega)
        omega
      · split at hv
        · simp at hv
          rcases hv with rfl | rfl <;> omega
        · cases hv
    · split at hv
      · simp at hv
        omega
      · cases hv
  refine ⟨?_, fun j hj => ?_⟩
  · unfold gLn
    rw [List.length_append, List.length_append, gLnC_len]
    split <;> split <;> simp <;> omega
  · refine hall _ ?_
    rw [List.getD_eq_getElem?_getD, List.getElem?_eq_getElem hj]
    exact List.getElem_mem hj
theorem CI_li {z : Nat → Int} {r : Nat} (hv : VI Y pm P sv S rs er k w) (h : CI σ Y pm P sv S rs dt er T l k w) : CI (gLi σ z r) Y pm P sv S rs dt er T l (gLn z r).length (fun j => (gLn z r).getD j 0) := by
  have e : ∀ a b c, a ≠ 12 → a ≠ 13 → (gLi σ z r).1 a b c = σ.1 a b c := fun a b c h1 h2 => by
    unfold gLi
    rw [gTx_at, if_neg (by omega), if_neg (by omega), gSn0_at _ _ _ _ (by omega)]
  have e2 : (gLi σ z r).2.1 = σ.2.1 := by unfold gLi gSn0; split <;> rfl
  obtain ⟨⟨a1, a2, a3, a4⟩, ⟨b1, b2⟩, ⟨c1, c2, c3⟩, d1, d2, d3, d4⟩ := h
  obtain ⟨v1, v2, v3, v4, v5, _⟩ := hv
  refine ⟨⟨gSh_cg v1.1.2 (fun a b c q => e a b c (by omega) (by omega)) a1, gHp_ext e2 (e _ _ _ (by omega) (by omega)) a2, (e _ _ _ (by omega) (by omega)).trans a3, fun j hj => ?_⟩, ⟨(e _ _ _ (by omega) (by omega)).trans b1, fun q => gSh_cg (v5 q).1.2 (fun a b c q => e a b c (by omega) (by omega)) (b2 q)⟩, ⟨(e _ _ _ (by omega) (by omega)).trans c1, (e _ _ _ (by omega) (by omega)).trans c2, (e _ _ _ (by omega) (by omega)).trans c3⟩, gIn_ext (e _ _ _ (by omega) (by omega)) (fun j => e _ _ _ (by omega) (by omega)) d1, ?_, gTx_n _ _, fun j hj => ?_⟩
  · rw [e2]
    exact gSh_cg (v3 j hj).1.2 (fun a b c q => e a b c (by omega) (by omega)) (a4 j hj)
  · unfold gLi
    rw [gTx_at, if_neg (by omega), if_neg (by omega), gSn0_at _ _ _ _ (by omega)]
    exact d2
  · unfold gLi
    rw [gTx_at, if_neg (by omega), if_pos ⟨rfl, rfl, hj⟩]
theorem VI_li {z : Nat → Int} (hz : gZ z) {r : Nat} (hr : r < 6) (hv : VI Y pm P sv S rs er k w) : VI Y pm P sv S rs er (gLn z r).length (fun j => (gLn z r).getD j 0) := by
  obtain ⟨v1, v2, v3, v4, v5, v6, v7, _⟩ := hv
  exact ⟨v1, v2, v3, v4, v5, v6, v7, gLn_bd hz hr⟩
theorem gHi_li {z : Nat → Int} {r : Nat} : gHi σ (gLi σ z r) := by
  unfold gLi gSn0
  refine gHi_tx _ (gHi_u _ _ _ _ (by omega) ?_)
  split
  · exact gHi_rf
  · exact gHi_u _ _ _ _ (by omega) gHi_rf
def tPut (T : Nat → Int) (l : Nat) (c : Int) : Nat → Int := fun j => if j = l then c else T j
theorem CI_ap {c : Int} (hl : l < 60) (hc : 0 ≤ c ∧ c < 65536) (hv : VI Y pm P sv S rs er k w) (h : CI σ Y pm P sv S rs dt er T l k w) : CI (gU (gU σ 11 0 l c) 10 0 1 ((l : Int) + 1)) Y pm P sv S rs dt er (tPut T l c) (l + 1) k w := by
  have e : ∀ a b x, a ≠ 10 → a ≠ 11 → (gU (gU σ 11 0 l c) 10 0 1 ((l : Int) + 1)).1 a b x = σ.1 a b x := fun a b x h1 h2 => by rw [gU_at, if_neg (by omega), gU_at, if_neg (by omega)]
  obtain ⟨⟨a1, a2, a3, a4⟩, ⟨b1, b2⟩, ⟨c1, c2, c3⟩, d1, d2, d3, d4⟩ := h
  obtain ⟨v1, v2, v3, v4, v5, _⟩ := hv
  refine ⟨⟨gSh_cg v1.1.2 (fun a b c q => e a b c (by omega) (by omega)) a1, gHp_ext rfl (e _ _ _ (by omega) (by omega)) a2, (e _ _ _ (by omega) (by omega)).trans a3, fun j hj => gSh_cg (v3 j hj).1.2 (fun a b c q => e a b c (by omega) (by omega)) (a4 j hj)⟩, ⟨(e _ _ _ (by omega) (by omega)).trans b1, fun q => gSh_cg (v5 q).1.2 (fun a b c q => e a b c (by omega) (by omega)) (b2 q)⟩, ⟨(e _ _ _ (by omega) (by omega)).trans c1, (e _ _ _ (by omega) (by omega)).trans c2, (e _ _ _ (by omega) (by omega)).trans c3⟩, ⟨?_, by omega, fun j hj => ?_⟩, (e _ _ _ (by omega) (by omega)).trans d2, (e _ _ _ (by omega) (by omega)).trans d3, fun j hj => (e _ _ _ (by omega) (by omega)).trans (d4 j hj)⟩
  · show (l : Int) + 1 = _; omega
  · rw [gU_at, if_neg (by omega), gU_at]
    unfold tPut
    by_cases q : j = l
    · rw [if_pos ⟨rfl, rfl, q⟩, if_pos q]; exact ⟨rfl, hc⟩
    · rw [if_neg (by omega), if_neg q]; exact d1.2.2 j hj
theorem CI_er {e9 : Int} (hv : VI Y pm P sv S rs er k w) (h : CI σ Y pm P sv S rs dt er T l k w) (he : σ'.1 0 0 8 = e9) (hl : σ'.1 10 0 1 = 0) (ho : ∀ a b c, ¬ (a = 0 ∧ c = 8) → ¬ (a = 10 ∧ c = 1) → ¬ (a = 1 ∧ b = 1) → ¬ (3 ≤ a ∧ a ≤ 7 ∧ b / 5 = 1) → σ'.1 a b c = σ.1 a b c) (h2 : σ'.2.1 = σ.2.1) : CI σ' Y pm P sv S rs dt e9 T 0 k w := by
  obtain ⟨⟨a1, a2, a3, a4⟩, ⟨b1, b2⟩, ⟨c1, c2, c3⟩, d1, d2, d3, d4⟩ := h
  obtain ⟨v1, v2, v3, v4, v5, _⟩ := hv
  have hs : ∀ (sh : Nat) (Z : Nat → Int), sh ≠ 1 → Z 0 ≤ 5 → gSh σ sh Z → gSh σ' sh Z := fun sh Z h1 h0 h => gSh_ext h0 (fun c _ _ => ho _ _ _ (by omega) (by omega) (by omega) (by omega)) (fun a b c _ _ hb => ho _ _ _ (by omega) (by omega) (by omega) (by omega)) h
  refine ⟨⟨hs 0 Y (by omega) v1.1.2 a1, gHp_ext h2 (ho _ _ _ (by omega) (by omega) (by omega) (by omega)) a2, (ho _ _ _ (by omega) (by omega) (by omega) (by omega)).trans a3, fun j hj => ?_⟩, ⟨(ho _ _ _ (by omega) (by omega) (by omega) (by omega)).trans b1, fun q => hs 2 S (by omega) (v5 q).1.2 (b2 q)⟩, ⟨(ho _ _ _ (by omega) (by omega) (by omega) (by omega)).trans c1, (ho _ _ _ (by omega) (by omega) (by omega) (by omega)).trans c2, he⟩, ⟨hl, by omega, fun j hj => ?_⟩, (ho _ _ _ (by omega) (by omega) (by omega) (by omega)).trans d2, (ho _ _ _ (by omega) (by omega) (by omega) (by omega)).trans d3, fun j hj => (ho _ _ _ (by omega) (by omega) (by omega) (by omega)).trans (d4 j hj)⟩
  · rw [h2]
    have := (a2.1 j (by omega)).1
    exact hs _ _ (by omega) (v3 j hj).1.2 (a4 j hj)
  · rw [ho _ _ _ (by omega) (by omega) (by omega) (by omega)]
    exact d1.2.2 j hj
theorem VI_er {e9 : Int} (he : -1 ≤ e9 ∧ e9 ≤ 1000) (hv : VI Y pm P sv S rs er k w) : VI Y pm P sv S rs e9 k w := by
  obtain ⟨v1, v2, v3, v4, v5, v6, _, v8⟩ := hv
  exact ⟨v1, v2, v3, v4, v5, v6, he, v8⟩
theorem VI_rs {r9 : Int} (he : r9 = 0 ∨ 1 ≤ r9 ∧ r9 ≤ 7) (hv : VI Y pm P sv S rs er k w) : VI Y pm P sv S r9 er k w := by
  obtain ⟨v1, v2, v3, v4, v5, _, v8⟩ := hv
  exact ⟨v1, v2, v3, v4, v5, he, v8⟩
theorem CI_un {j0 : Nat} (hj : pm = j0 + 1) (hv : VI Y pm P sv S rs er k w) (h : CI σ Y pm P sv S rs dt er T l k w) : CI (gShPut (gU σ 8 0 1 (j0 : Int)) 0 (P j0)) (P j0) j0 P sv S rs dt er T l k w := by
  have hP0 := hv.2.2.1 j0 (by omega)
  have h1 : CI (gU σ 8 0 1 (j0 : Int)) Y j0 P sv S rs dt er T l k w := by
    have e : ∀ a b c, ¬ (a = 8 ∧ c = 1) → (gU σ 8 0 1 (j0 : Int)).1 a b c = σ.1 a b c := fun a b c q => by rw [gU_at, if_neg (by omega)]
    obtain ⟨⟨a1, a2, a3, a4⟩, ⟨b1, b2⟩, ⟨c1, c2, c3⟩, d1, d2, d3, d4⟩ := h
    obtain ⟨v1, v2, v3, v4, v5, _⟩ := hv
    exact ⟨⟨gSh_cg v1.1.2 (fun a b c q => e a b c (by omega)) a1, ⟨a2.1, a2.2.1, by show 0 ≤ (j0 : Int); omega, by show (j0 : Int) ≤ 8; omega⟩, rfl, fun j hj => gSh_cg (v3 j (by omega)).1.2 (fun a b c q => e a b c (by omega)) (a4 j (by omega))⟩, ⟨(e _ _ _ (by omega)).trans b1, fun q => gSh_cg (v5 q).1.2 (fun a b c q => e a b c (by omega)) (b2 q)⟩, ⟨(e _ _ _ (by omega)).trans c1, (e _ _ _ (by omega)).trans c2, (e _ _ _ (by omega)).trans c3⟩, gIn_ext (e _ _ _ (by omega)) (fun j => e _ _ _ (by omega)) d1, (e _ _ _ (by omega)).trans d2, (e _ _ _ (by omega)).trans d3, fun j hj => (e _ _ _ (by omega)).trans (d4 j hj)⟩
  have hv1 : VI Y j0 P sv S rs er k w := ⟨hv.1, by have := hv.2.1; omega, fun j h => hv.2.2.1 j (by omega), hv.2.2.2⟩
  exact CI_put hP0 hv1 h1
theorem VI_un {j0 : Nat} (hj : pm = j0 + 1) (hv : VI Y pm P sv S rs er k w) : VI (P j0) j0 P sv S rs er k w := ⟨hv.2.2.1 j0 (by omega), by have := hv.2.1; omega, fun j h => hv.2.2.1 j (by omega), hv.2.2.2⟩
theorem VI_sv (hv : VI Y pm P sv S rs er k w) : VI Y pm P 1 Y rs er k w := by
  obtain ⟨v1, v2, v3, v4, v5, v6⟩ := hv
  exact ⟨v1, v2, v3, Or.inr rfl, fun _ => v1, v6⟩
theorem VI_rst (hs : sv = 1) (hv : VI Y pm P sv S rs er k w) : VI S 0 P sv S rs er k w := ⟨hv.2.2.2.2.1 hs, by omega, fun j hj => absurd hj (Nat.not_lt_zero j), hv.2.2.2⟩
theorem g_run_Y {T : Nat → Int} {l : Nat} : ∀ (n : Nat) (s : Int) {Y : Nat → Int}, gY Y → gY (g_run T l n s Y).2.2 ∧ 0 ≤ (g_run T l n s Y).2.1 ∧ (g_run T l n s Y).2.1 < 1000 ∧ ((g_run T l n s Y).2.1 ≤ 2 ∨ 100 ≤ (g_run T l n s Y).2.1)
  | 0, s, Y, hY => ⟨hY, by show (0 : Int) ≤ 0; omega, by show (0 : Int) < 1000; omega, Or.inl (by show (0 : Int) ≤ 2; omega)⟩
  | n + 1, s, Y, hY => by
    have hsp := t_dd_spec T l s
    rw [g_run_1]
    split
    · exact ⟨hY, by show (0 : Int) ≤ 0; omega, by show (0 : Int) < 1000; omega, Or.inl (by show (0 : Int) ≤ 2; omega)⟩
    · split
      · have b := gOb_bd (d := t_dd T l s) (s := rdN T l s 0) (r := rdN T l s 1) (c := rdN T l s 2) (k := rdN T l s 3) hY hsp.1
        exact ⟨hY, b.1, b.2.1, b.2.2⟩
      · rename_i h0 h1
        exact g_run_Y n _ (gCoY_Y (Classical.byContradiction h1) hY hsp.1)
theorem rd1_o {a b c : Nat} (h1 : ¬ (a = 0 ∧ c = 8)) (h2 : ¬ (a = 1 ∧ b = 1)) (h3 : ¬ (3 ≤ a ∧ a ≤ 7 ∧ b / 5 = 1)) : (rd1 σ Y).1 a b c = σ.1 a b c := by
  unfold rd1 gShPut
  rw [gShPm_off _ _ _ _ (by unfold gShC; omega), gU_at, if_neg (by omega)]
theorem CI_rd1 (hv : VI Y pm P sv S rs er k w) (h : CI σ Y pm P sv S rs dt er T l k w) : CI (gU (rd1 σ Y) 10 0 1 0) Y pm P sv S rs dt (-1) T 0 k w := by
  refine CI_er hv h ?_ rfl (fun a b c q1 q2 q3 q4 => ?_) rfl
  · rw [gU_at, if_neg (by omega)]
    unfold rd1 gShPut
    rw [gShPm_off _ _ _ _ (by unfold gShC; omega)]
    rfl
  · rw [gU_at, if_neg (by omega)]
    exact rd1_o q1 q3 q4
theorem rd3_eq {Yc : Nat → Int} : rd3 σ Y Yc = gShPut (gU (rd1 σ Y) 10 0 1 0) 0 Yc := by
  unfold rd3 gShPut
  refine gS_ext (fun a b c => ?_) rfl
  rw [gU_at, gShPm_at, gShPm_at]
  by_cases q : a = 10 ∧ b = 0 ∧ c = 1
  · rw [if_pos q, if_neg (by omega)]
    split
    · rw [gPut_off _ _ _ (by omega), gU_at, if_pos q]
    · rw [gU_at, if_pos q]
  · rw [if_neg q]
    split
    · rfl
    · split
      · by_cases q2 : (a = 3 ∧ 4 ≤ c ∧ c < 10) ∨ (a = 4 ∧ c < 48) ∨ (a = 5 ∧ c < 14) ∨ (a = 6 ∧ c < 14) ∨ (a = 7 ∧ c < 14)
        · rcases q2 with ⟨rfl, h4, h5⟩ | ⟨rfl, h4⟩ | ⟨rfl, h4⟩ | ⟨rfl, h4⟩ | ⟨rfl, h4⟩
          · rw [gPut_3, gPut_3, if_pos ⟨h4, h5⟩, if_pos ⟨h4, h5⟩]
          · rw [gPut_4, gPut_4, if_pos h4, if_pos h4]
          · rw [gPut_5, gPut_5, if_pos h4, if_pos h4]
          · rw [gPut_6, gPut_6, if_pos h4, if_pos h4]
          · rw [gPut_7, gPut_7, if_pos h4, if_pos h4]
        · rw [gPut_off _ _ _ (fun y => q2 y.2), gPut_off _ _ _ (fun y => q2 y.2), gU_at, if_neg q]
      · rw [gU_at, if_neg q]
theorem CI_rd3 {Yc : Nat → Int} (hc : gY Yc) (hv : VI Y pm P sv S rs er k w) (h : CI σ Y pm P sv S rs dt er T l k w) : CI (rd3 σ Y Yc) Yc pm P sv S rs dt (-1) T 0 k w := by
  rw [rd3_eq]
  exact CI_put hc (VI_er (by omega) hv) (CI_rd1 hv h)
theorem CI_rd4 {Yc : Nat → Int} (hc : gY Yc) (hv : VI Y pm P sv S rs er k w) (h : CI σ Y pm P sv S rs dt er T l k w) : CI (rd4 σ Y Yc) Y pm P sv S rs dt (-1) T 0 k w :=
  CI_put hv.1 (VI_y hc (VI_er (by omega) hv)) (CI_rd3 hc hv h)
theorem gHi_rd3 {Yc : Nat → Int} : gHi σ (rd3 σ Y Yc) := gHi_u _ _ _ _ (by omega) (gHi_sh _ _ (gHi_sh _ _ (gHi_u _ _ _ _ (by omega) gHi_rf)))
theorem gHi_rdS {R : Int × Int × (Nat → Int)} : gHi σ (rdS σ Y R) := by
  unfold rdS
  split
  · exact gHi_rem _ gHi_rd3
  · split
    · exact gHi_sh _ _ gHi_rd3
    · exact gHi_u _ _ _ _ (by omega) (gHi_u _ _ _ _ (by omega) (gHi_sh _ _ gHi_rd3))
end INV2
