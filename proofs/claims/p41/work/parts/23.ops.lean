/-! ===== what changes a shelf: what stands in the way, what is answered, what is left ===== -/
abbrev gHit (Y : Nat → Int) (s : Int) : Prop := 0 ≤ s ∧ s < Y 0
def o_ad (Y : Nat → Int) : Int := if 5 ≤ Y 0 then 105 else 0
def o_t (z : Nat → Int) (r c : Int) : Int := if z (20 + (8 * r.toNat + c.toNat)) = -1 then 300 + (10 * r + c) else 0
def o_s (z : Nat → Int) : Int := if 0 < s_sm z then 200 + s_sm z else 0
def o_fl (z : Nat → Int) (s : Int) : Int := if z 2 = 0 then 400 + s else 0
def gOb (d : Nat) (Y : Nat → Int) (s r c k : Int) : Int :=
  if d = 0 then (if (1 ≤ r ∧ r ≤ 6) ∧ 1 ≤ c ∧ c ≤ 8 then o_ad Y else 2)
  else if ¬ gHit Y s then 1
  else if d ≤ 3 ∧ ¬ ((0 ≤ r ∧ r < zb Y s.toNat 0) ∧ 0 ≤ c ∧ c < zb Y s.toNat 1) then 1
  else if d = 1 then (if 0 ≤ k ∧ k ≤ 9 then 0 else 2)
  else if d = 2 then (if 1 ≤ k ∧ k ≤ 9 then o_t (zb Y s.toNat) r c else 2)
  else if d = 3 then o_t (zb Y s.toNat) r c
  else if d = 4 then o_s (zb Y s.toNat)
  else if d = 5 then o_ad Y
  else if d = 6 then s_om (zb Y s.toNat) s
  else o_fl (zb Y s.toNat) s
def gCoA (d : Nat) (Y : Nat → Int) (s r c k : Int) : Int :=
  if d = 0 then Y 0
  else if d = 1 then zb Y s.toNat (20 + (8 * r.toNat + c.toNat))
  else if d = 2 then (zb Y s.toNat (20 + (8 * r.toNat + c.toNat)) + k) % 10
  else if d = 3 then s_sm (zset (zb Y s.toNat) r.toNat c.toNat (-1))
  else if d = 4 then s_tt (zb Y s.toNat)
  else if d = 5 then Y 0
  else if d = 6 then 10 * (s_r1 (zb Y s.toNat) : Int) + (s_c1 (zb Y s.toNat) : Int)
  else (s_fill 48 (zb Y s.toNat)).1
def gCoY (d : Nat) (Y : Nat → Int) (s r c k : Int) : Nat → Int :=
  if d = 0 then ySet (yF Y 0 (Y 0 + 1)) (Y 0).toNat (zNew r c)
  else if d = 1 then ySet Y s.toNat (zset (zb Y s.toNat) r.toNat c.toNat k)
  else if d = 2 then ySet (yF Y 1 (Y 1 + 1)) s.toNat (zset (zb Y s.toNat) r.toNat c.toNat ((zb Y s.toNat (20 + (8 * r.toNat + c.toNat)) + k) % 10))
  else if d = 3 then ySet (yF Y 2 (Y 2 + 1)) s.toNat (zset (zb Y s.toNat) r.toNat c.toNat (-1))
  else if d = 4 then ySet Y s.toNat (zTell (zb Y s.toNat))
  else if d = 5 then ySet (yF Y 0 (Y 0 + 1)) (Y 0).toNat (zCopy (zb Y s.toNat) s)
  else if d = 6 then ySet (yF Y 3 (Y 3 + 1)) s.toNat (zMend (zb Y s.toNat))
  else ySet (yF Y 4 (Y 4 + (s_fill 48 (zb Y s.toNat)).1)) s.toNat (zFill (zb Y s.toNat))
theorem gShPut_S {σ : gS} {sh : Nat} {Y : Nat → Int} (h : gSh σ sh Y) (hY : gY Y) {n : Nat} (hn : (n : Int) < Y 0) (z : Nat → Int) : gPut σ (5 * sh + n) z = gShPut σ sh (ySet Y n z) := by
  have h0 := hY.1
  have e : ySet Y n z 0 = Y 0 := ySet_lo Y n z (by omega)
  exact gShPut_eq (by rw [e]; exact h0) (gSh_S h h0.2 hn z) rfl (fun a b c hc => gPut_off _ _ _ (by unfold gShC at hc; rw [e] at hc; omega))
theorem gShPut_FS {σ : gS} {sh : Nat} {Y : Nat → Int} (h : gSh σ sh Y) (hY : gY Y) {n : Nat} (hn : (n : Int) < Y 0) (z : Nat → Int) {k : Nat} (h1 : 1 ≤ k) (h4 : k ≤ 4) (v : Int) : gPut (gU σ 1 sh (k + 1) v) (5 * sh + n) z = gShPut σ sh (ySet (yF Y k v) n z) := by
  have h0 := hY.1
  have ef : yF Y k v 0 = Y 0 := by rw [yF_at, if_neg (by omega)]
  have e : ySet (yF Y k v) n z 0 = Y 0 := (ySet_lo _ n z (by omega)).trans ef
  exact gShPut_eq (by rw [e]; exact h0) (gSh_S (gSh_F h h1 h4 v) (by rw [ef]; exact h0.2) (by rw [ef]; exact hn) z) rfl (fun a b c hc => by
    unfold gShC at hc
    rw [e] at hc
    rw [gPut_off _ _ _ (by omega), gU_at, if_neg (by omega)])
theorem gShPut_SF {σ : gS} {sh : Nat} {Y : Nat → Int} (h : gSh σ sh Y) (hY : gY Y) {n : Nat} (hn : (n : Int) < Y 0) (z : Nat → Int) {k : Nat} (h1 : 1 ≤ k) (h4 : k ≤ 4) (v : Int) : gU (gPut σ (5 * sh + n) z) 1 sh (k + 1) v = gShPut σ sh (ySet (yF Y k v) n z) := by
  rw [← gShPut_FS h hY hn z h1 h4 v]
  refine gS_ext (fun a b c => ?_) rfl
  rw [gU_at]
  by_cases q : a = 1 ∧ b = sh ∧ c = k + 1
  · rw [if_pos q, gPut_ok _ _ _ (by omega), gU_at, if_pos q]
  · rw [if_neg q]
    by_cases q2 : b = 5 * sh + n ∧ ((a = 3 ∧ 4 ≤ c ∧ c < 10) ∨ (a = 4 ∧ c < 48) ∨ (a = 5 ∧ c < 14) ∨ (a = 6 ∧ c < 14) ∨ (a = 7 ∧ c < 14))
    · rw [q2.1]
      rcases q2.2 with ⟨rfl, h4, h5⟩ | ⟨rfl, h4⟩ | ⟨rfl, h4⟩ | ⟨rfl, h4⟩ | ⟨rfl, h4⟩
      · rw [gPut_3, gPut_3, if_pos ⟨h4, h5⟩, if_pos ⟨h4, h5⟩]
      · rw [gPut_4, gPut_4, if_pos h4, if_pos h4]
      · rw [gPut_5, gPut_5, if_pos h4, if_pos h4]
      · rw [gPut_6, gPut_6, if_pos h4, if_pos h4]
      · rw [gPut_7, gPut_7, if_pos h4, if_pos h4]
    · rw [gPut_off _ _ _ q2, gPut_off _ _ _ q2, gU_at, if_neg q]
theorem gShPut_N {σ : gS} {sh : Nat} {Y : Nat → Int} (h : gSh σ sh Y) (hY : gY Y) (h5 : ¬ 5 ≤ Y 0) (z : Nat → Int) : gPut (gU σ 1 sh 1 (Y 0 + 1)) (5 * sh + (Y 0).toNat) z = gShPut σ sh (ySet (yF Y 0 (Y 0 + 1)) (Y 0).toNat z) := by
  have h0 := hY.1
  have hn : Y 0 = ((Y 0).toNat : Int) := by omega
  have e : ySet (yF Y 0 (Y 0 + 1)) (Y 0).toNat z 0 = Y 0 + 1 := by rw [ySet_lo _ _ z (by omega), yF_at, if_pos rfl]
  refine gShPut_eq (by rw [e]; omega) ?_ rfl (fun a b c hc => ?_)
  · have := gSh_N h hn (by omega) z
    rw [← hn] at this
    exact this
  · unfold gShC at hc
    rw [e] at hc
    rw [gPut_off _ _ _ (by omega), gU_at, if_neg (by omega)]
/-- what follows where nothing stands in the way -/
theorem gOb_0 {d : Nat} {Y : Nat → Int} {s r c k : Int} (h : gOb d Y s r c k = 0) (hY : gY Y) (hd : d < 8) :
    (d = 0 → ((1 ≤ r ∧ r ≤ 6) ∧ 1 ≤ c ∧ c ≤ 8) ∧ ¬ 5 ≤ Y 0) ∧ (d ≠ 0 → gHit Y s ∧ gZ (zb Y s.toNat)) ∧ ((d = 1 ∨ d = 2 ∨ d = 3) → (0 ≤ r ∧ r < zb Y s.toNat 0) ∧ 0 ≤ c ∧ c < zb Y s.toNat 1) ∧
    (d = 1 → 0 ≤ k ∧ k ≤ 9) ∧ (d = 2 → 1 ≤ k ∧ k ≤ 9) ∧ ((d = 2 ∨ d = 3) → zb Y s.toNat (20 + (8 * r.toNat + c.toNat)) ≠ -1) ∧ (d = 4 → s_sm (zb Y s.toNat) = 0) ∧ (d = 5 → ¬ 5 ≤ Y 0) ∧ (d = 6 → s_om (zb Y s.toNat) s = 0) ∧ (d = 7 → zb Y s.toNat 2 ≠ 0) := by
  unfold gOb o_ad o_t o_s o_fl at h
  by_cases d0 : d = 0
  · rw [if_pos d0] at h
    have h1 : ((1 ≤ r ∧ r ≤ 6) ∧ 1 ≤ c ∧ c ≤ 8) ∧ ¬ 5 ≤ Y 0 := by
      split at h
      · split at h
        · omega
        · exact ⟨by assumption, by assumption⟩
      · omega
    exact ⟨fun _ => h1, fun q => absurd d0 q, by omega, by omega, by omega, by omega, by omega, by omega, by omega, by omega⟩
  · rw [if_neg d0] at h
    by_cases hh : gHit Y s
    · rw [if_neg (fun q => q hh)] at h
      have hz := hY.2 s.toNat (by omega)
      have hsm := s_sm_bd hz
      by_cases hc : d ≤ 3 ∧ ¬ ((0 ≤ r ∧ r < zb Y s.toNat 0) ∧ 0 ≤ c ∧ c < zb Y s.toNat 1)
      · rw [if_pos hc] at h; omega
      · rw [if_neg hc] at h
        refine ⟨fun q => absurd q d0, fun _ => ⟨hh, hz⟩, fun q => Classical.byContradiction (fun q2 => hc ⟨by omega, q2⟩), ?_, ?_, ?_, ?_, ?_, ?_, ?_⟩
        · rintro rfl
          rw [if_pos rfl] at h
          exact Classical.byContradiction (fun q => by rw [if_neg q] at h; omega)
        · rintro rfl
          rw [if_neg (by omega), if_pos rfl] at h
          exact Classical.byContradiction (fun q => by rw [if_neg q] at h; omega)
        · intro q3 q4
          have hr := Classical.byContradiction (fun q2 => hc ⟨by omega, q2⟩)
          rcases q3 with rfl | rfl
          · rw [if_neg (by omega), if_pos rfl, if_pos q4] at h
            split at h <;> omega
          · rw [if_neg (by omega), if_neg (by omega), if_pos rfl, if_pos q4] at h
            omega
        · rintro rfl
          rw [if_neg (by omega), if_neg (by omega), if_neg (by omega), if_pos rfl] at h
          split at h <;> omega
        · rintro rfl
          rw [if_neg (by omega), if_neg (by omega), if_neg (by omega), if_neg (by omega), if_pos rfl] at h
          intro q
          rw [if_pos q] at h
          omega
        · rintro rfl
          rw [if_neg (by omega), if_neg (by omega), if_neg (by omega), if_neg (by omega), if_neg (by omega), if_pos rfl] at h
          exact h
        · rintro rfl
          rw [if_neg (by omega), if_neg (by omega), if_neg (by omega), if_neg (by omega), if_neg (by omega), if_neg (by omega)] at h
          intro q
          rw [if_pos q] at h
          omega
    · rw [if_pos hh] at h; omega
theorem s_om_0 {z : Nat → Int} (hz : gZ z) {n : Int} (hn : 0 ≤ n) (h : s_om z n = 0) : z 2 = 1 ∧ s_sm z = 0 ∧ s_mb z := by
  have b1 := s_sm_bd hz
  have b2 := s_wr_bd z
  have b3 := s_wc_bd z
  have b4 := hz.2.2.1
  unfold s_om at h
  by_cases q1 : z 2 = 0
  · rw [if_pos q1] at h; omega
  rw [if_neg q1] at h
  by_cases q2 : 0 < s_sm z
  · rw [if_pos q2] at h; omega
  rw [if_neg q2] at h
  by_cases q3 : s_wr z = 0 ∧ s_wc z = 0
  · rw [if_pos q3] at h; omega
  rw [if_neg q3] at h
  by_cases q4 : s_wr z ≠ 1 ∨ s_wc z ≠ 1
  · rw [if_pos q4] at h; omega
  rw [if_neg q4] at h
  have f1 := s_fw_row (z := z) (by omega)
  have f2 := s_fw_col (z := z) (by omega)
  have g1 := s_f_bd hz (b := s_r1 z) (by omega)
  have g2 := s_f_bd hz (b := 6 + s_c1 z) (by omega)
  by_cases q5 : s_f z (s_r1 z) = s_f z (6 + s_c1 z)
  · exact ⟨by omega, by omega, by omega, by omega, q5⟩
  · rw [if_neg q5] at h; omega
theorem gCoY_Y {d : Nat} {Y : Nat → Int} {s r c k : Int} (h : gOb d Y s r c k = 0) (hY : gY Y) (hd : d < 8) : gY (gCoY d Y s r c k) := by
  obtain ⟨a0, a1, a2, a3, a4, a5, a6, a7, a8, a9⟩ := gOb_0 h hY hd
  have h0 := hY.1
  have hn : 0 ≤ Y 0 → Y 0 = ((Y 0).toNat : Int) := by omega
  have eN : ∀ z, gZ z → ¬ 5 ≤ Y 0 → gY (ySet (yF Y 0 (Y 0 + 1)) (Y 0).toNat z) := fun z hz q => by
    have e := hn h0.1
    have := gY_N hY e (by omega) hz
    rw [← e] at this
    exact this
  unfold gCoY
  by_cases q0 : d = 0
  · rw [if_pos q0]
    obtain ⟨b1, b2⟩ := a0 q0
    exact eN _ (zNew_Z b1.1 b1.2) b2
  obtain ⟨hh, hz⟩ := a1 q0
  rw [if_neg q0]
  by_cases q1 : d = 1
  · rw [if_pos q1]
    have b1 := a2 (Or.inl q1)
    have b2 := a3 q1
    exact gY_S hY (gZ_set hz (by omega) (by omega) (by omega))
  rw [if_neg q1]
  by_cases q2 : d = 2
  · rw [if_pos q2]
    have b1 := a2 (Or.inr (Or.inl q2))
    exact gY_S (gY_F hY (by omega) (by omega) _) (gZ_set hz (by omega) (by omega) (by omega))
  rw [if_neg q2]
  by_cases q3 : d = 3
  · rw [if_pos q3]
    have b1 := a2 (Or.inr (Or.inr q3))
    exact gY_S (gY_F hY (by omega) (by omega) _) (gZ_set hz (by omega) (by omega) (by omega))
  rw [if_neg q3]
  by_cases q4 : d = 4
  · rw [if_pos q4]
    exact gY_S hY (zTell_Z hz)
  rw [if_neg q4]
  by_cases q5 : d = 5
  · rw [if_pos q5]
    exact eN _ (zCopy_Z hz (by omega)) (a7 q5)
  rw [if_neg q5]
  by_cases q6 : d = 6
  · rw [if_pos q6]
    obtain ⟨b1, b2, b3⟩ := s_om_0 hz hh.1 (a8 q6)
    have f1 := s_fw_row (z := zb Y s.toNat) (by have := b3.1; omega)
    have f2 := s_fw_col (z := zb Y s.toNat) (by have := b3.2.1; omega)
    exact gY_S (gY_F hY (by omega) (by omega) _) (zMend_Z hz (s_w_row hz f1.2.1 f1.2.2) (s_w_col hz f2.2.1 f2.2.2))
  rw [if_neg q6]
  exact gY_S (gY_F hY (by omega) (by omega) _) (zFill_Z hz)
