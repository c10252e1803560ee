/-! ===== a scroll as 68 numbers: 0 rows, 1 columns, 2 sealed, 3 copy of, 4 mended, 5 filled, 6.. told sums (14), 20.. signs (48) ===== -/
def s_rs (z : Nat → Int) (r : Nat) : Int := gSum (fun c => max 0 (z (20 + (8 * r + c)))) 8
def s_cs (z : Nat → Int) (c : Nat) : Int := gSum (fun r => max 0 (z (20 + (8 * r + c)))) 6
def s_rm (z : Nat → Int) (r : Nat) : Int := gSum (fun c => gB1 (z (20 + (8 * r + c)) = -1)) 8
def s_cm (z : Nat → Int) (c : Nat) : Int := gSum (fun r => gB1 (z (20 + (8 * r + c)) = -1)) 6
def s_b (z : Nat → Int) (b : Nat) : Int := if b < 6 then s_rs z b else s_cs z (b - 6)
def s_m (z : Nat → Int) (b : Nat) : Int := if b < 6 then s_rm z b else s_cm z (b - 6)
def s_w (z : Nat → Int) (b : Nat) : Bool := decide (z 2 = 1 ∧ s_m z b = 0 ∧ z (6 + b) ≠ s_b z b % 10)
def s_f (z : Nat → Int) (b : Nat) : Int := (z (6 + b) - s_b z b % 10 + 10) % 10
def s_sm (z : Nat → Int) : Int := gSum (s_m z) (z 0).toNat
def s_wr (z : Nat → Int) : Int := gSum (fun b => gB1 (s_w z b = true)) 6
def s_wc (z : Nat → Int) : Int := gSum (fun b => gB1 (s_w z (6 + b) = true)) 8
def gFst (p : Nat → Bool) : Nat → Nat → Int
  | _, 0 => -1
  | a, n + 1 => if p a = true then (a : Int) else gFst p (a + 1) n
def s_fw (z : Nat → Int) (a : Nat) : Int := gFst (s_w z) a (14 - a)
def s_df (z : Nat → Int) (r c : Nat) : Bool := decide (z (20 + (8 * r + c)) = -1) || (s_w z r && s_w z (6 + c))
def s_db (z : Nat → Int) : Int := gSum (fun r => gSum (fun c => gB1 (s_df z r c = true)) (z 1).toNat) (z 0).toNat
def s_dp (z : Nat → Int) : Int := s_sm z + s_wr z * s_wc z
def zset (z : Nat → Int) (r c : Nat) (s : Int) : Nat → Int := fun j => if j = 20 + (8 * r + c) then s else z j
/-- the numbers' bounds -/
def gZ (z : Nat → Int) : Prop := (1 ≤ z 0 ∧ z 0 ≤ 6) ∧ (1 ≤ z 1 ∧ z 1 ≤ 8) ∧ (z 2 = 0 ∨ z 2 = 1) ∧ (-1 ≤ z 3 ∧ z 3 ≤ 4) ∧ (∀ b, b < 14 → 0 ≤ z (6 + b) ∧ z (6 + b) ≤ 9) ∧ (∀ j, j < 48 → -1 ≤ z (20 + j) ∧ z (20 + j) ≤ 9) ∧ (∀ r : Nat, r < 6 → ∀ c : Nat, c < 8 → (z 0 ≤ r ∨ z 1 ≤ c) → z (20 + (8 * r + c)) = 0) ∧ (∀ r : Nat, r < 6 → z 0 ≤ r → z (6 + r) = 0) ∧ (∀ c : Nat, c < 8 → z 1 ≤ c → z (6 + (6 + c)) = 0)
/-- scroll i of the world holds z -/
def gScr (σ : gS) (i : Nat) (z : Nat → Int) : Prop := σ.1 3 i 4 = z 0 ∧ σ.1 3 i 5 = z 1 ∧ σ.1 3 i 6 = z 2 ∧ σ.1 3 i 7 = z 3 ∧ σ.1 3 i 8 = z 4 ∧ σ.1 3 i 9 = z 5 ∧ (∀ j, j < 48 → σ.1 4 i j = z (20 + j)) ∧ (∀ b, b < 14 → σ.1 5 i b = s_b z b) ∧ (∀ b, b < 14 → σ.1 6 i b = s_m z b) ∧ (∀ b, b < 14 → σ.1 7 i b = z (6 + b))
theorem gB1_bd (p : Prop) [Decidable p] : 0 ≤ gB1 p ∧ gB1 p ≤ 1 := by unfold gB1; split <;> omega
theorem gB1_t {p : Prop} [Decidable p] (h : p) : gB1 p = 1 := if_pos h
theorem gB1_f {p : Prop} [Decidable p] (h : ¬ p) : gB1 p = 0 := if_neg h
theorem gB1_n (p : Prop) [Decidable p] : (if ¬ p then (0 : Int) else 1) = gB1 p := by by_cases h : p <;> simp [gB1, h]
theorem gB1_iff {p q : Prop} [Decidable p] [Decidable q] (h : p ↔ q) : gB1 p = gB1 q := by by_cases hp : p <;> simp [gB1, hp, ← h]
theorem gZ_s {z : Nat → Int} (h : gZ z) {r c : Nat} (hr : r < 6) (hc : c < 8) : -1 ≤ z (20 + (8 * r + c)) ∧ z (20 + (8 * r + c)) ≤ 9 := h.2.2.2.2.2.1 (8 * r + c) (by omega)
theorem s_b_bd {z : Nat → Int} (h : gZ z) {b : Nat} (hb : b < 14) : 0 ≤ s_b z b ∧ s_b z b ≤ 72 := by
  unfold s_b
  split
  · rename_i q
    have := gSum_bd (f := fun c => max 0 (z (20 + (8 * b + c)))) (c := 9) 8 (fun c hc => by have := gZ_s h q hc; (try dsimp only); omega)
    unfold s_rs; omega
  · have := gSum_bd (f := fun r => max 0 (z (20 + (8 * r + (b - 6))))) (c := 9) 6 (fun r hr => by have := gZ_s h hr (c := b - 6) (by omega); (try dsimp only); omega)
    unfold s_cs; omega
theorem s_m_bd (z : Nat → Int) (b : Nat) : 0 ≤ s_m z b ∧ s_m z b ≤ 8 := by
  unfold s_m
  split
  · have := gSum_le (f := fun c => gB1 (z (20 + (8 * b + c)) = -1)) (c := 1) (fun k => gB1_bd _) 8
    unfold s_rm; omega
  · have := gSum_le (f := fun r => gB1 (z (20 + (8 * r + (b - 6))) = -1)) (c := 1) (fun k => gB1_bd _) 6
    unfold s_cm; omega
theorem s_f_bd {z : Nat → Int} (h : gZ z) {b : Nat} (hb : b < 14) : 0 ≤ s_f z b ∧ s_f z b ≤ 9 := by
  unfold s_f
  have := s_b_bd h hb
  have := h.2.2.2.2.1 b hb
  omega
theorem s_sm_bd {z : Nat → Int} (h : gZ z) : 0 ≤ s_sm z ∧ s_sm z ≤ 48 := by
  have := gSum_le (f := s_m z) (c := 8) (fun k => s_m_bd z k) (z 0).toNat
  have := h.1
  unfold s_sm; omega
theorem s_wr_bd (z : Nat → Int) : 0 ≤ s_wr z ∧ s_wr z ≤ 6 := by
  have := gSum_le (f := fun b => gB1 (s_w z b = true)) (c := 1) (fun k => gB1_bd _) 6
  unfold s_wr; omega
theorem s_wc_bd (z : Nat → Int) : 0 ≤ s_wc z ∧ s_wc z ≤ 8 := by
  have := gSum_le (f := fun b => gB1 (s_w z (6 + b) = true)) (c := 1) (fun k => gB1_bd _) 8
  unfold s_wc; omega
theorem s_db_bd {z : Nat → Int} (h : gZ z) : 0 ≤ s_db z ∧ s_db z ≤ 48 := by
  have h1 := gSum_le (f := fun r => gSum (fun c => gB1 (s_df z r c = true)) (z 1).toNat) (c := 8) (fun k => by
    have := gSum_le (f := fun c => gB1 (s_df z k c = true)) (c := 1) (fun k => gB1_bd _) (z 1).toNat
    have := h.2.1
    (try dsimp only); omega) (z 0).toNat
  have := h.1
  unfold s_db; omega
theorem gFst_bd (p : Nat → Bool) : ∀ n a : Nat, -1 ≤ gFst p a n ∧ gFst p a n < ((a + n : Nat) : Int)
  | 0, a => by show -1 ≤ (-1 : Int) ∧ (-1 : Int) < _; omega
  | n + 1, a => by
    have := gFst_bd p n (a + 1)
    unfold gFst
    split <;> omega
theorem gSum_upd {f : Nat → Int} {c : Nat} {v : Int} : ∀ n : Nat, c < n → gSum (fun k => if k = c then v else f k) n = gSum f n + (v - f c)
  | 0, h => absurd h (Nat.not_lt_zero _)
  | n + 1, h => by
    show gSum (fun k => if k = c then v else f k) n + (if n = c then v else f n) = gSum f n + f n + (v - f c)
    by_cases hn : n = c
    · subst hn
      rw [if_pos rfl, gSum_cong n (g := f) (fun k hk => if_neg (by omega))]
      omega
    · rw [if_neg hn, gSum_upd n (by omega)]
      omega
/-- one sign set, and the sums kept up to date -/
def gAdd (σ : gS) (k i j : Nat) (x : Int) : gS := gU σ k i j (σ.1 k i j + x)
def gSetS (σ : gS) (i r c : Nat) (s : Int) : gS :=
  gAdd (gAdd (gAdd (gAdd (gU σ 4 i (8 * r + c) s) 5 i r (max 0 s - max 0 (σ.1 4 i (8 * r + c)))) 5 i (6 + c) (max 0 s - max 0 (σ.1 4 i (8 * r + c)))) 6 i r (gB1 (s = -1) - gB1 (σ.1 4 i (8 * r + c) = -1))) 6 i (6 + c) (gB1 (s = -1) - gB1 (σ.1 4 i (8 * r + c) = -1))
theorem gAdd_at (σ : gS) (k i j : Nat) (x : Int) (a b c : Nat) : (gAdd σ k i j x).1 a b c = if a = k ∧ b = i ∧ c = j then σ.1 k i j + x else σ.1 a b c := rfl
theorem gSetS_2 (σ : gS) (i r c : Nat) (s : Int) : (gSetS σ i r c s).2 = σ.2 := rfl
theorem gSetS_off (σ : gS) (i r c : Nat) (s : Int) {a b j : Nat} (h : ¬ (b = i ∧ (a = 4 ∨ a = 5 ∨ a = 6))) : (gSetS σ i r c s).1 a b j = σ.1 a b j := by
  unfold gSetS
  simp only [gAdd_at, gU_at]
  repeat rw [if_neg (by omega)]
theorem gSetS_4 (σ : gS) (i r c : Nat) (s : Int) (j : Nat) : (gSetS σ i r c s).1 4 i j = if j = 8 * r + c then s else σ.1 4 i j := by
  unfold gSetS
  simp only [gAdd_at, gU_at]
  repeat rw [if_neg (by omega)]
  by_cases h : j = 8 * r + c
  · simp [h]
  · simp [h]
theorem gSetS_5 (σ : gS) (i r c : Nat) (s : Int) (j : Nat) (hr : r < 6) : (gSetS σ i r c s).1 5 i j = σ.1 5 i j + (if j = r ∨ j = 6 + c then max 0 s - max 0 (σ.1 4 i (8 * r + c)) else 0) := by
  unfold gSetS
  by_cases h1 : j = r
  · subst h1
    have h2 : ¬ j = 6 + c := by omega
    simp [gAdd_at, gU_at, h2]
  · by_cases h2 : j = 6 + c
    · subst h2
      simp [gAdd_at, gU_at, h1]
    · simp [gAdd_at, gU_at, h1, h2]
theorem gSetS_6 (σ : gS) (i r c : Nat) (s : Int) (j : Nat) (hr : r < 6) : (gSetS σ i r c s).1 6 i j = σ.1 6 i j + (if j = r ∨ j = 6 + c then gB1 (s = -1) - gB1 (σ.1 4 i (8 * r + c) = -1) else 0) := by
  unfold gSetS
  by_cases h1 : j = r
  · subst h1
    have h2 : ¬ j = 6 + c := by omega
    simp [gAdd_at, gU_at, h2]
  · by_cases h2 : j = 6 + c
    · subst h2
      simp [gAdd_at, gU_at, h1]
    · simp [gAdd_at, gU_at, h1, h2]
theorem zset_at (z : Nat → Int) (r c : Nat) (s : Int) (j : Nat) : zset z r c s j = if j = 20 + (8 * r + c) then s else z j := rfl
theorem zset_lo (z : Nat → Int) (r c : Nat) (s : Int) {j : Nat} (h : j < 20) : zset z r c s j = z j := if_neg (by omega)
theorem zset_s (z : Nat → Int) {r c : Nat} (s : Int) {a b : Nat} (hb : b < 8) (hc : c < 8) : zset z r c s (20 + (8 * a + b)) = if a = r ∧ b = c then s else z (20 + (8 * a + b)) := by
  rw [zset_at]
  by_cases h : a = r ∧ b = c
  · rw [if_pos h, if_pos (by omega)]
  · rw [if_neg h, if_neg (by omega)]
theorem s_b_set (z : Nat → Int) {r c : Nat} (s : Int) (hr : r < 6) (hc : c < 8) {b : Nat} (hb : b < 14) : s_b (zset z r c s) b = s_b z b + (if b = r ∨ b = 6 + c then max 0 s - max 0 (z (20 + (8 * r + c))) else 0) := by
  unfold s_b
  by_cases h6 : b < 6
  · rw [if_pos h6, if_pos h6]
    unfold s_rs
    by_cases h : b = r
    · subst h
      rw [if_pos (Or.inl rfl), ← gSum_upd (f := fun k => max 0 (z (20 + (8 * b + k)))) 8 hc]
      exact gSum_cong 8 (fun k hk => by
        try dsimp only
        rw [zset_s z s hk hc]
        by_cases q : k = c
        · rw [if_pos ⟨rfl, q⟩, if_pos q]
        · rw [if_neg (fun y => q y.2), if_neg q])
    · rw [if_neg (by omega), Int.add_zero]
      exact gSum_cong 8 (fun k hk => by
        try dsimp only
        rw [zset_s z s hk hc, if_neg (fun y => h y.1)])
  · rw [if_neg h6, if_neg h6]
    unfold s_cs
    by_cases h : b = 6 + c
    · subst h
      rw [if_pos (Or.inr rfl), show 6 + c - 6 = c by omega, ← gSum_upd (f := fun k => max 0 (z (20 + (8 * k + c)))) 6 hr]
      exact gSum_cong 6 (fun k hk => by
        try dsimp only
        rw [zset_s z s hc hc]
        by_cases q : k = r
        · rw [if_pos ⟨q, rfl⟩, if_pos q]
        · rw [if_neg (fun y => q y.1), if_neg q])
    · rw [if_neg (by omega), Int.add_zero]
      exact gSum_cong 6 (fun k hk => by
        try dsimp only
        rw [zset_s z s (by omega) hc, if_neg (fun y => h (by omega))])
theorem s_m_set (z : Nat → Int) {r c : Nat} (s : Int) (hr : r < 6) (hc : c < 8) {b : Nat} (hb : b < 14) : s_m (zset z r c s) b = s_m z b + (if b = r ∨ b = 6 + c then gB1 (s = -1) - gB1 (z (20 + (8 * r + c)) = -1) else 0) := by
  unfold s_m
  by_cases h6 : b < 6
  · rw [if_pos h6, if_pos h6]
    unfold s_rm
    by_cases h : b = r
    · subst h
      rw [if_pos (Or.inl rfl), ← gSum_upd (f := fun k => gB1 (z (20 + (8 * b + k)) = -1)) 8 hc]
      exact gSum_cong 8 (fun k hk => by
        try dsimp only
        rw [zset_s z s hk hc]
        by_cases q : k = c
        · subst q; simp
        · simp [q])
    · rw [if_neg (by omega), Int.add_zero]
      exact gSum_cong 8 (fun k hk => by
        try dsimp only
        rw [zset_s z s hk hc, if_neg (fun y => h y.1)])
  · rw [if_neg h6, if_neg h6]
    unfold s_cm
    by_cases h : b = 6 + c
    · subst h
      rw [if_pos (Or.inr rfl), show 6 + c - 6 = c by omega, ← gSum_upd (f := fun k => gB1 (z (20 + (8 * k + c)) = -1)) 6 hr]
      exact gSum_cong 6 (fun k hk => by
        try dsimp only
        rw [zset_s z s hc hc]
        by_cases q : k = r
        · subst q; simp
        · simp [q])
    · rw [if_neg (by omega), Int.add_zero]
      exact gSum_cong 6 (fun k hk => by
        try dsimp only
        rw [zset_s z s (by omega) hc, if_neg (fun y => h (by omega))])
theorem gScr_set {σ : gS} {i : Nat} {z : Nat → Int} (h : gScr σ i z) {r c : Nat} (s : Int) (hr : r < 6) (hc : c < 8) : gScr (gSetS σ i r c s) i (zset z r c s) := by
  obtain ⟨h0, h1, h2, h3, h4, h5, hs, hb, hm, ht⟩ := h
  have o3 : ∀ j, (gSetS σ i r c s).1 3 i j = σ.1 3 i j := fun j => gSetS_off σ i r c s (by omega)
  refine ⟨?_, ?_, ?_, ?_, ?_, ?_, fun j hj => ?_, fun b hb' => ?_, fun b hb' => ?_, fun b hb' => ?_⟩
  · rw [o3, zset_lo z r c s (by omega)]; exact h0
  · rw [o3, zset_lo z r c s (by omega)]; exact h1
  · rw [o3, zset_lo z r c s (by omega)]; exact h2
  · rw [o3, zset_lo z r c s (by omega)]; exact h3
  · rw [o3, zset_lo z r c s (by omega)]; exact h4
  · rw [o3, zset_lo z r c s (by omega)]; exact h5
  · rw [gSetS_4, zset_at]
    by_cases q : j = 8 * r + c
    · rw [if_pos q, if_pos (by omega)]
    · rw [if_neg q, if_neg (by omega)]; exact hs j hj
  · rw [gSetS_5 σ i r c s b hr, s_b_set z s hr hc hb', hb b hb', hs (8 * r + c) (by omega)]
  · rw [gSetS_6 σ i r c s b hr, s_m_set z s hr hc hb', hm b hb', hs (8 * r + c) (by omega)]
  · rw [gSetS_off σ i r c s (by omega), zset_lo z r c s (by omega)]; exact ht b hb'
theorem gZ_set {z : Nat → Int} (h : gZ z) {r c : Nat} {s : Int} (hr : (r : Int) < z 0) (hc : (c : Int) < z 1) (hs : -1 ≤ s ∧ s ≤ 9) : gZ (zset z r c s) := by
  obtain ⟨h0, h1, h2, h3, h4, h5, h6, h7, h8⟩ := h
  have e : ∀ j, j < 20 → zset z r c s j = z j := fun j hj => zset_lo z r c s hj
  refine ⟨by rw [e 0 (by omega)]; exact h0, by rw [e 1 (by omega)]; exact h1, by rw [e 2 (by omega)]; exact h2, by rw [e 3 (by omega)]; exact h3, fun b hb => by rw [e _ (by omega)]; exact h4 b hb, fun j hj => ?_, fun a ha b hb q => ?_, fun a ha q => ?_, fun b hb q => ?_⟩
  · rw [zset_at]; split
    · exact hs
    · exact h5 j hj
  · rw [e 0 (by omega), e 1 (by omega)] at q
    rw [zset_s z s hb (by omega), if_neg (by omega)]
    exact h6 a ha b hb q
  · rw [e 0 (by omega)] at q
    rw [e _ (by omega)]
    exact h7 a ha q
  · rw [e 1 (by omega)] at q
    rw [e _ (by omega)]
    exact h8 b hb q
