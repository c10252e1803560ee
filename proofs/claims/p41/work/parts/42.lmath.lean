/-! ===== sums over cells, doubts in two ways, ranks ===== -/
theorem gSum_add2 (f g : Nat → Int) : ∀ n : Nat, gSum (fun k => f k + g k) n = gSum f n + gSum g n
  | 0 => rfl
  | n + 1 => by
    show gSum (fun k => f k + g k) n + (f n + g n) = (gSum f n + f n) + (gSum g n + g n)
    rw [gSum_add2 f g n]
    omega
theorem gSum_mul2 (f : Nat → Int) (c : Int) : ∀ n : Nat, gSum (fun k => f k * c) n = gSum f n * c
  | 0 => (Int.zero_mul c).symm
  | n + 1 => by
    show gSum (fun k => f k * c) n + f n * c = (gSum f n + f n) * c
    rw [gSum_mul2 f c n, Int.add_mul]
theorem gSum_mono {f g : Nat → Int} : ∀ n : Nat, (∀ k, k < n → f k ≤ g k) → gSum f n ≤ gSum g n
  | 0, _ => Int.le_refl _
  | n + 1, h => by
    show gSum f n + f n ≤ gSum g n + g n
    have := gSum_mono n (fun k hk => h k (by omega))
    have := h n (by omega)
    omega
theorem gSum_slt {f g : Nat → Int} {j : Nat} : ∀ n : Nat, j < n → (∀ k, k < n → f k ≤ g k) → f j < g j → gSum f n < gSum g n
  | 0, h, _, _ => absurd h (Nat.not_lt_zero j)
  | n + 1, hj, h, hs => by
    show gSum f n + f n < gSum g n + g n
    have h9 := h n (by omega)
    by_cases q : j = n
    · subst q
      have := gSum_mono j (fun k hk => h k (by omega))
      omega
    · have := gSum_slt n (by omega) (fun k hk => h k (by omega)) hs
      omega
theorem s_db_dp {z : Nat → Int} (hz : gZ z) : s_db z = s_dp z := by
  have h0 := hz.1
  have h1 := hz.2.1
  have hwc : gSum (fun c => gB1 (s_w z (6 + c) = true)) (z 1).toNat = s_wc z := by
    unfold s_wc
    rw [show 8 = (z 1).toNat + (8 - (z 1).toNat) by omega]
    exact (gSum_more _ (fun c h2 h3 => gB1_f (by
      rw [s_w_off hz (b := 6 + c) (by omega) (Or.inr ⟨by omega, by omega⟩)]
      decide))).symm
  have hwr : gSum (fun r => gB1 (s_w z r = true)) (z 0).toNat = s_wr z := by
    unfold s_wr
    rw [show 6 = (z 0).toNat + (6 - (z 0).toNat) by omega]
    exact (gSum_more _ (fun r h2 h3 => gB1_f (by
      rw [s_w_off hz (b := r) (by omega) (Or.inl ⟨by omega, by omega⟩)]
      decide))).symm
  have row : ∀ r, r < (z 0).toNat → gSum (fun c => gB1 (s_df z r c = true)) (z 1).toNat = s_m z r + gB1 (s_w z r = true) * s_wc z := by
    intro r hr
    by_cases q : s_w z r = true
    · have hm : s_m z r = 0 := ((s_w_iff z r).mp q).2.1
      rw [gB1_t q, hm, Int.zero_add, Int.one_mul, ← hwc]
      refine gSum_cong _ (fun c hc => gB1_iff ?_)
      have := s_m_row (z := z) (r := r) (c := c) (by omega) (by omega) hm
      unfold s_df
      rw [q, decide_eq_false this]
      simp
    · rw [gB1_f q, Int.zero_mul, Int.add_zero]
      have e : s_m z r = s_rm z r := by unfold s_m; rw [if_pos (by omega)]
      rw [e, ← gSum_min hz (by omega)]
      refine gSum_cong _ (fun c hc => gB1_iff ?_)
      unfold s_df
      rw [Bool.eq_false_iff.mpr q]
      simp
  unfold s_db
  rw [gSum_cong _ row, gSum_add2, gSum_mul2, hwr]
  rfl
/-- ranks -/
theorem rk_ex (κ : Nat → Int) : ∀ N : Nat, (∀ a b, a < N → b < N → κ a = κ b → a = b) → ∀ p : Nat, p < N → ∃ n, n < N ∧ gSum (fun m => gB1 (κ m < κ n)) N = (p : Int)
  | 0, _, p, hp => absurd hp (Nat.not_lt_zero p)
  | N + 1, inj, p, hp => by
    have ih := rk_ex κ N (fun a b ha hb => inj a b (by omega) (by omega))
    have hc := gSum_le (f := fun m => gB1 (κ m < κ N)) (c := 1) (fun k => gB1_bd _) N
    have hself : gB1 (κ N < κ N) = 0 := gB1_f (by omega)
    by_cases q : (p : Int) = gSum (fun m => gB1 (κ m < κ N)) N
    · refine ⟨N, by omega, ?_⟩
      show gSum (fun m => gB1 (κ m < κ N)) N + gB1 (κ N < κ N) = _
      rw [hself, q, Int.add_zero]
    · by_cases q2 : (p : Int) < gSum (fun m => gB1 (κ m < κ N)) N
      · obtain ⟨n, hn, e⟩ := ih p (by omega)
        refine ⟨n, by omega, ?_⟩
        have hlt : ¬ κ N < κ n := by
          intro z
          have := gSum_mono (f := fun m => gB1 (κ m < κ N)) (g := fun m => gB1 (κ m < κ n)) N (fun k _ => by
            show gB1 _ ≤ gB1 _
            by_cases y : κ k < κ N
            · rw [gB1_t y, gB1_t (by omega)]; exact Int.le_refl _
            · rw [gB1_f y]; exact (gB1_bd _).1)
          omega
        show gSum (fun m => gB1 (κ m < κ n)) N + gB1 (κ N < κ n) = _
        rw [gB1_f hlt, e, Int.add_zero]
      · obtain ⟨n, hn, e⟩ := ih (p - 1) (by omega)
        refine ⟨n, by omega, ?_⟩
        have hlt : κ N < κ n := by
          refine Classical.byContradiction (fun z => ?_)
          have hne : κ n ≠ κ N := fun y => by have := inj n N (by omega) (by omega) y; omega
          have := gSum_slt (f := fun m => gB1 (κ m < κ n)) (g := fun m => gB1 (κ m < κ N)) (j := n) N hn (fun k _ => by
            show gB1 _ ≤ gB1 _
            by_cases y : κ k < κ n
            · rw [gB1_t y, gB1_t (by omega)]; exact Int.le_refl _
            · rw [gB1_f y]; exact (gB1_bd _).1) (by
            show gB1 _ < gB1 _
            rw [gB1_f (by omega), gB1_t (by omega)]; decide)
          omega
        show gSum (fun m => gB1 (κ m < κ n)) N + gB1 (κ N < κ n) = _
        rw [gB1_t hlt, e]
        omega
theorem s_key_inj {Y : Nat → Int} {a b : Nat} (ha : a < 10) (hb : b < 10) (h : s_key Y a = s_key Y b) : a = b := by
  unfold s_key at h
  omega
theorem rk_at {Y : Nat → Int} (hY : gY Y) {p : Nat} (hp : (p : Int) < Y 0) : ∃ n : Nat, s_rk Y p = (n : Int) ∧ (n : Int) < Y 0 ∧ s_ah Y n = (p : Int) := by
  have h0 := hY.1
  obtain ⟨n, hn, e⟩ := rk_ex (s_key Y) (Y 0).toNat (fun a b ha hb => s_key_inj (by omega) (by omega)) p (by omega)
  obtain ⟨x, h1, -, -, -⟩ := gFst_le (p := fun n => decide (s_ah Y n = (p : Int))) (n := (Y 0).toNat) (a := 0) (k := n) (by omega) (by omega) (decide_eq_true e)
  obtain ⟨y, g1, g2, -, g4, -⟩ := gFst_yes (p := fun n => decide (s_ah Y n = (p : Int))) (n := (Y 0).toNat) (a := 0) (by rw [h1]; omega)
  exact ⟨y, g1, by omega, of_decide_eq_true g2⟩
theorem rk_end {Y : Nat → Int} (hY : gY Y) : s_rk Y (((Y 0).toNat : Nat) : Int) = -1 := by
  refine Classical.byContradiction (fun q => ?_)
  obtain ⟨y, g1, g2, -, g4, -⟩ := gFst_yes (p := fun n => decide (s_ah Y n = (((Y 0).toNat : Nat) : Int))) (n := (Y 0).toNat) (a := 0) q
  have e := of_decide_eq_true g2
  have h := gSum_slt (f := fun m => gB1 (s_key Y m < s_key Y y)) (g := fun _ => 1) (j := y) (Y 0).toNat (by omega) (fun k _ => (gB1_bd _).2) (by
    show gB1 _ < 1
    rw [gB1_f (by omega)]; decide)
  have h1 : gSum (fun _ => 1) (Y 0).toNat = (((Y 0).toNat : Nat) : Int) := by
    have key : ∀ n : Nat, gSum (fun _ => 1) n = (n : Int) := by
      intro n
      induction n with
      | zero => rfl
      | succ n ih =>
        show gSum _ n + 1 = _
        rw [ih]
        omega
    exact key _
  unfold s_ah at e
  omega
theorem rk_ord {Y : Nat → Int} {a b : Nat} (h : s_ah Y a < s_ah Y b) : s_key Y a < s_key Y b := by
  refine Classical.byContradiction (fun q => ?_)
  have := gSum_mono (f := fun m => gB1 (s_key Y m < s_key Y b)) (g := fun m => gB1 (s_key Y m < s_key Y a)) (Y 0).toNat (fun k _ => by
    show gB1 _ ≤ gB1 _
    by_cases y : s_key Y k < s_key Y b
    · rw [gB1_t y, gB1_t (by omega)]; exact Int.le_refl _
    · rw [gB1_f y]; exact (gB1_bd _).1)
  unfold s_ah at h
  omega
/-- the law's own key -/
def pKey (Y : Nat → Int) (n : Nat) : Int := 100 * s_db (zb Y n) + 50 - zb Y n 0 * zb Y n 1
theorem pKey_ord {Y : Nat → Int} (hY : gY Y) {a b : Nat} (ha : (a : Int) < Y 0) (hb : (b : Int) < Y 0) (h : s_ah Y a < s_ah Y b) : pKey Y a < pKey Y b ∨ (pKey Y a = pKey Y b ∧ a < b) := by
  have h1 := rk_ord h
  have h0 := hY.1
  have e1 := s_db_dp (hY.2 a ha)
  have e2 := s_db_dp (hY.2 b hb)
  unfold s_key s_cl at h1
  unfold pKey
  rw [e1, e2]
  generalize zb Y a 0 * zb Y a 1 = x at *
  generalize zb Y b 0 * zb Y b 1 = y at *
  omega
theorem s_clz_bd {z : Nat → Int} (hz : gZ z) : 1 ≤ z 0 * z 1 ∧ z 0 * z 1 ≤ 48 := by
  have h0 := hz.1
  have h1 := hz.2.1
  obtain ⟨a, ha⟩ : ∃ a : Nat, z 0 = (a : Int) := ⟨(z 0).toNat, by omega⟩
  obtain ⟨b, hb⟩ : ∃ b : Nat, z 1 = (b : Int) := ⟨(z 1).toNat, by omega⟩
  rw [ha, hb]
  have key : ∀ a : Nat, a ≤ 6 → ∀ b : Nat, b ≤ 8 → 1 ≤ a → 1 ≤ b → 1 ≤ a * b ∧ a * b ≤ 48 := by decide
  have := key a (by omega) b (by omega) (by omega) (by omega)
  rw [← Int.natCast_mul]
  omega
theorem pKey_bd {Y : Nat → Int} (hY : gY Y) {a : Nat} (ha : (a : Int) < Y 0) : 2 ≤ pKey Y a ∧ pKey Y a ≤ 5000 := by
  have h1 := s_db_bd (hY.2 a ha)
  have h2 := s_clz_bd (hY.2 a ha)
  unfold pKey
  omega
/-- cell by cell -/
theorem gSum_app (f : Nat → Int) (a : Nat) : ∀ b : Nat, gSum f (a + b) = gSum f a + gSum (fun c => f (a + c)) b
  | 0 => (Int.add_zero _).symm
  | b + 1 => by
    show gSum f (a + b) + f (a + b) = gSum f a + (gSum (fun c => f (a + c)) b + f (a + b))
    rw [gSum_app f a b]
    omega
theorem gSum_lin (f : Nat → Nat → Int) {C : Nat} (hC : 0 < C) : ∀ R : Nat, gSum (fun j => f (j / C) (j % C)) (R * C) = gSum (fun r => gSum (f r) C) R
  | 0 => by rw [Nat.zero_mul]; rfl
  | R + 1 => by
    rw [Nat.succ_mul, gSum_app, gSum_lin f hC R]
    show _ = gSum (fun r => gSum (f r) C) R + gSum (f R) C
    refine congrArg (fun x => gSum (fun r => gSum (f r) C) R + x) (gSum_cong C (fun c hc => ?_))
    rw [Nat.mul_comm R C, Nat.mul_add_div hC, Nat.div_eq_of_lt hc, Nat.add_zero, Nat.mul_add_mod, Nat.mod_eq_of_lt hc]
