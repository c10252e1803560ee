/-! ===== quotients of small numbers; rows for longs, doubles, floats ===== -/
def gQ (a b : Nat) : UInt64 := FP.ddiv (FP.i2d (Int32.ofInt (a : Int))) (FP.i2d (Int32.ofInt (b : Int)))
def gQf (a b : Nat) : UInt32 := FP.fdiv (FP.i2f (Int32.ofInt (a : Int))) (FP.i2f (Int32.ofInt (b : Int)))
def gQok (a b : Nat) : Bool := decide (gQ a b &&& 0x7fffffffffffffff ≤ 0x7ff0000000000000) && decide (Op.cmpValue (FP.dcmp (gQ a b) (gQ a b)) .l = 0)
def gQfok (a b : Nat) : Bool := decide (gQf a b &&& 0x7fffffff ≤ 0x7f800000) && decide (FP.f2d (gQf a b) &&& 0x7fffffffffffffff ≤ 0x7ff0000000000000) && decide (Op.cmpValue (FP.dcmp (FP.f2d (gQf a b)) (FP.f2d (gQf a b))) .l = 0)
theorem gQ_0 : ∀ a : Nat, a < 28 → ∀ b : Nat, b < 48 → gQok (0 + a) (b + 1) = true := by decide +kernel
theorem gQ_1 : ∀ a : Nat, a < 28 → ∀ b : Nat, b < 48 → gQok (28 + a) (b + 1) = true := by decide +kernel
theorem gQ_2 : ∀ a : Nat, a < 28 → ∀ b : Nat, b < 48 → gQok (56 + a) (b + 1) = true := by decide +kernel
theorem gQ_3 : ∀ a : Nat, a < 28 → ∀ b : Nat, b < 48 → gQok (84 + a) (b + 1) = true := by decide +kernel
theorem gQ_4 : ∀ a : Nat, a < 28 → ∀ b : Nat, b < 48 → gQok (112 + a) (b + 1) = true := by decide +kernel
theorem gQ_5 : ∀ a : Nat, a < 28 → ∀ b : Nat, b < 48 → gQok (140 + a) (b + 1) = true := by decide +kernel
theorem gQ_6 : ∀ a : Nat, a < 28 → ∀ b : Nat, b < 48 → gQok (168 + a) (b + 1) = true := by decide +kernel
theorem gQ_7 : ∀ a : Nat, a < 28 → ∀ b : Nat, b < 48 → gQok (196 + a) (b + 1) = true := by decide +kernel
theorem gQ_8 : ∀ a : Nat, a < 28 → ∀ b : Nat, b < 48 → gQok (224 + a) (b + 1) = true := by decide +kernel
theorem gQ_9 : ∀ a : Nat, a < 28 → ∀ b : Nat, b < 48 → gQok (252 + a) (b + 1) = true := by decide +kernel
theorem gQ_10 : ∀ a : Nat, a < 28 → ∀ b : Nat, b < 48 → gQok (280 + a) (b + 1) = true := by decide +kernel
theorem gQ_11 : ∀ a : Nat, a < 28 → ∀ b : Nat, b < 48 → gQok (308 + a) (b + 1) = true := by decide +kernel
theorem gQ_12 : ∀ a : Nat, a < 28 → ∀ b : Nat, b < 48 → gQok (336 + a) (b + 1) = true := by decide +kernel
theorem gQ_13 : ∀ a : Nat, a < 28 → ∀ b : Nat, b < 48 → gQok (364 + a) (b + 1) = true := by decide +kernel
theorem gQ_14 : ∀ a : Nat, a < 28 → ∀ b : Nat, b < 48 → gQok (392 + a) (b + 1) = true := by decide +kernel
theorem gQ_15 : ∀ a : Nat, a < 28 → ∀ b : Nat, b < 48 → gQok (420 + a) (b + 1) = true := by decide +kernel
theorem gQ_all {a b : Nat} (ha : a < 448) (hb : 1 ≤ b ∧ b ≤ 48) : gQok a b = true := by
  have hb2 : b = (b - 1) + 1 := by omega
  have key : ∀ k, k * 28 ≤ a → a < k * 28 + 28 → (∀ x : Nat, x < 28 → ∀ y : Nat, y < 48 → gQok (28 * k + x) (y + 1) = true) → gQok a b = true := fun k h1 h2 h => by
    have := h (a - k * 28) (by omega) (b - 1) (by omega)
    rw [← hb2, show 28 * k + (a - k * 28) = a by omega] at this
    exact this
  have hk : a / 28 < 16 := by omega
  obtain h | h | h | h | h | h | h | h | h | h | h | h | h | h | h | h : a / 28 = 0 ∨ a / 28 = 1 ∨ a / 28 = 2 ∨ a / 28 = 3 ∨ a / 28 = 4 ∨ a / 28 = 5 ∨ a / 28 = 6 ∨ a / 28 = 7 ∨ a / 28 = 8 ∨ a / 28 = 9 ∨ a / 28 = 10 ∨ a / 28 = 11 ∨ a / 28 = 12 ∨ a / 28 = 13 ∨ a / 28 = 14 ∨ a / 28 = 15 := by omega
  · exact key 0 (by omega) (by omega) gQ_0
  · exact key 1 (by omega) (by omega) gQ_1
  · exact key 2 (by omega) (by omega) gQ_2
  · exact key 3 (by omega) (by omega) gQ_3
  · exact key 4 (by omega) (by omega) gQ_4
  · exact key 5 (by omega) (by omega) gQ_5
  · exact key 6 (by omega) (by omega) gQ_6
  · exact key 7 (by omega) (by omega) gQ_7
  · exact key 8 (by omega) (by omega) gQ_8
  · exact key 9 (by omega) (by omega) gQ_9
  · exact key 10 (by omega) (by omega) gQ_10
  · exact key 11 (by omega) (by omega) gQ_11
  · exact key 12 (by omega) (by omega) gQ_12
  · exact key 13 (by omega) (by omega) gQ_13
  · exact key 14 (by omega) (by omega) gQ_14
  · exact key 15 (by omega) (by omega) gQ_15
theorem gQf_0 : ∀ a : Nat, a < 49 → ∀ b : Nat, b < 48 → gQfok a (b + 1) = true := by decide +kernel
theorem gQf_all {a b : Nat} (ha : a < 49) (hb : 1 ≤ b ∧ b ≤ 48) : gQfok a b = true := by
  have := gQf_0 a ha (b - 1) (by omega)
  rw [show b - 1 + 1 = b by omega] at this
  exact this
theorem gQ_n {a b : Nat} (ha : a < 448) (hb : 1 ≤ b ∧ b ≤ 48) : vf_n64 (gQ a b) := by
  have := gQ_all ha hb
  unfold gQok at this
  rw [Bool.and_eq_true] at this
  have h : gQ a b &&& 0x7fffffffffffffff ≤ 0x7ff0000000000000 := of_decide_eq_true this.1
  exact h
theorem gQ_c {a b : Nat} (ha : a < 448) (hb : 1 ≤ b ∧ b ≤ 48) : Op.cmpValue (FP.dcmp (gQ a b) (gQ a b)) .l = 0 := by
  have := gQ_all ha hb
  unfold gQok at this
  rw [Bool.and_eq_true] at this
  exact of_decide_eq_true this.2
theorem gQf_n {a b : Nat} (ha : a < 49) (hb : 1 ≤ b ∧ b ≤ 48) : vf_n32 (gQf a b) ∧ vf_n64 (FP.f2d (gQf a b)) ∧ Op.cmpValue (FP.dcmp (FP.f2d (gQf a b)) (FP.f2d (gQf a b))) .l = 0 := by
  have := gQf_all ha hb
  unfold gQfok at this
  rw [Bool.and_eq_true, Bool.and_eq_true] at this
  have h1 : gQf a b &&& 0x7fffffff ≤ 0x7f800000 := of_decide_eq_true this.1.1
  have h2 : FP.f2d (gQf a b) &&& 0x7fffffffffffffff ≤ 0x7ff0000000000000 := of_decide_eq_true this.1.2
  exact ⟨h1, h2, of_decide_eq_true this.2⟩
