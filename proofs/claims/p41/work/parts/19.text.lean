/-! ===== strings that are constants, the StringBuilder: the JDK's members over them ===== -/
section GB
variable {X : gM} {E : gE} {M : gMt} {D n cells slots pc : Nat} {L : List (Option gV)} {st : List gV} {σ σ' : gS}
theorem gZ_atV {E : gE} {U : State} {H : Heap} (h : gN E U H) {C nm d : String} {v : Value} (hl : Cond.laysStatic C nm d ∈ lw_tbl) (hi : Cond.initialized C ∈ lw_tbl) (he : (Term.static C nm d).eval (ga0 E) (gs0 E) none [] (gs0 E) = some v) : va_Z C nm d v (gA E) U H :=
  (va_Z.moved h.2.1.alike (va_Zof (h.1.1 _ hl) (h.1.1 _ hi) he (gA_no E))).kept (fun a ha _ => h.2.2.2 a ha)
theorem x_getsV (K : gK X E M D n) {C nm dd : String} {v : Value} {idx : Nat} (hl : Cond.laysStatic C nm dd ∈ lw_tbl) (hi : Cond.initialized C ∈ lw_tbl) (hk : Cond.fieldLink M.1.cls idx C nm dd ∈ lw_tbl) (he : (Term.static C nm dd).eval (ga0 E) (gs0 E) none [] (gs0 E) = some v) (d : decode M.2.1 pc = .ok (.getstatic idx, 3)) (k : gWX X E cells slots (pc + 3) L (.inl v :: st) σ) : gWX X E cells slots pc L st σ :=
  fun H locs ls hP hS hl' => va_gets K.1 K.2.1 (gZ_atV K.2.2.2.2.1 hl hi he) hS K.2.2.2.1 (gN_any K.2.2.2.2.1 hk rfl _) (fun x h => h) d (k H locs ls hP hS hl')
theorem gCS {E : gE} {U : State} {H : Heap} (h : gN E U H) : (Term.static "java/lang/String" "COMPACT_STRINGS" "Z").eval (ga0 E) (gs0 E) none [] (gs0 E) = some (.int (Int32.ofInt 1)) := va_eqt (gNr h (by decide +kernel))
theorem gSF {E : gE} {U : State} {H : Heap} (h : gN E U H) : ∃ v : Value, (Term.static "jdk/internal/util/Preconditions" "SIOOBE_FORMATTER" "Ljava/util/function/BiFunction;").eval (ga0 E) (gs0 E) none [] (gs0 E) = some v ∧ gC1 (some (.inl v)) = true := by
  have h0 := gNr h (w := Cond.isRef (.static "jdk/internal/util/Preconditions" "SIOOBE_FORMATTER" "Ljava/util/function/BiFunction;")) (by decide +kernel)
  cases hv : (Term.static "jdk/internal/util/Preconditions" "SIOOBE_FORMATTER" "Ljava/util/function/BiFunction;").eval (ga0 E) (gs0 E) none [] (gs0 E) with
  | none => simp [Cond.before, Cond.holds, Cond.value, hv] at h0
  | some v => exact ⟨v, rfl, by cases v <;> simp_all [Cond.before, Cond.holds, Cond.value, Value.isRef, gC1]⟩
theorem x_bret0 (K : gK X E M D n) {z z' : Int} (hE : gEnd X E n (.inl (some (iv z'))) σ') (hr : M.2.2.2 = some .byte) (d : decode M.2.1 pc = .ok (.ireturn, 1)) (hc : cells ≤ n) (hs : slots ≤ 6 * n) (hz : z = 0 ∧ z = z') (hσ : σ = σ') : gWX X E cells slots pc L [iv z] σ := by
  obtain ⟨rfl, rfl⟩ := hz
  subst hσ
  intro H locs ls hP hS hl
  unfold gW_
  rw [hE]
  refine vx_ret (W.widen hc hs ?_)
  have hn : narrow .byte (.int (Int32.ofInt 0)) = .int (Int32.ofInt 0) := rfl
  exact W.zret (ty := .byte) K.1 K.2.1 (K.2.2.2.2.2.2.2.1.trans hr) hn (gEnd_ret rfl K.2.2.2.2.1 hP hS) hS.2.2 d K.2.2.2.2.2.1
theorem g_shr0 (z : Int) : Int32.ofInt z >>> (Int32.ofInt 0 &&& 31) = Int32.ofInt z := by
  have : Int32.ofInt 0 &&& 31 = 0 := by decide
  rw [this]
  simp
theorem x_ishr0 (K : gK X E M D n) {z : Int} (d : decode M.2.1 pc = .ok (.ishr, 1)) (k : gWX X E cells slots (pc + 1) L (iv z :: st) σ) : gWX X E cells slots pc L (iv 0 :: iv z :: st) σ :=
  fun H locs ls hP hS hl => lv_ishr K.1 K.2.1 d (by rw [g_shr0]; exact k H locs ls hP hS hl)
theorem g_and255 (z : Int) : Int32.ofInt z &&& Int32.ofInt 255 = Int32.ofInt (z % 256) := by
  apply Int32.toBitVec_inj.mp
  apply BitVec.eq_of_toNat_eq
  show ((BitVec.ofInt 32 z) &&& 255#32).toNat = (BitVec.ofInt 32 (z % 256)).toNat
  rw [BitVec.toNat_and, BitVec.toNat_ofInt, BitVec.toNat_ofInt]
  show (z % (2 ^ 32 : Nat)).toNat &&& 2 ^ 8 - 1 = (z % 256 % (2 ^ 32 : Nat)).toNat
  rw [Nat.and_two_pow_sub_one_eq_mod]
  omega
theorem x_and255 (K : gK X E M D n) {z : Int} (d : decode M.2.1 pc = .ok (.iand, 1)) (k : gWX X E cells slots (pc + 1) L (iv (z % 256) :: st) σ) : gWX X E cells slots pc L (iv 255 :: iv z :: st) σ :=
  fun H locs ls hP hS hl => lv_iand K.1 K.2.1 d (by rw [g_and255]; exact k H locs ls hP hS hl)
def gI8 (z : Int) : Int := if z % 256 < 128 then z % 256 else z % 256 - 256
theorem g_i2b (z : Int) : (Int32.ofInt z).toInt8.toInt32 = Int32.ofInt (gI8 z) := by
  apply Int32.toInt_inj.mp
  have hb : -2147483648 ≤ gI8 z ∧ gI8 z < 2147483648 := by unfold gI8; split <;> omega
  rw [Int8.toInt_toInt32, Int32.toInt_toInt8, g_toI hb, Int32.toInt_ofInt]
  unfold gI8
  rw [Int.bmod_def, Int.bmod_def, show ((Int32.size : Nat) : Int) = 4294967296 from rfl]
  split <;> split <;> split <;> omega
theorem x_i2b (K : gK X E M D n) {z : Int} (d : decode M.2.1 pc = .ok (.i2b, 1)) (k : gWX X E cells slots (pc + 1) L (iv (gI8 z) :: st) σ) : gWX X E cells slots pc L (iv z :: st) σ :=
  fun H locs ls hP hS hl => lv_i2b K.1 K.2.1 d (g_i2b z) (k H locs ls hP hS hl)
theorem g_byte {x : Int} (h : -128 ≤ x ∧ x < 128) : vp_nar .byte (Int32.ofInt x) = Int32.ofInt x := by
  show (Int32.ofInt x).toInt8.toInt32 = Int32.ofInt x
  rw [g_i2b]
  unfold gI8
  congr 1
  split <;> omega
theorem x_bast (K : gK X E M D n) {k i N : Nat} {z x : Int} (j : Nat) (hz : z = (j : Int)) (ha : gIA k = some (2, N)) (ho : gOk k i) (hj : j < N) (hx : -128 ≤ x ∧ x < 128) (d : decode M.2.1 pc = .ok (.bastore, 1)) (kk : gWX X E cells slots (pc + 1) L st (gU σ k i j x)) : gWX X E cells slots pc L (iv x :: iv z :: .inr (k, i) :: st) σ := by
  intro H locs ls hP hS hl
  subst hz
  have hN := gIA_lt ha
  refine va_bast K.1 K.2.1 (gN_K K.2.2.2.2.1) hP (gD_ok (gN_x K.2.2.2.2.1) σ) hS (gOff k i) 2 (by rw [gW_at ho, gEnt_arr ha]) (gTys_at rfl) (g_in hj hN) d (fun H1 locs1 hP1 _ hS1 => ?_)
  rw [g_cl (by omega), g_byte hx, gW_set (σ' := gU σ k i j x) ho gU_off (gU_offX ho) (gU_arr ha)] at hP1
  exact kk H1 locs1 ls hP1 hS1 hl
end GB
