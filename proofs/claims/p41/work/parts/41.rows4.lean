/-! ===== rows for the law: longs, shifts, floats, cells of its own ===== -/
theorem g_ushr (x y : Int32) (h : 0 ≤ x.toInt) : 0 ≤ ((x.toUInt32 >>> (y.toUInt32 &&& Int32.toUInt32 31)).toInt32).toInt := by
  have hx : x.toUInt32.toNat < 2147483648 := by
    have h2 := h
    rw [show x.toInt = x.toBitVec.toInt from rfl, BitVec.toInt_eq_toNat_cond] at h2
    have hb := x.toBitVec.isLt
    show x.toBitVec.toNat < 2147483648
    split at h2 <;> omega
  have hs : (x.toUInt32 >>> (y.toUInt32 &&& Int32.toUInt32 31)).toNat ≤ x.toUInt32.toNat := by
    rw [UInt32.toNat_shiftRight]
    exact Nat.shiftRight_le _ _
  show 0 ≤ (x.toUInt32 >>> (y.toUInt32 &&& Int32.toUInt32 31)).toBitVec.toInt
  rw [BitVec.toInt_eq_toNat_cond]
  have e : (x.toUInt32 >>> (y.toUInt32 &&& Int32.toUInt32 31)).toBitVec.toNat = (x.toUInt32 >>> (y.toUInt32 &&& Int32.toUInt32 31)).toNat := rfl
  rw [e, if_pos (by omega)]
  omega
theorem g_ushr1 (x : Int32) : 0 ≤ ((x.toUInt32 >>> ((Int32.ofInt 1).toUInt32 &&& Int32.toUInt32 31)).toInt32).toInt := by
  have hs : (x.toUInt32 >>> ((Int32.ofInt 1).toUInt32 &&& Int32.toUInt32 31)).toNat < 2147483648 := by
    rw [UInt32.toNat_shiftRight]
    have e : ((Int32.ofInt 1).toUInt32 &&& Int32.toUInt32 31).toNat % 32 = 1 := by decide
    rw [e, Nat.shiftRight_eq_div_pow]
    have := x.toUInt32.toBitVec.isLt
    have e2 : x.toUInt32.toBitVec.toNat = x.toUInt32.toNat := rfl
    omega
  show 0 ≤ (x.toUInt32 >>> ((Int32.ofInt 1).toUInt32 &&& Int32.toUInt32 31)).toBitVec.toInt
  rw [BitVec.toInt_eq_toNat_cond]
  have e : (x.toUInt32 >>> ((Int32.ofInt 1).toUInt32 &&& Int32.toUInt32 31)).toBitVec.toNat = (x.toUInt32 >>> ((Int32.ofInt 1).toUInt32 &&& Int32.toUInt32 31)).toNat := rfl
  rw [e, if_pos (by omega)]
  omega
theorem g_i32 (x : Int32) : -2147483648 ≤ x.toInt ∧ x.toInt < 2147483648 := ⟨by have := Int32.le_toInt x; simpa using this, by have := Int32.toInt_lt x; simpa using this⟩
/-- a store of two slots -/
theorem gSt2 {E : gE} {L : List (Option gV)} {v : Value} {i : Nat} {ls' : Array Slot} (h : lv_has ls' L.length ((i, v) :: (gAsc E 0 L).filter (fun q => !(q.1 == i) && (!(q.1 == i + 1) && !(q.1 + 1 == i && q.2.category == 2))))) (hp : gPr L i) : lv_has ls' ((L.set i (some (.inl v))).set (i + 1) none).length (gAsc E 0 ((L.set i (some (.inl v))).set (i + 1) none)) := by
  refine ⟨by rw [List.length_set, List.length_set]; exact h.1, h.2.1, fun q hq => ?_⟩
  obtain ⟨j, w, h1, h2⟩ := gAsc_in _ 0 hq
  rw [Nat.zero_add] at h2
  subst h2
  by_cases h8 : i + 1 = j
  · subst h8
    have hl := (List.getElem?_eq_some_iff.mp h1).1
    rw [List.length_set, List.length_set] at hl
    rw [List.getElem?_set_self (by rw [List.length_set]; exact hl)] at h1
    cases h1
  · rw [List.getElem?_set_ne h8] at h1
    by_cases h7 : i = j
    · subst h7
      have hl := (List.getElem?_eq_some_iff.mp h1).1
      rw [List.length_set] at hl
      rw [List.getElem?_set_self hl] at h1
      have e := Option.some.inj (Option.some.inj h1)
      subst e
      exact h.2.2 _ List.mem_cons_self
    · rw [List.getElem?_set_ne h7] at h1
      refine h.2.2 _ (List.mem_cons_of_mem _ (List.mem_filter.mpr ⟨?_, ?_⟩))
      · have := gAsc_mem (E := E) L 0 j h1
        rw [Nat.zero_add] at this
        exact this
      · show (!(j == i) && (!(j == i + 1) && !(j + 1 == i && (gc E w).category == 2))) = true
        have e1 : (j == i) = false := by simpa using fun q => h7 q.symm
        have e2 : (j == i + 1) = false := by simpa using fun q => h8 q.symm
        rw [e1, e2]
        by_cases h6 : j + 1 = i
        · subst h6
          have h3 : gC1 (L[j]?.join) = true := hp
          rw [h1] at h3
          have h4 : (gc E w).category = 1 := gC1_cat h3
          rw [h4]
          simp
        · simp [h6]
theorem gQf_f0 : ∀ a : Nat, a < 49 → ∀ b : Nat, b < 48 → Op.cmpValue (FP.fcmp (gQf a (b + 1)) (gQf a (b + 1))) .l = 0 := by decide +kernel
theorem gQf_f {a b : Nat} (ha : a < 49) (hb : 1 ≤ b ∧ b ≤ 48) : Op.cmpValue (FP.fcmp (gQf a b) (gQf a b)) .l = 0 := by
  have := gQf_f0 a ha (b - 1) (by omega)
  rw [show b - 1 + 1 = b by omega] at this
  exact this
section GL
variable {X : gM} {E : gE} {M : gMt} {D n cells slots pc : Nat} {L : List (Option gV)} {st : List gV} {σ σ' : gS}
theorem x_iushr1 (K : gK X E M D n) {v : Int32} (d : decode M.2.1 pc = .ok (.iushr, 1)) (k : ∀ u : Int, 0 ≤ u → u < 2147483648 → gWX X E cells slots (pc + 1) L (iv u :: st) σ) : gWX X E cells slots pc L (iv 1 :: .inl (.int v) :: st) σ := by
  intro H locs ls hP hS hl
  have h := k ((v.toUInt32 >>> ((Int32.ofInt 1).toUInt32 &&& Int32.toUInt32 31)).toInt32).toInt (g_ushr1 v) (g_i32 _).2 H locs ls hP hS hl
  refine lv_iushr K.1 K.2.1 d rfl ?_
  rw [List.map_cons, show gc E (iv ((v.toUInt32 >>> ((Int32.ofInt 1).toUInt32 &&& Int32.toUInt32 31)).toInt32).toInt) = .int ((v.toUInt32 >>> ((Int32.ofInt 1).toUInt32 &&& Int32.toUInt32 31)).toInt32) from congrArg Value.int (Int32.ofInt_toInt _)] at h
  exact h
theorem x_iushr (K : gK X E M D n) {a s : Int} (h0 : 0 ≤ a ∧ a < 2147483648) (d : decode M.2.1 pc = .ok (.iushr, 1)) (k : ∀ u : Int, 0 ≤ u → u < 2147483648 → gWX X E cells slots (pc + 1) L (iv u :: st) σ) : gWX X E cells slots pc L (iv s :: iv a :: st) σ := by
  intro H locs ls hP hS hl
  have h := k (((Int32.ofInt a).toUInt32 >>> ((Int32.ofInt s).toUInt32 &&& Int32.toUInt32 31)).toInt32).toInt (g_ushr _ _ (by rw [g_toI (by omega)]; exact h0.1)) (g_i32 _).2 H locs ls hP hS hl
  refine lv_iushr K.1 K.2.1 d rfl ?_
  rw [List.map_cons, show gc E (iv (((Int32.ofInt a).toUInt32 >>> ((Int32.ofInt s).toUInt32 &&& Int32.toUInt32 31)).toInt32).toInt) = .int (((Int32.ofInt a).toUInt32 >>> ((Int32.ofInt s).toUInt32 &&& Int32.toUInt32 31)).toInt32) from congrArg Value.int (Int32.ofInt_toInt _)] at h
  exact h
theorem x_ldcI (K : gK X E M D n) {own : String} {idx : Nat} {v : Int32} (ho : M.1.cls = own) (hs : Cond.constant own idx v ∈ lw_tbl) (d : decode M.2.1 pc = .ok (.ldc idx, 2)) (k : gWX X E cells slots (pc + 2) L (.inl (.int v) :: st) σ) : gWX X E cells slots pc L st σ := by
  subst ho
  exact fun H locs ls hP hS hl => lv_ldc K.1 K.2.1 K.2.2.2.1 (gN_word K.2.2.2.2.1 hs rfl _) d (k H locs ls hP hS hl)
theorem x_ldc2 (K : gK X E M D n) {own : String} {idx : Nat} {v : Int64} (ho : M.1.cls = own) (hs : Cond.constantLong own idx v ∈ lw_tbl) (d : decode M.2.1 pc = .ok (.ldc2_w idx, 3)) (k : gWX X E cells slots (pc + 3) L (.inl (.long v) :: st) σ) : gWX X E cells slots pc L st σ := by
  subst ho
  exact fun H locs ls hP hS hl => lv_ldc2 K.1 K.2.1 K.2.2.2.1 (gN_word K.2.2.2.2.1 hs rfl _) d (k H locs ls hP hS hl)
theorem x_imulA (K : gK X E M D n) {a b : Int32} (d : decode M.2.1 pc = .ok (.imul, 1)) (k : gWX X E cells slots (pc + 1) L (.inl (.int (a * b)) :: st) σ) : gWX X E cells slots pc L (.inl (.int b) :: .inl (.int a) :: st) σ :=
  fun H locs ls hP hS hl => lv_imul K.1 K.2.1 d (k H locs ls hP hS hl)
theorem x_ladd (K : gK X E M D n) {a b : Int64} (d : decode M.2.1 pc = .ok (.ladd, 1)) (k : gWX X E cells slots (pc + 1) L (.inl (.long (a + b)) :: st) σ) : gWX X E cells slots pc L (.inl (.long b) :: .inl (.long a) :: st) σ :=
  fun H locs ls hP hS hl => lv_ladd K.1 K.2.1 d (k H locs ls hP hS hl)
theorem x_lmul (K : gK X E M D n) {a b : Int64} (d : decode M.2.1 pc = .ok (.lmul, 1)) (k : gWX X E cells slots (pc + 1) L (.inl (.long (a * b)) :: st) σ) : gWX X E cells slots pc L (.inl (.long b) :: .inl (.long a) :: st) σ :=
  fun H locs ls hP hS hl => lv_lmul K.1 K.2.1 d (k H locs ls hP hS hl)
theorem x_lload_1 (K : gK X E M D n) {a0 : Option gV} {v : Int64} {t : List (Option gV)} (d : decode M.2.1 pc = .ok (.lload_n 1, 1)) (k : gWX X E cells slots (pc + 1) (a0 :: some (.inl (.long v)) :: t) (.inl (.long v) :: st) σ) : gWX X E cells slots pc (a0 :: some (.inl (.long v)) :: t) st σ :=
  fun H locs ls hP hS hl => lv_lload_n K.1 K.2.1 d rfl (gLd (i := 1) hl rfl) (k H locs ls hP hS hl)
theorem x_lstore_1 (K : gK X E M D n) {a0 x y : Option gV} {v : Int64} {t : List (Option gV)} (d : decode M.2.1 pc = .ok (.lstore_n 1, 1)) (h1 : gC1 a0 = true) (k : gWX X E cells slots (pc + 1) (a0 :: some (.inl (.long v)) :: none :: t) st σ) : gWX X E cells slots pc (a0 :: x :: y :: t) (.inl (.long v) :: st) σ :=
  fun H locs ls hP hS hl => lv_lstore_n K.1 K.2.1 d rfl hl (by simp only [List.length_cons]; omega) rfl (fun ls' hl' => k H locs ls' hP hS (gSt2 (E := E) (L := a0 :: x :: y :: t) (i := 1) (v := .long v) hl' h1))
theorem x_lret (K : gK X E M D n) {v v' : Int64} (hE : gEnd X E n (.inl (some (.inl (.long v')))) σ') (hr : M.2.2.2 = some .long) (d : decode M.2.1 pc = .ok (.lreturn, 1)) (hc : cells ≤ n) (hs : slots ≤ 6 * n) (hz : v = v') (hσ : σ = σ') : gWX X E cells slots pc L [.inl (.long v)] σ := by
  subst hz; subst hσ
  intro H locs ls hP hS hl
  unfold gW_
  rw [hE]
  refine vx_ret (W.widen hc hs ?_)
  exact W.lret K.1 K.2.1 (K.2.2.2.2.2.2.2.1.trans hr) (gEnd_ret rfl K.2.2.2.2.1 hP hS) hS.2.2 d K.2.2.2.2.2.1
theorem x_lcmpE (K : gK X E M D n) {v u : Int64} (hv : v = u) (d : decode M.2.1 pc = .ok (.lcmp, 1)) (kk : gWX X E cells slots (pc + 1) L (iv 0 :: st) σ) : gWX X E cells slots pc L (.inl (.long u) :: .inl (.long v) :: st) σ := by
  subst hv
  intro H locs ls hP hS hl
  refine W.lcmp K.1 K.2.1 d ?_
  have e : lg_cmp v v = 0 := by
    unfold lg_cmp
    rw [if_neg (fun h => absurd h (Int64.lt_irrefl)), if_pos rfl]
  rw [e]
  exact kk H locs ls hP hS hl
theorem x_fcmp (K : gK X E M D n) {x y : UInt32} {z : Int} {op : CmpOp} (hz : Op.cmpValue (FP.fcmp x y) op = Int32.ofInt z) (d : decode M.2.1 pc = .ok (.fcmp op, 1)) (k : gWX X E cells slots (pc + 1) L (iv z :: st) σ) : gWX X E cells slots pc L (.inl (.float y) :: .inl (.float x) :: st) σ :=
  fun H locs ls hP hS hl => lv_fcmp K.1 K.2.1 d (by rw [hz]; exact k H locs ls hP hS hl)
/-- a new array of the law's own -/
theorem gI_pos {N : Nat} (h : N < 2147483648) : ¬ Int32.ofInt (N : Int) < 0 := by rw [Int32.ofInt_eq_ofNat]; exact nI_pos h
theorem x_newI (K : gK X E M D n) {N : Nat} {i : Nat} (h1 : N ≤ 60) (hi : ∀ y ∈ gX E, y.2.2.1 ≠ i) (hw : Cond.arrayClass .int ∈ lw_tbl) (hc : cells + 1 ≤ n) (hs : slots + N ≤ 6 * n) (d : decode M.2.1 pc = .ok (.newarray .int, 2))
    (kk : ∀ (a : Nat) (E2 : gE), gMore E E2 → gX E2 = gX E ++ [(a, 30, i, N)] → gK X E2 M D n → gWX X E2 (cells + 1) (slots + N) (pc + 2) L (.inl (.ref a) :: st) (fun k i2 j => if k = 30 ∧ i2 = i then 0 else σ.1 k i2 j, σ.2)) : gWX X E cells slots pc L (iv (N : Int) :: st) σ := by
  intro H locs ls hP hS hl
  have hR := K.2.2.2.2.2.2.2.2.2
  refine va_newa K.1 K.2.1 (atype := .int) (ty := .int) (gN_word K.2.2.2.2.1 hw rfl _) rfl (gN_K K.2.2.2.2.1) hP (gD_ok (gN_x K.2.2.2.2.1) σ) hS (fun q hq => Nat.le_trans (K.2.2.2.2.1.2.2.1) hq) (N' := N) (a0 := (N, .inl (fun _ => 0))) (fun _ => rfl) (gI_pos (by omega)) (g_cl (by omega)) (by show N * 4 ≤ 536870912; omega) (by rw [hR]; exact hc) (by rw [hR]; exact hs) d ?_
  intro q cA H1 hK1 hP1 hD1 hS1
  have hcA : cA = gcA E 0 := by
    have q1 := (hK1.2 (gTys E).length (cA, .int) (by rw [List.getElem?_append_right (Nat.le_refl _), Nat.sub_self]; rfl)).2
    have q2 := ((gN_K K.2.2.2.2.1).2 0 (gcA E 0, .int) (gTys_at rfl)).2
    exact Option.some.inj (Eq.trans (Eq.symm q1) q2)
  subst hcA
  refine gGrow (x := (q, 30, i, N)) (σ := σ) (σ2 := (fun k i2 j => if k = 30 ∧ i2 = i then 0 else σ.1 k i2 j, σ.2)) (st := .inl (.ref q) :: st) (L := L) K rfl hi ?_ ?_ hP1 hD1 hS1 hl rfl (kk q)
  · unfold gW
    refine congr (congrArg _ (List.map_congr_left (fun q hq => ?_))) (gWb_eq (fun y hy => ?_))
    · have hk : q.1 < 14 := (by decide +kernel : ∀ q ∈ gAll, q.1 < 14) q hq
      rw [gEnt_congr (σ' := (fun k i2 j => if k = 30 ∧ i2 = i then 0 else σ.1 k i2 j, σ.2)) (σ := σ) (fun j => if_neg (by omega)) rfl]
    · exact gEntX_congr y (fun a _ j => if_neg (fun z => hi y hy z.2))
  · refine congrArg (fun f : Nat → Int32 => (Sum.inl (gcA E 0, N, Sum.inl f) : va_E)) (funext fun c => ?_)
    show Int32.ofInt (if 30 = 30 ∧ i = i then 0 else σ.1 30 i c) = 0
    rw [if_pos ⟨rfl, rfl⟩]
    rfl
theorem x_newL (K : gK X E M D n) {N : Nat} {i : Nat} (h1 : N ≤ 60) (hi : ∀ y ∈ gX E, y.2.2.1 ≠ i) (hw : Cond.arrayClass .long ∈ lw_tbl) (hc : cells + 1 ≤ n) (hs : slots + N ≤ 6 * n) (d : decode M.2.1 pc = .ok (.newarray .long, 2))
    (kk : ∀ (a : Nat) (E2 : gE), gMore E E2 → gX E2 = gX E ++ [(a, 31, i, N)] → gK X E2 M D n → gWX X E2 (cells + 1) (slots + N) (pc + 2) L (.inl (.ref a) :: st) (fun k i2 j => if k = 31 ∧ i2 = i then 0 else σ.1 k i2 j, σ.2)) : gWX X E cells slots pc L (iv (N : Int) :: st) σ := by
  intro H locs ls hP hS hl
  have hR := K.2.2.2.2.2.2.2.2.2
  refine va_newa K.1 K.2.1 (atype := .long) (ty := .long) (gN_word K.2.2.2.2.1 hw rfl _) rfl (gN_K K.2.2.2.2.1) hP (gD_ok (gN_x K.2.2.2.2.1) σ) hS (fun q hq => Nat.le_trans (K.2.2.2.2.1.2.2.1) hq) (N' := N) (a0 := (N, .inr (.inl (fun _ => 0)))) (fun _ => rfl) (gI_pos (by omega)) (g_cl (by omega)) (by show N * 8 ≤ 536870912; omega) (by rw [hR]; exact hc) (by rw [hR]; exact hs) d ?_
  intro q cA H1 hK1 hP1 hD1 hS1
  have hcA : cA = gcA E 5 := by
    have q1 := (hK1.2 (gTys E).length (cA, .long) (by rw [List.getElem?_append_right (Nat.le_refl _), Nat.sub_self]; rfl)).2
    have q2 := ((gN_K K.2.2.2.2.1).2 5 (gcA E 5, .long) (gTys_at rfl)).2
    exact Option.some.inj (Eq.trans (Eq.symm q1) q2)
  subst hcA
  refine gGrow (x := (q, 31, i, N)) (σ := σ) (σ2 := (fun k i2 j => if k = 31 ∧ i2 = i then 0 else σ.1 k i2 j, σ.2)) (st := .inl (.ref q) :: st) (L := L) K rfl hi ?_ ?_ hP1 hD1 hS1 hl rfl (kk q)
  · unfold gW
    refine congr (congrArg _ (List.map_congr_left (fun q hq => ?_))) (gWb_eq (fun y hy => ?_))
    · have hk : q.1 < 14 := (by decide +kernel : ∀ q ∈ gAll, q.1 < 14) q hq
      rw [gEnt_congr (σ' := (fun k i2 j => if k = 31 ∧ i2 = i then 0 else σ.1 k i2 j, σ.2)) (σ := σ) (fun j => if_neg (by omega)) rfl]
    · exact gEntX_congr y (fun a _ j => if_neg (fun z => hi y hy z.2))
  · refine congrArg (fun f : Nat → Int64 => (Sum.inl (gcA E 5, N, Sum.inr (Sum.inl f)) : va_E)) (funext fun c => ?_)
    show Int64.ofInt (if 31 = 31 ∧ i = i then 0 else σ.1 31 i c) = 0
    rw [if_pos ⟨rfl, rfl⟩]
    rfl
/-- reading and writing them -/
theorem gX_e {e : Nat} {x : gXd} (h : (gX E)[e]? = some x) (hD : gXok E) {e2 : Nat} {y : gXd} (h2 : (gX E)[e2]? = some y) (hne : e2 ≠ e) : y.2.2.1 ≠ x.2.2.1 := fun q => hne (hD.2 e2 e y x h2 h (Or.inr q))
theorem gU_ent {k i j : Nat} {z : Int} (hk : 14 ≤ k) : ∀ q ∈ gAll, gEnt E (gU σ k i j z) q = gEnt E σ q := fun q hq => gEnt_congr (fun c => by
  have h9 : q.1 < 14 := (by decide +kernel : ∀ q ∈ gAll, q.1 < 14) q hq
  show (if q.1 = k ∧ q.2 = i ∧ c = j then z else σ.1 q.1 q.2 c) = _
  rw [if_neg (by omega)]) rfl
theorem gU_entX {k i j : Nat} {z : Int} {y : gXd} (h : y.2.2.1 ≠ i) : gEntX E (gU σ k i j z) y = gEntX E σ y := gEntX_congr y (fun a _ c => by
  show (if a = k ∧ y.2.2.1 = i ∧ c = j then z else σ.1 a y.2.2.1 c) = _
  rw [if_neg (fun q => h q.2.1)])
theorem x_ialdX (K : gK X E M D n) {e a i N : Nat} (hx : (gX E)[e]? = some (a, 30, i, N)) {z : Int} (j : Nat) (hz : z = (j : Int)) (hj : j < N) (hN : N ≤ 60) (d : decode M.2.1 pc = .ok (.iaload, 1)) (kk : gWX X E cells slots (pc + 1) L (iv (σ.1 30 i j) :: st) σ) : gWX X E cells slots pc L (iv z :: .inl (.ref a) :: st) σ := by
  intro H locs ls hP hS hl
  subst hz
  refine va_iald K.1 K.2.1 (gN_K K.2.2.2.2.1) hP (309 + e) 0 (gW_atX hx) (gTys_at rfl) (g_in hj (by show N < 2147483648; omega)) d ?_
  rw [g_cl (by omega)]
  exact kk H locs ls hP hS hl
theorem x_iastX (K : gK X E M D n) {e a i N : Nat} (hx : (gX E)[e]? = some (a, 30, i, N)) {z x : Int} (j : Nat) (hz : z = (j : Int)) (hj : j < N) (hN : N ≤ 60) (d : decode M.2.1 pc = .ok (.iastore, 1)) (kk : gWX X E cells slots (pc + 1) L st (gU σ 30 i j x)) : gWX X E cells slots pc L (iv x :: iv z :: .inl (.ref a) :: st) σ := by
  intro H locs ls hP hS hl
  subst hz
  have hD := gN_x K.2.2.2.2.1
  refine va_iast K.1 K.2.1 (gN_K K.2.2.2.2.1) hP (gD_ok hD σ) hS (309 + e) 0 (gW_atX hx) (gTys_at rfl) (g_in hj (by show N < 2147483648; omega)) d (fun H1 locs1 hP1 _ hS1 => ?_)
  have hu : gEntX E (gU σ 30 i j x) (a, 30, i, N) = .inl (gcA E 0, N, .inl (upd (fun c => Int32.ofInt (σ.1 30 i c)) j (Int32.ofInt x))) := by
    refine congrArg (fun f : Nat → Int32 => (Sum.inl (gcA E 0, N, Sum.inl f) : va_E)) (funext fun c => ?_)
    show Int32.ofInt (if 30 = 30 ∧ i = i ∧ c = j then x else σ.1 30 i c) = if c = j then Int32.ofInt x else Int32.ofInt (σ.1 30 i c)
    by_cases h : c = j
    · rw [if_pos ⟨rfl, rfl, h⟩, if_pos h]
    · rw [if_neg (fun q => h q.2.2), if_neg h]
  rw [g_cl (by omega), gW_setX (σ' := gU σ 30 i j x) hx (gU_ent (by omega)) (fun e2 y h2 hne => gU_entX (gX_e hx hD h2 hne)) hu] at hP1
  exact kk H1 locs1 ls hP1 hS1 hl
theorem x_alenX (K : gK X E M D n) {e a i N : Nat} (hx : (gX E)[e]? = some (a, 30, i, N)) (d : decode M.2.1 pc = .ok (.arraylength, 1)) (kk : gWX X E cells slots (pc + 1) L (iv (N : Int) :: st) σ) : gWX X E cells slots pc L (.inl (.ref a) :: st) σ := by
  intro H locs ls hP hS hl
  exact va_alen K.1 K.2.1 (gN_K K.2.2.2.2.1) hP (309 + e) 0 (gW_atX hx) (gTys_at rfl) (by rw [← Int32.ofInt_eq_ofNat]) d (kk H locs ls hP hS hl)
theorem x_laldX (K : gK X E M D n) {e a i N : Nat} (hx : (gX E)[e]? = some (a, 31, i, N)) {z : Int} (j : Nat) (hz : z = (j : Int)) (hj : j < N) (hN : N ≤ 60) (d : decode M.2.1 pc = .ok (.laload, 1)) (kk : gWX X E cells slots (pc + 1) L (.inl (.long (Int64.ofInt (σ.1 31 i j))) :: st) σ) : gWX X E cells slots pc L (iv z :: .inl (.ref a) :: st) σ := by
  intro H locs ls hP hS hl
  subst hz
  refine va_lald K.1 K.2.1 (gN_K K.2.2.2.2.1) hP (309 + e) 5 (gW_atX hx) (gTys_at rfl) (g_in hj (by show N < 2147483648; omega)) d ?_
  rw [g_cl (by omega)]
  exact kk H locs ls hP hS hl
theorem x_lastX (K : gK X E M D n) {e a i N : Nat} (hx : (gX E)[e]? = some (a, 31, i, N)) {z : Int} {v : Int64} (j : Nat) (hz : z = (j : Int)) (hj : j < N) (hN : N ≤ 60) (d : decode M.2.1 pc = .ok (.lastore, 1)) (kk : gWX X E cells slots (pc + 1) L st (gU σ 31 i j v.toInt)) : gWX X E cells slots pc L (.inl (.long v) :: iv z :: .inl (.ref a) :: st) σ := by
  intro H locs ls hP hS hl
  subst hz
  have hD := gN_x K.2.2.2.2.1
  refine va_last K.1 K.2.1 (gN_K K.2.2.2.2.1) hP (gD_ok hD σ) hS (309 + e) 5 (gW_atX hx) (gTys_at rfl) (g_in hj (by show N < 2147483648; omega)) d (fun H1 locs1 hP1 _ hS1 => ?_)
  have hu : gEntX E (gU σ 31 i j v.toInt) (a, 31, i, N) = .inl (gcA E 5, N, .inr (.inl (vp_updL (fun c => Int64.ofInt (σ.1 31 i c)) j v))) := by
    refine congrArg (fun f : Nat → Int64 => (Sum.inl (gcA E 5, N, Sum.inr (Sum.inl f)) : va_E)) (funext fun c => ?_)
    show Int64.ofInt (if 31 = 31 ∧ i = i ∧ c = j then v.toInt else σ.1 31 i c) = if c = j then v else Int64.ofInt (σ.1 31 i c)
    by_cases h : c = j
    · rw [if_pos ⟨rfl, rfl, h⟩, if_pos h, Int64.ofInt_toInt]
    · rw [if_neg (fun q => h q.2.2), if_neg h]
  rw [g_cl (by omega), gW_setX (σ' := gU σ 31 i j v.toInt) hx (gU_ent (by omega)) (fun e2 y h2 hne => gU_entX (gX_e hx hD h2 hne)) hu] at hP1
  exact kk H1 locs1 ls hP1 hS1 hl
/-- a call over a deeper stack of small values -/
def gCatS (st : List gV) : Nat := (st.map (fun v => cond (gC1 (some v)) 1 2)).sum
theorem gCatS_le (st : List gV) : ((st.map (gc E)).map fun v => v.category).sum ≤ gCatS st := by
  induction st with
  | nil => exact Nat.le_refl _
  | cons v t ih =>
    have h : (gc E v).category ≤ cond (gC1 (some v)) 1 2 := by
      cases hq : gC1 (some v) with
      | true => rw [gC1_cat hq]; exact Nat.le_refl _
      | false => rcases lv_cat (gc E v) with h | h <;> rw [h] <;> decide
    simp only [List.map_cons, List.sum_cons, gCatS] at ih ⊢
    omega
theorem gRunHs {hh : List (Nat × Nat × Nat × Nat)} (K : gK X E M D n) {N : gMt} {d n' idx : Nat} {as : List gV} {o : gO} {H : Heap} {locs : List Loc} {ls : Array Slot} (hc : hCt E N hh d n' as σ o σ') (hm : gMthH N hh as.length) (hi : Cond.static N.1 ∈ lw_tbl) (hl : Cond.methodLink M.1.cls idx N.1 ∈ lw_tbl) (hf : gFit D d n cells slots n') (hL : ls.size = M.2.2.1) (hst : gCatS st ≤ 8) (hP : va_P (gD E) gCl (gW E σ) H) (hS : va_S (gA E) X.2.2.2.2.1.heap H locs) (dd : decode M.2.1 pc = .ok (.invokestatic idx, 3)) :
    gRun X E H locs cells slots n' pc ls ((as.map (gc E)).reverse ++ st.map (gc E)) (st.map (gc E)) σ o σ' := by
  have hN := K.2.2.2.2.1
  have hR := K.2.2.2.2.2.2.2.2.2
  have h40 : 8 + (N.2.2.1 + 11) + 64 * d ≤ 64 * D := by have h1 := hm.2.2.2.2; have h2 := hf.1; omega
  unfold hCt at hc
  rw [← K.2.2.2.2.2.2.1] at hc
  have S : CallFix X.1 X.2.2.2.2.2.1 X.2.2.2.2.2.2.2.2.2.1 M.2.1 M.2.2.1 X.2.2.2.2.1 X.2.2.2.2.2.2.1 [] M.1.cls := ⟨K.1, K.2.1, K.2.2.1, K.2.2.2.1, fun w h => by cases h⟩
  have hp : PreS X.2.2.2.2.1 H (va_Pc (List.map (gc E) as) (gI E σ)) (as.map (gc E)) := ⟨gPc_blind, gPc_at K hP hS⟩
  have hW : 2 * (F0 X.2.2.2.2.2.1 pc ls ((as.map (gc E)).reverse ++ st.map (gc E))).monitorRoom + ((st.map (gc E)).map fun v => v.category).sum ≤ 8 := lv_room (Nat.le_trans (gCatS_le st) hst)
  have hr : cells + n' ≤ X.2.2.2.1.cells ∧ slots + 6 * n' ≤ X.2.2.2.1.slots := by rw [hR]; exact hf.2
  have hpay : ∀ w ∈ [Cond.codeWith N.1 N.2.1 N.2.2.1 N.2.2.2 hh], ∀ (a' : Array Value) (U : State), X.2.2.2.2.1.WarmedH U.vm → w.before a' U = true := by
    intro w hw a' U hW
    rw [List.mem_singleton] at hw
    subst hw
    exact word_at hW (Or.inl rfl) (gN_word K.2.2.2.2.1 hm.1 rfl #[])
  have hlen : ∀ sig, parseMethodDescriptor N.1.desc = some sig → as.length = sig.parameters.length := by
    intro sig h
    have h2 := hm.2.2.2.1
    rw [h] at h2
    exact (Option.some.inj h2).symm
  exact vx_runSX (As := as.map (gc E)) (rest := st.map (gc E)) S hc ⟨⟨rfl, rfl, by rw [hR]; exact hf.1, by rw [hR]; exact h40, hpay, List.mem_singleton.mpr rfl⟩, gN_word hN hm.1 rfl _, gN_word hN hm.2.1 rfl _, hm.2.2.1, hlen, gN_word hN hl rfl _, gN_word hN hi rfl _⟩ hp rfl (by rw [List.length_map]) hL rfl hW dd hr
theorem x_callH3s {hh : List (Nat × Nat × Nat × Nat)} (K : gK X E M D n) {N : gMt} {d n' idx : Nat} {v1 v2 v3 : gV} {r : gV} (hc : hCt E N hh d n' ([v1, v2, v3]) σ (.inl (some r)) σ') (hm : gMthH N hh 3) (hi : Cond.static N.1 ∈ lw_tbl) (hl : Cond.methodLink M.1.cls idx N.1 ∈ lw_tbl) (hf : gFit D d n cells slots n') (hL : L.length = M.2.2.1) (hst : gCatS st ≤ 8) (dd : decode M.2.1 pc = .ok (.invokestatic idx, 3)) (kk : gWX X E (cells + n') (slots + 6 * n') (pc + 3) L (r :: st) σ') : gWX X E cells slots pc L (v3 :: v2 :: v1 :: st) σ :=
  fun H locs ls hP hS hlv => gBack (L := L) (st := st) (gRunHs K (as := [v1, v2, v3]) hc hm hi hl hf (hlv.1.trans hL) hst hP hS dd) hS hlv kk
end GL
