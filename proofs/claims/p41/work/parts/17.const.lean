/-! ===== constants of the launch: enum constants, their fields, static arrays, strings; rows for them ===== -/
def gTa (E : gE) (t : Term) : Nat := match t.eval (ga0 E) (gs0 E) none [] (gs0 E) with
  | some (.ref a) => a
  | _ => 0
def gRd (E : gE) (t : Term) : Prop := t.eval (ga0 E) (gs0 E) none [] (gs0 E) = some (.ref (gTa E t))
theorem gRd_of {E : gE} {t : Term} {a : Nat} (h : t.eval (ga0 E) (gs0 E) none [] (gs0 E) = some (.ref a)) : gRd E t := by
  unfold gRd gTa
  rw [h]
theorem gTa_of {E : gE} {t : Term} {a : Nat} (h : t.eval (ga0 E) (gs0 E) none [] (gs0 E) = some (.ref a)) : gTa E t = a := by
  unfold gTa
  rw [h]
theorem gRd_x {E : gE} {U : State} {H : Heap} (h : gN E U H) {t : Term} {cls : String} (hx : Cond.exactly t cls ∈ flatC gNar) : gRd E t := by
  obtain ⟨a, c, cell, kk, he, -⟩ := Cond.exactly_spec (gNr h hx)
  exact gRd_of he
theorem gA_no (E : gE) : ∀ a : Nat, a < (gs0 E).heap.size → ¬ gA E a := fun a ha => Nat.not_le.mpr ha
section GC
variable {X : gM} {E : gE} {M : gMt} {D n cells slots pc : Nat} {L : List (Option gV)} {st : List gV} {σ : gS}
theorem gZ_at {E : gE} {U : State} {H : Heap} (h : gN E U H) {C nm d : String} (hl : Cond.laysStatic C nm d ∈ lw_tbl) (hi : Cond.initialized C ∈ lw_tbl) (he : gRd E (.static C nm d)) : va_Z C nm d (.ref (gTa E (.static C nm d))) (gA E) U H :=
  (va_Z.moved h.2.1.alike (va_Zof (h.1.1 _ hl) (h.1.1 _ hi) he (gA_no E))).kept (fun a ha _ => h.2.2.2 a ha)
theorem x_gets (K : gK X E M D n) {C nm dd : String} {idx : Nat} (hl : Cond.laysStatic C nm dd ∈ lw_tbl) (hi : Cond.initialized C ∈ lw_tbl) (hk : Cond.fieldLink M.1.cls idx C nm dd ∈ lw_tbl) (he : gRd E (.static C nm dd)) (d : decode M.2.1 pc = .ok (.getstatic idx, 3)) (k : gWX X E cells slots (pc + 3) L (.inl (.ref (gTa E (.static C nm dd))) :: st) σ) : gWX X E cells slots pc L st σ :=
  fun H locs ls hP hS hl' => va_gets K.1 K.2.1 (gZ_at K.2.2.2.2.1 hl hi he) hS K.2.2.2.1 (gN_any K.2.2.2.2.1 hk rfl _) (fun x h => h) d (k H locs ls hP hS hl')
def gNw (E : gE) (w : Cond) : Prop := ∀ (U : State) (H : Heap), gN E U H → ∀ args : Array Value, w.before args U = true
theorem x_getsN (K : gK X E M D n) {C nm dd host : String} {idx : Nat} (hl : Cond.laysStatic C nm dd ∈ lw_tbl) (hi : Cond.initialized C ∈ lw_tbl) (hk : gNw E (Cond.fieldLinkNest M.1.cls idx C nm dd host)) (he : gRd E (.static C nm dd)) (d : decode M.2.1 pc = .ok (.getstatic idx, 3)) (k : gWX X E cells slots (pc + 3) L (.inl (.ref (gTa E (.static C nm dd))) :: st) σ) : gWX X E cells slots pc L st σ :=
  fun H locs ls hP hS hl' => va_getsN K.1 K.2.1 (gZ_at K.2.2.2.2.1 hl hi he) hS K.2.2.2.1 (hk _ _ K.2.2.2.2.1 _) (fun x h => h) d (k H locs ls hP hS hl')
/-- a field of a constant object -/
def gOF' (E : gE) (a : Nat) (o nm dd : String) (v : Value) : Prop := va_OF o nm dd v a (gA E) (gs0 E) (gs0 E).heap
theorem gOF_at {E : gE} {U : State} {H : Heap} (h : gN E U H) {a : Nat} {o nm dd : String} {v : Value} (hF : gOF' E a o nm dd v) : va_OF o nm dd v a (gA E) U H :=
  (va_OF.moved h.2.1.alike hF).kept (fun a ha _ => h.2.2.2 a ha)
theorem x_getK (K : gK X E M D n) {a idx : Nat} {o nm dd : String} {v : Value} (hF : gOF' E a o nm dd v) (hk : Cond.fieldLink M.1.cls idx o nm dd ∈ lw_tbl) (d : decode M.2.1 pc = .ok (.getfield idx, 3)) (k : gWX X E cells slots (pc + 3) L (.inl v :: st) σ) : gWX X E cells slots pc L (.inl (.ref a) :: st) σ :=
  fun H locs ls hP hS hl' => vk_getf K.1 K.2.1 (gOF_at K.2.2.2.2.1 hF) hS K.2.2.2.1 (gN_any K.2.2.2.2.1 hk rfl _) (fun x h => h) d (k H locs ls hP hS hl')
theorem x_getKN (K : gK X E M D n) {a idx : Nat} {o nm dd host : String} {v : Value} (hF : gOF' E a o nm dd v) (hk : gNw E (Cond.fieldLinkNest M.1.cls idx o nm dd host)) (d : decode M.2.1 pc = .ok (.getfield idx, 3)) (k : gWX X E cells slots (pc + 3) L (.inl v :: st) σ) : gWX X E cells slots pc L (.inl (.ref a) :: st) σ := by
  intro H locs ls hP hS hl'
  obtain ⟨cf, kf, fi, f, cell, h1, h2, h3, h4, h5, h6⟩ := (gOF_at K.2.2.2.2.1 hF).kept hS.2.1
  exact va_Wgetf K.1 K.2.1 K.2.2.2.1 (hk _ _ K.2.2.2.2.1 _) h1 h2 h3 h4 (v := v) h5 rfl rfl d (k H locs ls hP hS hl')
theorem gOF_i {E : gE} {U : State} {H : Heap} (h : gN E U H) {t : Term} {o nm dd : String} {z : Int32} (ht : gRd E t) (hw : Cond.eq (.field t o nm dd) (.int z) ∈ flatC gNar) : gOF' E (gTa E t) o nm dd (.int z) :=
  vk_OFof ht (va_eqt (gNr h hw)) (gA_no E)
/-- a constant array -/
def gT' (E : gE) (ty : FieldType) (a N : Nat) (f : Nat → Value) : Prop := va_T ty a N f (gA E) (gs0 E) (gs0 E).heap
theorem gT_at {E : gE} {U : State} {H : Heap} (h : gN E U H) {a N : Nat} {ty : FieldType} {f : Nat → Value} (hF : gT' E ty a N f) : va_T ty a N f (gA E) U H :=
  (va_T.moved h.2.1.alike hF).kept (fun a ha _ => h.2.2.2 a ha)
theorem x_ialdK (K : gK X E M D n) {a N : Nat} {f : Nat → Value} (hF : gT' E .int a N f) {z : Int} (j : Nat) (hz : z = (j : Int)) (hj : j < N) (hN : N < 2147483648) (d : decode M.2.1 pc = .ok (.iaload, 1)) (k : gWX X E cells slots (pc + 1) L (.inl (f j) :: st) σ) : gWX X E cells slots pc L (iv z :: .inl (.ref a) :: st) σ := by
  intro H locs ls hP hS hl'
  subst hz
  exact va_ti K.1 K.2.1 (gT_at K.2.2.2.2.1 hF) hS (g_in hj hN) (by rw [g_cl (by omega)]; rfl) d (k H locs ls hP hS hl')
theorem x_baldK (K : gK X E M D n) {a N : Nat} {f : Nat → Value} (hF : gT' E .byte a N f) {z : Int} (j : Nat) (hz : z = (j : Int)) (hj : j < N) (hN : N < 2147483648) (d : decode M.2.1 pc = .ok (.baload, 1)) (k : gWX X E cells slots (pc + 1) L (.inl (f j) :: st) σ) : gWX X E cells slots pc L (iv z :: .inl (.ref a) :: st) σ := by
  intro H locs ls hP hS hl'
  subst hz
  exact va_tb K.1 K.2.1 (gT_at K.2.2.2.2.1 hF) hS (g_in hj hN) (by rw [g_cl (by omega)]; rfl) d (k H locs ls hP hS hl')
theorem x_aaldK (K : gK X E M D n) {a N : Nat} {C : String} {f : Nat → Value} (hF : gT' E (.object C) a N f) {z : Int} (j : Nat) (hz : z = (j : Int)) (hj : j < N) (hN : N < 2147483648) (d : decode M.2.1 pc = .ok (.aaload, 1)) (k : gWX X E cells slots (pc + 1) L (.inl (f j) :: st) σ) : gWX X E cells slots pc L (iv z :: .inl (.ref a) :: st) σ := by
  intro H locs ls hP hS hl'
  subst hz
  exact vb_tq K.1 K.2.1 (gT_at K.2.2.2.2.1 hF) hS (g_in hj hN) (by rw [g_cl (by omega)]; rfl) d (k H locs ls hP hS hl')
theorem x_alenK (K : gK X E M D n) {a N : Nat} {ty : FieldType} {f : Nat → Value} (hF : gT' E ty a N f) (d : decode M.2.1 pc = .ok (.arraylength, 1)) (k : gWX X E cells slots (pc + 1) L (iv (N : Int) :: st) σ) : gWX X E cells slots pc L (.inl (.ref a) :: st) σ :=
  fun H locs ls hP hS hl' => va_tlen K.1 K.2.1 (gT_at K.2.2.2.2.1 hF) hS (v := Int32.ofInt (N : Int)) (by rw [Int32.ofInt_eq_ofNat]) d (k H locs ls hP hS hl')
theorem x_acmp_ne (K : gK X E M D n) {a b : Nat} {off : Int} {tgt : Nat} (d : decode M.2.1 pc = .ok (.if_acmp .ne off, 3)) (ht : (pc : Int) + off = (tgt : Int)) (kt : ¬ a = b → gWX X E cells slots tgt L st σ) (kf : a = b → gWX X E cells slots (pc + 3) L st σ) : gWX X E cells slots pc L (.inl (.ref b) :: .inl (.ref a) :: st) σ :=
  fun H locs ls hP hS hl' => lv_acmp_ne (rx := some a) (ry := some b) K.1 K.2.1 d ht (fun q => kt (fun z => q (by rw [z])) H locs ls hP hS hl') (fun q => kf (Option.some.inj q) H locs ls hP hS hl')
theorem x_ifnullc (K : gK X E M D n) {q : Nat} {off : Int} (d : decode M.2.1 pc = .ok (.ifnull off, 3)) (k : gWX X E cells slots (pc + 3) L st σ) : gWX X E cells slots pc L (.inl (.ref q) :: st) σ :=
  fun H locs ls hP hS hl => lv_ifnull K.1 K.2.1 d (k H locs ls hP hS hl)
theorem x_ifnonnullc (K : gK X E M D n) {q : Nat} {off : Int} {tgt : Nat} (d : decode M.2.1 pc = .ok (.ifnonnull off, 3)) (ht : (pc : Int) + off = (tgt : Int)) (k : gWX X E cells slots tgt L st σ) : gWX X E cells slots pc L (.inl (.ref q) :: st) σ :=
  fun H locs ls hP hS hl => lv_ifnonnull K.1 K.2.1 d ht (k H locs ls hP hS hl)
theorem g_toI {z : Int} (h : -2147483648 ≤ z ∧ z < 2147483648) : (Int32.ofInt z).toInt = z := Int32.toInt_ofInt_of_le (by simpa using h.1) (by simpa using h.2)
theorem x_tblIn (K : gK X E M D n) {dflt lo hi : Int} {offs : Array Int} {len tgt : Nat} {z off : Int} (j : Nat) (hz : z = lo + (j : Int)) (hr : -2147483648 ≤ z ∧ z < 2147483648) (hh : z ≤ hi) (ho : offs[j]? = some off) (d : decode M.2.1 pc = .ok (.tableswitch dflt lo hi offs, len)) (ht : (pc : Int) + off = (tgt : Int)) (k : gWX X E cells slots tgt L st σ) : gWX X E cells slots pc L (iv z :: st) σ :=
  fun H locs ls hP hS hl => lv_tableIn K.1 K.2.1 d (by rw [g_toI hr]; omega) (by rw [g_toI hr]; omega) (by rw [g_toI hr, hz, show lo + (j : Int) - lo = (j : Int) by omega]; exact ho) ht (k H locs ls hP hS hl)
theorem x_tblOut (K : gK X E M D n) {dflt lo hi : Int} {offs : Array Int} {len tgt : Nat} {z : Int} (hr : -2147483648 ≤ z ∧ z < 2147483648) (hh : z < lo ∨ hi < z) (d : decode M.2.1 pc = .ok (.tableswitch dflt lo hi offs, len)) (ht : (pc : Int) + dflt = (tgt : Int)) (k : gWX X E cells slots tgt L st σ) : gWX X E cells slots pc L (iv z :: st) σ :=
  fun H locs ls hP hS hl => lv_tableOut K.1 K.2.1 d (by rw [g_toI hr]; exact hh) ht (k H locs ls hP hS hl)
theorem x_lookup (K : gK X E M D n) {dflt : Int} {ps : Array (Int × Int)} {len tgt : Nat} {z off : Int} (hr : -2147483648 ≤ z ∧ z < 2147483648) (hp : (ps.toList.zip (ps.toList.drop 1)).all (fun (a, next) => a.1 < next.1) = true) (ho : Op.lookupswitch.offset ps.toList dflt z = off) (d : decode M.2.1 pc = .ok (.lookupswitch dflt ps, len)) (ht : (pc : Int) + off = (tgt : Int)) (k : gWX X E cells slots tgt L st σ) : gWX X E cells slots pc L (iv z :: st) σ :=
  fun H locs ls hP hS hl => lv_lookup K.1 K.2.1 d hp (by rw [g_toI hr]; exact ho) ht (k H locs ls hP hS hl)
theorem g_i2c (z : Int) : ((Int32.ofInt z).toUInt32 % 65536).toInt32 = Int32.ofInt (z % 65536) := by
  apply Int32.toBitVec_inj.mp
  apply BitVec.eq_of_toNat_eq
  show ((BitVec.ofInt 32 z) % 65536#32).toNat = (BitVec.ofInt 32 (z % 65536)).toNat
  rw [BitVec.toNat_umod, BitVec.toNat_ofInt, BitVec.toNat_ofInt]
  show (z % (2 ^ 32 : Nat)).toNat % 65536 = (z % 65536 % (2 ^ 32 : Nat)).toNat
  omega
theorem g_and63 (z : Int) : Int32.ofInt z &&& Int32.ofInt 63 = Int32.ofInt (z % 64) := by
  apply Int32.toBitVec_inj.mp
  apply BitVec.eq_of_toNat_eq
  show ((BitVec.ofInt 32 z) &&& 63#32).toNat = (BitVec.ofInt 32 (z % 64)).toNat
  rw [BitVec.toNat_and, BitVec.toNat_ofInt, BitVec.toNat_ofInt]
  show (z % (2 ^ 32 : Nat)).toNat &&& 2 ^ 6 - 1 = (z % 64 % (2 ^ 32 : Nat)).toNat
  rw [Nat.and_two_pow_sub_one_eq_mod]
  omega
theorem x_i2c (K : gK X E M D n) {z : Int} (d : decode M.2.1 pc = .ok (.i2c, 1)) (k : gWX X E cells slots (pc + 1) L (iv (z % 65536) :: st) σ) : gWX X E cells slots pc L (iv z :: st) σ :=
  fun H locs ls hP hS hl => lv_i2c K.1 K.2.1 d (g_i2c z) (k H locs ls hP hS hl)
theorem x_and63 (K : gK X E M D n) {z : Int} (d : decode M.2.1 pc = .ok (.iand, 1)) (k : gWX X E cells slots (pc + 1) L (iv (z % 64) :: st) σ) : gWX X E cells slots pc L (iv 63 :: iv z :: st) σ :=
  fun H locs ls hP hS hl => lv_iand K.1 K.2.1 d (by rw [g_and63]; exact k H locs ls hP hS hl)
theorem gVkA {E : gE} {U : State} {H : Heap} (h : gN E U H) {own tx : String} {k : Nat} (hs : Cond.stringRef own k tx ∈ lw_tbl) (hx : Cond.exactly (.string own k) "java/lang/String" ∈ flatC gNar) : vk_R own k tx (gTa E (.string own k)) U := by
  obtain ⟨a, c, cell, kk, he, -⟩ := Cond.exactly_spec (gNr h hx)
  rw [gTa_of he]
  exact vk_R.warm h.2.1 (vk_R.of (h.1.1 _ hs) he)
theorem x_ldcS (K : gK X E M D n) {own tx : String} {idx : Nat} (ho : M.1.cls = own) (hs : Cond.stringRef own idx tx ∈ lw_tbl) (hx : Cond.exactly (.string own idx) "java/lang/String" ∈ flatC gNar) (d : decode M.2.1 pc = .ok (.ldc idx, 2)) (k : gWX X E cells slots (pc + 2) L (.inl (.ref (gTa E (.string own idx))) :: st) σ) : gWX X E cells slots pc L st σ := by
  subst ho
  exact fun H locs ls hP hS hl => va_ldcS K.1 K.2.1 K.2.2.2.1 (gVkA K.2.2.2.2.1 hs hx) d (k H locs ls hP hS hl)
theorem x_aloadz_2 (K : gK X E M D n) {a0 a1 : Option gV} {t : List (Option gV)} (d : decode M.2.1 pc = .ok (.aload_n 2, 1)) (k : gWX X E cells slots (pc + 1) (a0 :: a1 :: some (.inl .null) :: t) (.inl .null :: st) σ) : gWX X E cells slots pc (a0 :: a1 :: some (.inl .null) :: t) st σ :=
  fun H locs ls hP hS hl => lv_aload_nN K.1 K.2.1 d rfl (gLd (i := 2) hl rfl) (k H locs ls hP hS hl)
theorem x_astorez_2 (K : gK X E M D n) {a0 a1 x : Option gV} {t : List (Option gV)} (d : decode M.2.1 pc = .ok (.astore_n 2, 1)) (h1 : gC1 a1 = true) (k : gWX X E cells slots (pc + 1) (a0 :: a1 :: some (.inl .null) :: t) st σ) : gWX X E cells slots pc (a0 :: a1 :: x :: t) (.inl .null :: st) σ :=
  fun H locs ls hP hS hl => lv_astore_nN K.1 K.2.1 d rfl hl (by simp only [List.length_cons]; show 2 < _; omega) rfl (fun ls' hl' => k H locs ls' hP hS (gSt1 (E := E) (L := a0 :: a1 :: x :: t) (i := 2) (v := .inl .null) hl' h1))
theorem x_aloadz_3 (K : gK X E M D n) {a0 a1 a2 : Option gV} {t : List (Option gV)} (d : decode M.2.1 pc = .ok (.aload_n 3, 1)) (k : gWX X E cells slots (pc + 1) (a0 :: a1 :: a2 :: some (.inl .null) :: t) (.inl .null :: st) σ) : gWX X E cells slots pc (a0 :: a1 :: a2 :: some (.inl .null) :: t) st σ :=
  fun H locs ls hP hS hl => lv_aload_nN K.1 K.2.1 d rfl (gLd (i := 3) hl rfl) (k H locs ls hP hS hl)
theorem x_astorez_3 (K : gK X E M D n) {a0 a1 a2 x : Option gV} {t : List (Option gV)} (d : decode M.2.1 pc = .ok (.astore_n 3, 1)) (h1 : gC1 a2 = true) (k : gWX X E cells slots (pc + 1) (a0 :: a1 :: a2 :: some (.inl .null) :: t) st σ) : gWX X E cells slots pc (a0 :: a1 :: a2 :: x :: t) (.inl .null :: st) σ :=
  fun H locs ls hP hS hl => lv_astore_nN K.1 K.2.1 d rfl hl (by simp only [List.length_cons]; show 3 < _; omega) rfl (fun ls' hl' => k H locs ls' hP hS (gSt1 (E := E) (L := a0 :: a1 :: a2 :: x :: t) (i := 3) (v := .inl .null) hl' h1))
theorem x_aloadz_4 (K : gK X E M D n) {a0 a1 a2 a3 : Option gV} {t : List (Option gV)} (d : decode M.2.1 pc = .ok (.aload 4, 2)) (k : gWX X E cells slots (pc + 2) (a0 :: a1 :: a2 :: a3 :: some (.inl .null) :: t) (.inl .null :: st) σ) : gWX X E cells slots pc (a0 :: a1 :: a2 :: a3 :: some (.inl .null) :: t) st σ :=
  fun H locs ls hP hS hl => lv_aloadN K.1 K.2.1 d (gLd (i := 4) hl rfl) (k H locs ls hP hS hl)
theorem x_astorez_4 (K : gK X E M D n) {a0 a1 a2 a3 x : Option gV} {t : List (Option gV)} (d : decode M.2.1 pc = .ok (.astore 4, 2)) (h1 : gC1 a3 = true) (k : gWX X E cells slots (pc + 2) (a0 :: a1 :: a2 :: a3 :: some (.inl .null) :: t) st σ) : gWX X E cells slots pc (a0 :: a1 :: a2 :: a3 :: x :: t) (.inl .null :: st) σ :=
  fun H locs ls hP hS hl => lv_astoreN K.1 K.2.1 d hl (by simp only [List.length_cons]; show 4 < _; omega) rfl (fun ls' hl' => k H locs ls' hP hS (gSt1 (E := E) (L := a0 :: a1 :: a2 :: a3 :: x :: t) (i := 4) (v := .inl .null) hl' h1))
theorem x_aloadz_5 (K : gK X E M D n) {a0 a1 a2 a3 a4 : Option gV} {t : List (Option gV)} (d : decode M.2.1 pc = .ok (.aload 5, 2)) (k : gWX X E cells slots (pc + 2) (a0 :: a1 :: a2 :: a3 :: a4 :: some (.inl .null) :: t) (.inl .null :: st) σ) : gWX X E cells slots pc (a0 :: a1 :: a2 :: a3 :: a4 :: some (.inl .null) :: t) st σ :=
  fun H locs ls hP hS hl => lv_aloadN K.1 K.2.1 d (gLd (i := 5) hl rfl) (k H locs ls hP hS hl)
theorem x_astorez_5 (K : gK X E M D n) {a0 a1 a2 a3 a4 x : Option gV} {t : List (Option gV)} (d : decode M.2.1 pc = .ok (.astore 5, 2)) (h1 : gC1 a4 = true) (k : gWX X E cells slots (pc + 2) (a0 :: a1 :: a2 :: a3 :: a4 :: some (.inl .null) :: t) st σ) : gWX X E cells slots pc (a0 :: a1 :: a2 :: a3 :: a4 :: x :: t) (.inl .null :: st) σ :=
  fun H locs ls hP hS hl => lv_astoreN K.1 K.2.1 d hl (by simp only [List.length_cons]; show 5 < _; omega) rfl (fun ls' hl' => k H locs ls' hP hS (gSt1 (E := E) (L := a0 :: a1 :: a2 :: a3 :: a4 :: x :: t) (i := 5) (v := .inl .null) hl' h1))
theorem x_aloadz_6 (K : gK X E M D n) {a0 a1 a2 a3 a4 a5 : Option gV} {t : List (Option gV)} (d : decode M.2.1 pc = .ok (.aload 6, 2)) (k : gWX X E cells slots (pc + 2) (a0 :: a1 :: a2 :: a3 :: a4 :: a5 :: some (.inl .null) :: t) (.inl .null :: st) σ) : gWX X E cells slots pc (a0 :: a1 :: a2 :: a3 :: a4 :: a5 :: some (.inl .null) :: t) st σ :=
  fun H locs ls hP hS hl => lv_aloadN K.1 K.2.1 d (gLd (i := 6) hl rfl) (k H locs ls hP hS hl)
theorem x_astorez_6 (K : gK X E M D n) {a0 a1 a2 a3 a4 a5 x : Option gV} {t : List (Option gV)} (d : decode M.2.1 pc = .ok (.astore 6, 2)) (h1 : gC1 a5 = true) (k : gWX X E cells slots (pc + 2) (a0 :: a1 :: a2 :: a3 :: a4 :: a5 :: some (.inl .null) :: t) st σ) : gWX X E cells slots pc (a0 :: a1 :: a2 :: a3 :: a4 :: a5 :: x :: t) (.inl .null :: st) σ :=
  fun H locs ls hP hS hl => lv_astoreN K.1 K.2.1 d hl (by simp only [List.length_cons]; show 6 < _; omega) rfl (fun ls' hl' => k H locs ls' hP hS (gSt1 (E := E) (L := a0 :: a1 :: a2 :: a3 :: a4 :: a5 :: x :: t) (i := 6) (v := .inl .null) hl' h1))
theorem x_aloadz_7 (K : gK X E M D n) {a0 a1 a2 a3 a4 a5 a6 : Option gV} {t : List (Option gV)} (d : decode M.2.1 pc = .ok (.aload 7, 2)) (k : gWX X E cells slots (pc + 2) (a0 :: a1 :: a2 :: a3 :: a4 :: a5 :: a6 :: some (.inl .null) :: t) (.inl .null :: st) σ) : gWX X E cells slots pc (a0 :: a1 :: a2 :: a3 :: a4 :: a5 :: a6 :: some (.inl .null) :: t) st σ :=
  fun H locs ls hP hS hl => lv_aloadN K.1 K.2.1 d (gLd (i := 7) hl rfl) (k H locs ls hP hS hl)
theorem x_astorez_7 (K : gK X E M D n) {a0 a1 a2 a3 a4 a5 a6 x : Option gV} {t : List (Option gV)} (d : decode M.2.1 pc = .ok (.astore 7, 2)) (h1 : gC1 a6 = true) (k : gWX X E cells slots (pc + 2) (a0 :: a1 :: a2 :: a3 :: a4 :: a5 :: a6 :: some (.inl .null) :: t) st σ) : gWX X E cells slots pc (a0 :: a1 :: a2 :: a3 :: a4 :: a5 :: a6 :: x :: t) (.inl .null :: st) σ :=
  fun H locs ls hP hS hl => lv_astoreN K.1 K.2.1 d hl (by simp only [List.length_cons]; show 7 < _; omega) rfl (fun ls' hl' => k H locs ls' hP hS (gSt1 (E := E) (L := a0 :: a1 :: a2 :: a3 :: a4 :: a5 :: a6 :: x :: t) (i := 7) (v := .inl .null) hl' h1))
theorem x_aloadz_8 (K : gK X E M D n) {a0 a1 a2 a3 a4 a5 a6 a7 : Option gV} {t : List (Option gV)} (d : decode M.2.1 pc = .ok (.aload 8, 2)) (k : gWX X E cells slots (pc + 2) (a0 :: a1 :: a2 :: a3 :: a4 :: a5 :: a6 :: a7 :: some (.inl .null) :: t) (.inl .null :: st) σ) : gWX X E cells slots pc (a0 :: a1 :: a2 :: a3 :: a4 :: a5 :: a6 :: a7 :: some (.inl .null) :: t) st σ :=
  fun H locs ls hP hS hl => lv_aloadN K.1 K.2.1 d (gLd (i := 8) hl rfl) (k H locs ls hP hS hl)
theorem x_astorez_8 (K : gK X E M D n) {a0 a1 a2 a3 a4 a5 a6 a7 x : Option gV} {t : List (Option gV)} (d : decode M.2.1 pc = .ok (.astore 8, 2)) (h1 : gC1 a7 = true) (k : gWX X E cells slots (pc + 2) (a0 :: a1 :: a2 :: a3 :: a4 :: a5 :: a6 :: a7 :: some (.inl .null) :: t) st σ) : gWX X E cells slots pc (a0 :: a1 :: a2 :: a3 :: a4 :: a5 :: a6 :: a7 :: x :: t) (.inl .null :: st) σ :=
  fun H locs ls hP hS hl => lv_astoreN K.1 K.2.1 d hl (by simp only [List.length_cons]; show 8 < _; omega) rfl (fun ls' hl' => k H locs ls' hP hS (gSt1 (E := E) (L := a0 :: a1 :: a2 :: a3 :: a4 :: a5 :: a6 :: a7 :: x :: t) (i := 8) (v := .inl .null) hl' h1))
end GC
/-! ===== the deeds ===== -/
def gDn : List String := ["SCROLL", "WRITE", "SLIP", "SMUDGE", "SEAL", "COPY", "MEND", "FILL"]
abbrev gDt (i : Nat) : Term := .static "ScrollChecks$Deed" (gDn.getD i "") "LScrollChecks$Deed;"
def gDa (E : gE) (i : Nat) : Nat := gTa E (gDt i)
abbrev gDv (E : gE) (i : Nat) : gV := .inl (.ref (gDa E i))
theorem gD_x : ∀ i, i < 8 → Cond.exactly (gDt i) "ScrollChecks$Deed" ∈ flatC gNar := by decide +kernel
theorem gD_ow : ∀ i, i < 8 → Cond.eq (.field (gDt i) "java/lang/Enum" "ordinal" "I") (.int (Int32.ofInt ((i : Nat) : Int))) ∈ flatC gNar := by decide +kernel
def gDc (i : Nat) : Int := if 1 ≤ i ∧ i ≤ 3 then 1 else 0
theorem gD_cw : ∀ i, i < 8 → Cond.eq (.field (gDt i) "ScrollChecks$Deed" "isOfCell" "Z") (.int (Int32.ofInt (gDc i))) ∈ flatC gNar := by decide +kernel
theorem gD_nw : ∀ i, i < 8 → i ≠ 0 → Cond.not (.eq (gDt 0) (gDt i)) ∈ flatC gNar := by decide +kernel
theorem gD_rd {E : gE} {U : State} {H : Heap} (h : gN E U H) {i : Nat} (hi : i < 8) : gRd E (gDt i) := gRd_x h (gD_x i hi)
theorem gD_ne {E : gE} {U : State} {H : Heap} (h : gN E U H) {i : Nat} (hi : i < 8) : gDa E i = gDa E 0 ↔ i = 0 := by
  constructor
  · intro e
    apply Classical.byContradiction
    intro q
    exact va_neR (gNr h (gD_nw i hi q)) (gD_rd h (by omega)) (gD_rd h hi) e.symm
  · intro e
    rw [e]
theorem gD_ord {E : gE} {U : State} {H : Heap} (h : gN E U H) {i : Nat} (hi : i < 8) : gOF' E (gDa E i) "java/lang/Enum" "ordinal" "I" (.int (Int32.ofInt (i : Int))) := gOF_i h (gD_rd h hi) (gD_ow i hi)
theorem gD_cell {E : gE} {U : State} {H : Heap} (h : gN E U H) {i : Nat} (hi : i < 8) : gOF' E (gDa E i) "ScrollChecks$Deed" "isOfCell" "Z" (.int (Int32.ofInt (gDc i))) := gOF_i h (gD_rd h hi) (gD_cw i hi)
abbrev gSmt : Term := .static "ScrollChecks$1" "$SwitchMap$ScrollChecks$Deed" "[I"
def gSm (j : Nat) : Int := if j = 7 then 0 else (j : Int)
theorem gSm_w : (Cond.arrayOf gSmt .int ∈ flatC gNar ∧ Cond.eq (.length gSmt) (.int (Int32.ofNat 8)) ∈ flatC gNar) ∧ ∀ j, j < 8 → Cond.eq (.elem gSmt (.int (Int32.ofNat j))) (.int (Int32.ofInt (gSm j))) ∈ flatC gNar := by decide +kernel
theorem gSm_T {E : gE} {U : State} {H : Heap} (h : gN E U H) : gRd E gSmt ∧ gT' E .int (gTa E gSmt) 8 (fun j => .int (Int32.ofInt (gSm j))) := by
  obtain ⟨t, he, hT⟩ := va_Tof (A := gA E) (f := fun j => .int (Int32.ofInt (gSm j))) (by omega) (gNr h gSm_w.1.1) (va_eqt (gNr h gSm_w.1.2)) (fun j hj => va_eqt (gNr h (gSm_w.2 j hj))) (gA_no E)
  refine ⟨gRd_of he, ?_⟩
  rw [gTa_of he]
  exact hT
abbrev gDst : Term := .static "ScrollChecks" "DEEDS" "[LScrollChecks$Deed;"
theorem gDs_w : (Cond.arrayOf gDst (.object "ScrollChecks$Deed") ∈ flatC gNar ∧ Cond.eq (.length gDst) (.int (Int32.ofNat 8)) ∈ flatC gNar) ∧ ∀ j, j < 8 → Cond.eq (.elem gDst (.int (Int32.ofNat j))) (gDt j) ∈ flatC gNar := by decide +kernel
theorem gDs_T {E : gE} {U : State} {H : Heap} (h : gN E U H) : gRd E gDst ∧ gT' E (.object "ScrollChecks$Deed") (gTa E gDst) 8 (fun j => .ref (gDa E j)) := by
  obtain ⟨t, he, hT⟩ := va_Tof (A := gA E) (f := fun j => .ref (gDa E j)) (by omega) (gNr h gDs_w.1.1) (va_eqt (gNr h gDs_w.1.2)) (fun j hj => va_eqv (gNr h (gDs_w.2 j hj)) (gD_rd h hj)) (gA_no E)
  refine ⟨gRd_of he, ?_⟩
  rw [gTa_of he]
  exact hT
/-! ===== constant strings ===== -/
abbrev gStv (t : Term) : Term := .field t "java/lang/String" "value" "[B"
def gStW (t : Term) (n : Nat) (b : Nat → Int) : Prop := Cond.exactly t "java/lang/String" ∈ flatC gNar ∧ Cond.eq (.field t "java/lang/String" "coder" "B") (.int (Int32.ofInt 0)) ∈ flatC gNar ∧ Cond.arrayOf (gStv t) .byte ∈ flatC gNar ∧ Cond.eq (.length (gStv t)) (.int (Int32.ofNat n)) ∈ flatC gNar ∧ ∀ j, j < n → Cond.eq (.elem (gStv t) (.int (Int32.ofNat j))) (.int (Int32.ofInt (b j))) ∈ flatC gNar
/-- a constant string: its text's bytes -/
def gStr (E : gE) (a n : Nat) (b : Nat → Int) : Prop := ∃ v : Nat, gOF' E a "java/lang/String" "coder" "B" (.int (Int32.ofInt 0)) ∧ gOF' E a "java/lang/String" "value" "[B" (.ref v) ∧ gT' E .byte v n (fun j => .int (Int32.ofInt (b j))) ∧ va_O "java/lang/String" a (gA E) (gs0 E) (gs0 E).heap
theorem gO_x {E : gE} {U : State} {H : Heap} (h : gN E U H) {t : Term} {cls : String} (hx : Cond.exactly t cls ∈ flatC gNar) : va_O cls (gTa E t) (gA E) (gs0 E) (gs0 E).heap := by
  obtain ⟨a, c, cell, k, q1, q2, q3, q4, q5, q6, -⟩ := Cond.exactly_spec (gNr h hx)
  rw [gTa_of q1]
  exact ⟨cell, q3, q5, by rw [q6]; exact q2, gA_no E a (Array.getElem?_eq_some_iff.mp q3).1⟩
theorem gStr_of {E : gE} {U : State} {H : Heap} (h : gN E U H) {t : Term} {n : Nat} {b : Nat → Int} (hn : n < 2 ^ 31) (hw : gStW t n b) : gRd E t ∧ gStr E (gTa E t) n b := by
  obtain ⟨h1, h2, h3, h4, h5⟩ := hw
  have hr := gRd_x h h1
  obtain ⟨v, he, hT⟩ := va_Tof (A := gA E) (f := fun j => .int (Int32.ofInt (b j))) hn (gNr h h3) (va_eqt (gNr h h4)) (fun j hj => va_eqt (gNr h (h5 j hj))) (gA_no E)
  refine ⟨hr, v, gOF_i h hr h2, vk_OFof hr he (gA_no E), hT, ?_⟩
  exact gO_x h h1
/-! ===== the deeds' texts ===== -/
def gDx (i : Nat) : Nat := [56, 62, 65, 68, 71, 74, 77, 80].getD i 0
def gDb (i : Nat) : List Int := [[], [119, 35, 58, 35, 44, 35, 61, 35], [101, 35, 58, 35, 44, 35, 43, 35], [120, 35, 58, 35, 44, 35], [115, 35], [99, 35], [109, 35], [102, 35]].getD i []
abbrev gDft (i : Nat) : Term := .string "ScrollChecks$Deed" (gDx i)
theorem gDf_w1 : ∀ i, i < 8 → Cond.exactly (gDft i) "java/lang/String" ∈ flatC gNar := by decide +kernel
theorem gDf_w2 : ∀ i, i < 8 → Cond.eq (.field (gDft i) "java/lang/String" "coder" "B") (.int (Int32.ofInt 0)) ∈ flatC gNar := by decide +kernel
theorem gDf_w3 : ∀ i, i < 8 → Cond.arrayOf (gStv (gDft i)) .byte ∈ flatC gNar := by decide +kernel
theorem gDf_w4 : ∀ i, i < 8 → Cond.eq (.length (gStv (gDft i))) (.int (Int32.ofNat (gDb i).length)) ∈ flatC gNar := by decide +kernel
def gDfe (i : Nat) : Prop := ∀ j, j < (gDb i).length → Cond.eq (.elem (gStv (gDft i)) (.int (Int32.ofNat j))) (.int (Int32.ofInt ((gDb i).getD j 0))) ∈ flatC gNar
theorem gDf_e0 : gDfe 0 := by unfold gDfe; decide +kernel
theorem gDf_e1 : gDfe 1 := by unfold gDfe; decide +kernel
theorem gDf_e2 : gDfe 2 := by unfold gDfe; decide +kernel
theorem gDf_e3 : gDfe 3 := by unfold gDfe; decide +kernel
theorem gDf_e4 : gDfe 4 := by unfold gDfe; decide +kernel
theorem gDf_e5 : gDfe 5 := by unfold gDfe; decide +kernel
theorem gDf_e6 : gDfe 6 := by unfold gDfe; decide +kernel
theorem gDf_e7 : gDfe 7 := by unfold gDfe; decide +kernel
theorem gDf_w5 : ∀ i, i < 8 → gDfe i := fun i hi => by
  obtain rfl | rfl | rfl | rfl | rfl | rfl | rfl | rfl : i = 0 ∨ i = 1 ∨ i = 2 ∨ i = 3 ∨ i = 4 ∨ i = 5 ∨ i = 6 ∨ i = 7 := by omega
  · exact gDf_e0
  · exact gDf_e1
  · exact gDf_e2
  · exact gDf_e3
  · exact gDf_e4
  · exact gDf_e5
  · exact gDf_e6
  · exact gDf_e7
theorem gDf_e : ∀ i, i < 8 → Cond.eq (.field (gDt i) "ScrollChecks$Deed" "form" "Ljava/lang/String;") (gDft i) ∈ flatC gNar := by decide +kernel
def gDfa (E : gE) (i : Nat) : Nat := gTa E (gDft i)
theorem gDb_len : ∀ i, i < 8 → (gDb i).length ≤ 8 := by decide
theorem gD_form {E : gE} {U : State} {H : Heap} (h : gN E U H) {i : Nat} (hi : i < 8) : gOF' E (gDa E i) "ScrollChecks$Deed" "form" "Ljava/lang/String;" (.ref (gDfa E i)) ∧ gStr E (gDfa E i) (gDb i).length (fun j => (gDb i).getD j 0) := by
  have h1 := gStr_of h (t := gDft i) (n := (gDb i).length) (b := fun j => (gDb i).getD j 0) (by have := gDb_len i hi; omega) ⟨gDf_w1 i hi, gDf_w2 i hi, gDf_w3 i hi, gDf_w4 i hi, gDf_w5 i hi⟩
  exact ⟨vk_OFof (gD_rd h hi) (va_eqv (gNr h (gDf_e i hi)) h1.1) (gA_no E), h1.2⟩
theorem gD_O {E : gE} {U : State} {H : Heap} (h : gN E U H) {i : Nat} (hi : i < 8) : va_O "ScrollChecks$Deed" (gDa E i) (gA E) (gs0 E) (gs0 E).heap := gO_x h (gD_x i hi)


