/-! ===== the world as it is built: cells one behind the other ===== -/
abbrev bW (E : gE) (l : List va_E) : va_W := l.mapIdx (fun j e => (gB E + j, e))
theorem bW_at {E : gE} {l : List va_E} {j : Nat} {e : va_E} (h : l[j]? = some e) : (bW E l)[j]? = some (gB E + j, e) := by
  rw [bW, List.getElem?_mapIdx, h]; rfl
theorem bW_len {E : gE} {l : List va_E} : (bW E l).length = l.length := by rw [bW, List.length_mapIdx]
theorem bW_app {E : gE} {l : List va_E} {e : va_E} : bW E (l ++ [e]) = bW E l ++ [(gB E + l.length, e)] := by
  rw [bW, List.mapIdx_append]
  show _ ++ [(gB E + (0 + l.length), e)] = _
  rw [Nat.zero_add]
theorem bW_set {E : gE} {l : List va_E} {j : Nat} {e : va_E} : (bW E l).set j (gB E + j, e) = bW E (l.set j e) := by
  apply List.ext_getElem?
  intro i
  rw [bW, bW, List.getElem?_mapIdx]
  by_cases h : j = i
  · subst h
    by_cases hl : j < l.length
    · rw [List.getElem?_set_self (by rw [List.length_mapIdx]; exact hl), List.getElem?_set_self hl]; rfl
    · rw [List.getElem?_eq_none (by rw [List.length_set, List.length_mapIdx]; omega), List.getElem?_eq_none (by rw [List.length_set]; omega)]; rfl
  · rw [List.getElem?_set_ne h, List.getElem?_set_ne h, List.getElem?_mapIdx]
theorem bW_in {E : gE} {l : List va_E} {j : Nat} {p : Nat × va_E} (h : (bW E l)[j]? = some p) : j < l.length ∧ p.1 = gB E + j := by
  rw [bW, List.getElem?_mapIdx] at h
  cases hq : l[j]? with
  | none => rw [hq] at h; cases h
  | some q =>
    rw [hq] at h
    have h2 := Option.some.inj h
    subst h2
    exact ⟨(List.getElem?_eq_some_iff.mp hq).1, rfl⟩
theorem bD_ok {E : gE} {l : List va_E} : va_D (gA E) (bW E l) := ⟨fun i j p q hi hj h => by
  have h1 := (bW_in hi).2
  have h2 := (bW_in hj).2
  omega, fun k q h => by
  have := (bW_in h).2
  show gB E ≤ q.1
  omega⟩
/-- the next cell's address -/
theorem bAddr {E : gE} {l : List va_E} {q : Nat} {e : va_E} {H1 : Heap} (hP : va_P (gD E) gCl (bW E l ++ [(q, e)]) H1) (hD : va_D (gA E) (bW E l ++ [(q, e)])) (hz : H1.size ≤ gB E + l.length + 1) : q = gB E + l.length := by
  have hat : (bW E l ++ [(q, e)])[l.length]? = some (q, e) := by
    rw [List.getElem?_append_right (by rw [bW_len]; exact Nat.le_refl _), bW_len, Nat.sub_self]; rfl
  have h1 : q < H1.size := (hP _ _ hat).lt
  have h2 : gB E ≤ q := hD.2 _ _ hat
  refine Classical.byContradiction (fun hne => ?_)
  have hj : q - gB E < l.length := by omega
  have hat2 : (bW E l ++ [(q, e)])[q - gB E]? = some (gB E + (q - gB E), l[q - gB E]) := by
    rw [List.getElem?_append_left (by rw [bW_len]; exact hj)]
    exact bW_at (List.getElem?_eq_getElem hj)
  have := hD.1 _ _ _ _ hat hat2 (by show q = gB E + (q - gB E); omega)
  omega
def bK (X : gM) (E : gE) (M : gMt) (D mc ms b0 : Nat) : Prop :=
  X.1.tables.exec = Jvm.exec ∧ X.2.2.2.2.2.2.2.2.2.1.code = M.2.1 ∧ X.2.2.2.2.2.2.2.2.2.1.maxLocals = M.2.2.1 ∧ X.2.2.2.2.1.vm.findClass M.1.cls = some X.2.2.2.2.2.1.cls ∧ gN E X.2.2.2.2.1 X.2.2.2.2.1.heap ∧ X.2.2.2.2.2.2.2.2.1.locks = false ∧ X.2.1 = gL E ∧
  X.2.2.2.2.2.2.2.2.1.sig.returnType = M.2.2.2 ∧ X.2.2.2.2.1.heap.size = gB E + b0 ∧ X.2.2.2.1 = ({ frames := D, cells := mc, slots := ms, locals := 64 * D } : Room)
def bWX (X : gM) (E : gE) (cells slots pc : Nat) (L : List (Option gV)) (st : List gV) (l : List va_E) : Prop :=
  ∀ (H : Heap) (locs : List Loc) (ls : Array Slot), va_P (gD E) gCl (bW E l) H → va_S (gA E) X.2.2.2.2.1.heap H locs → lv_has ls L.length (gAsc E 0 L) → gW_ X H locs cells slots (F0 X.2.2.2.2.2.1 pc ls (st.map (gc E)))
theorem bWX.eq {X : gM} {E : gE} {cells slots pc : Nat} {L : List (Option gV)} {st : List gV} {l l' : List va_E} (h : l = l') (k : bWX X E cells slots pc L st l') : bWX X E cells slots pc L st l := h ▸ k
theorem bWX.sl {X : gM} {E : gE} {cells s s' pc : Nat} {L : List (Option gV)} {st : List gV} {l : List va_E} (h : s ≤ s') (k : bWX X E cells s' pc L st l) : bWX X E cells s pc L st l := fun H locs ls hP hS hl => W.widen (Nat.le_refl _) h (k H locs ls hP hS hl)
theorem bWX.cl {X : gM} {E : gE} {cells cells' s pc : Nat} {L : List (Option gV)} {st : List gV} {l : List va_E} (h : cells = cells') (k : bWX X E cells' s pc L st l) : bWX X E cells s pc L st l := h ▸ k
/-- the fields a constructor puts -/
def bF (own : String) (idx ci slot : Nat) (ty : FieldType) (fin : Bool) : Prop := ∃ q : vw_C, gCl[ci]? = some q ∧ slot < q.2.2 ∧ (q.2.1 slot).2.2.2 = fin ∧ (fin = true → (q.2.1 slot).1 = own) ∧ parseFieldDescriptor (q.2.1 slot).2.2.1 = some ty ∧ Cond.fieldLink own idx (q.2.1 slot).1 (q.2.1 slot).2.1 (q.2.1 slot).2.2.1 ∈ lw_tbl
theorem bC_A {E : gE} {U : State} {cA : ClassId} {ty : FieldType} {t : Nat} {tys : List (ClassId × FieldType)} (ht : gTy[t]? = some ty) (hK : va_K (gD E) gCl (tys ++ [(cA, ty)]) U) (hN : va_K (gD E) gCl (gTys E) U) : cA = gcA E t := by
  have h1 := (hK.2 tys.length (cA, ty) (by rw [List.getElem?_append_right (Nat.le_refl _), Nat.sub_self]; rfl)).2
  have h2 := (hN.2 t (gcA E t, ty) (gTys_at ht)).2
  cases ty with
  | object C =>
    obtain ⟨_, _, _, _, _, h3⟩ := h1
    obtain ⟨_, _, _, _, _, h4⟩ := h2
    exact Option.some.inj (h3.symm.trans h4)
  | _ => exact Option.some.inj (Eq.trans (Eq.symm h1) h2)
theorem g_oi : Cond.instanceMethod Lib.objectInit ∈ lw_tbl ∧ Cond.code Lib.objectInit ⟨#[0xb1]⟩ 1 none ∈ lw_tbl := ⟨(g_mem 65 (by decide +kernel)), (g_mem 66 (by decide +kernel))⟩
section GB
variable {X : gM} {E : gE} {M : gMt} {D mc ms b0 cells slots pc : Nat} {L : List (Option gV)} {st : List gV} {l l0 r : List va_E}
theorem b_iconst (K : bK X E M D mc ms b0) {z : Int} (d : decode M.2.1 pc = .ok (.iconst z, 1)) (k : bWX X E cells slots (pc + 1) L (iv z :: st) l) : bWX X E cells slots pc L st l :=
  fun H locs ls hP hS hl => lv_iconst K.1 K.2.1 (v := Int32.ofInt z) d rfl (k H locs ls hP hS hl)
theorem b_bipush (K : bK X E M D mc ms b0) {z : Int} (d : decode M.2.1 pc = .ok (.bipush z, 2)) (h : (Int8.ofInt z).toInt32 = Int32.ofInt z) (k : bWX X E cells slots (pc + 2) L (iv z :: st) l) : bWX X E cells slots pc L st l :=
  fun H locs ls hP hS hl => lv_bipush K.1 K.2.1 (v := Int32.ofInt z) d h (k H locs ls hP hS hl)
theorem b_sipush (K : bK X E M D mc ms b0) {z : Int} (d : decode M.2.1 pc = .ok (.sipush z, 3)) (h : (Int16.ofInt z).toInt32 = Int32.ofInt z) (k : bWX X E cells slots (pc + 3) L (iv z :: st) l) : bWX X E cells slots pc L st l :=
  fun H locs ls hP hS hl => lv_sipush K.1 K.2.1 (v := Int32.ofInt z) d h (k H locs ls hP hS hl)
theorem b_dup (K : bK X E M D mc ms b0) {v : gV} (d : decode M.2.1 pc = .ok (.dup, 1)) (h : gC1 (some v) = true) (k : bWX X E cells slots (pc + 1) L (v :: v :: st) l) : bWX X E cells slots pc L (v :: st) l :=
  fun H locs ls hP hS hl => lv_dup K.1 K.2.1 d (gC1_cat h) (k H locs ls hP hS hl)
theorem b_goto (K : bK X E M D mc ms b0) {off : Int} {tgt : Nat} (d : decode M.2.1 pc = .ok (.goto off, 3)) (ht : (pc : Int) + off = (tgt : Int)) (k : bWX X E cells slots tgt L st l) : bWX X E cells slots pc L st l :=
  fun H locs ls hP hS hl => lv_goto K.1 K.2.1 d ht (k H locs ls hP hS hl)
theorem b_aload_0 (K : bK X E M D mc ms b0) {q : Nat × Nat} {t : List (Option gV)} (d : decode M.2.1 pc = .ok (.aload_n 0, 1)) (k : bWX X E cells slots (pc + 1) (some (.inr q) :: t) (.inr q :: st) l) : bWX X E cells slots pc (some (.inr q) :: t) st l :=
  fun H locs ls hP hS hl => lv_aload_n K.1 K.2.1 d rfl (gLd (i := 0) hl rfl) (k H locs ls hP hS hl)
theorem b_aload_1 (K : bK X E M D mc ms b0) {a0 : Option gV} {q : Nat × Nat} {t : List (Option gV)} (d : decode M.2.1 pc = .ok (.aload_n 1, 1)) (k : bWX X E cells slots (pc + 1) (a0 :: some (.inr q) :: t) (.inr q :: st) l) : bWX X E cells slots pc (a0 :: some (.inr q) :: t) st l :=
  fun H locs ls hP hS hl => lv_aload_n K.1 K.2.1 d rfl (gLd (i := 1) hl rfl) (k H locs ls hP hS hl)
theorem b_iload_1 (K : bK X E M D mc ms b0) {a0 : Option gV} {v : Int32} {t : List (Option gV)} (d : decode M.2.1 pc = .ok (.iload_n 1, 1)) (k : bWX X E cells slots (pc + 1) (a0 :: some (.inl (.int v)) :: t) (.inl (.int v) :: st) l) : bWX X E cells slots pc (a0 :: some (.inl (.int v)) :: t) st l :=
  fun H locs ls hP hS hl => lv_iload_n K.1 K.2.1 d rfl (gLd (i := 1) hl rfl) (k H locs ls hP hS hl)
theorem b_istore_1 (K : bK X E M D mc ms b0) {a0 x : Option gV} {v : Int32} {t : List (Option gV)} (d : decode M.2.1 pc = .ok (.istore_n 1, 1)) (h1 : gC1 a0 = true) (k : bWX X E cells slots (pc + 1) (a0 :: some (.inl (.int v)) :: t) st l) : bWX X E cells slots pc (a0 :: x :: t) (.inl (.int v) :: st) l :=
  fun H locs ls hP hS hl => lv_istore_n K.1 K.2.1 d rfl hl (by simp only [List.length_cons]; show 1 < _; omega) rfl (fun ls' hl' => k H locs ls' hP hS (gSt1 (E := E) (L := a0 :: x :: t) (i := 1) (v := .inl (.int v)) hl' h1))
theorem b_iinc_1 (K : bK X E M D mc ms b0) {a0 : Option gV} {z n : Int} {t : List (Option gV)} (d : decode M.2.1 pc = .ok (.iinc 1 n, 3)) (h1 : gC1 a0 = true) (k : bWX X E cells slots (pc + 3) (a0 :: some (iv (z + n)) :: t) st l) : bWX X E cells slots pc (a0 :: some (iv z) :: t) st l := fun H locs ls hP hS hl => by
  obtain ⟨k0, hk0⟩ := List.getElem?_of_mem (gAsc_mem (E := E) (a0 :: some (iv z) :: t) 0 1 rfl)
  exact lv_iinc K.1 K.2.1 d hl (k := k0) hk0 (v := Int32.ofInt (z + n)) (by rw [Int32.ofInt_add]) (by simp) rfl (fun ls' hl' => k H locs ls' hP hS (gSt1 (E := E) (L := a0 :: some (iv z) :: t) (i := 1) (v := iv (z + n)) hl' h1))
theorem b_icmp_ge (K : bK X E M D mc ms b0) {a b : Int} {off : Int} {tgt : Nat} (h : (-2147483648 ≤ a ∧ a < 2147483648) ∧ -2147483648 ≤ b ∧ b < 2147483648) (d : decode M.2.1 pc = .ok (.if_icmp .ge off, 3)) (ht : (pc : Int) + off = (tgt : Int)) (kt : b ≤ a → bWX X E cells slots tgt L st l) (kf : ¬ b ≤ a → bWX X E cells slots (pc + 3) L st l) : bWX X E cells slots pc L (iv b :: iv a :: st) l :=
  fun H locs ls hP hS hl => lv_icmp_ge K.1 K.2.1 d ht (fun q => kt ((g_le ⟨h.2, h.1⟩).mp q) H locs ls hP hS hl) (fun q => kf (fun z => q ((g_le ⟨h.2, h.1⟩).mpr z)) H locs ls hP hS hl)
theorem b_if_eq (K : bK X E M D mc ms b0) {a : Int} {off : Int} {tgt : Nat} (h : -2147483648 ≤ a ∧ a < 2147483648) (d : decode M.2.1 pc = .ok (.ifCond .eq off, 3)) (ht : (pc : Int) + off = (tgt : Int)) (kt : a = 0 → bWX X E cells slots tgt L st l) (kf : ¬ a = 0 → bWX X E cells slots (pc + 3) L st l) : bWX X E cells slots pc L (iv a :: st) l :=
  fun H locs ls hP hS hl => lv_if_eq K.1 K.2.1 d ht (fun q => kt ((g_eq0 h).mp q) H locs ls hP hS hl) (fun q => kf (fun z => q ((g_eq0 h).mpr z)) H locs ls hP hS hl)
theorem b_astore_1 (K : bK X E M D mc ms b0) {a0 x : Option gV} {q : Nat × Nat} {t : List (Option gV)} (d : decode M.2.1 pc = .ok (.astore_n 1, 1)) (h1 : gC1 a0 = true) (k : bWX X E cells slots (pc + 1) (a0 :: some (.inr q) :: t) st l) : bWX X E cells slots pc (a0 :: x :: t) (.inr q :: st) l :=
  fun H locs ls hP hS hl => lv_astore_n K.1 K.2.1 d rfl hl (by simp only [List.length_cons]; show 1 < _; omega) rfl (fun ls' hl' => k H locs ls' hP hS (gSt1 (E := E) (L := a0 :: x :: t) (i := 1) (v := .inr q) hl' h1))
theorem b_astore_2 (K : bK X E M D mc ms b0) {a0 a1 x : Option gV} {q : Nat × Nat} {t : List (Option gV)} (d : decode M.2.1 pc = .ok (.astore_n 2, 1)) (h1 : gC1 a1 = true) (k : bWX X E cells slots (pc + 1) (a0 :: a1 :: some (.inr q) :: t) st l) : bWX X E cells slots pc (a0 :: a1 :: x :: t) (.inr q :: st) l :=
  fun H locs ls hP hS hl => lv_astore_n K.1 K.2.1 d rfl hl (by simp only [List.length_cons]; show 2 < _; omega) rfl (fun ls' hl' => k H locs ls' hP hS (gSt1 (E := E) (L := a0 :: a1 :: x :: t) (i := 2) (v := .inr q) hl' h1))
theorem b_astore_3 (K : bK X E M D mc ms b0) {a0 a1 a2 x : Option gV} {q : Nat × Nat} {t : List (Option gV)} (d : decode M.2.1 pc = .ok (.astore_n 3, 1)) (h1 : gC1 a2 = true) (k : bWX X E cells slots (pc + 1) (a0 :: a1 :: a2 :: some (.inr q) :: t) st l) : bWX X E cells slots pc (a0 :: a1 :: a2 :: x :: t) (.inr q :: st) l :=
  fun H locs ls hP hS hl => lv_astore_n K.1 K.2.1 d rfl hl (by simp only [List.length_cons]; show 3 < _; omega) rfl (fun ls' hl' => k H locs ls' hP hS (gSt1 (E := E) (L := a0 :: a1 :: a2 :: x :: t) (i := 3) (v := .inr q) hl' h1))
theorem b_astore_4 (K : bK X E M D mc ms b0) {a0 a1 a2 a3 x : Option gV} {q : Nat × Nat} {t : List (Option gV)} (d : decode M.2.1 pc = .ok (.astore 4, 2)) (h1 : gC1 a3 = true) (k : bWX X E cells slots (pc + 2) (a0 :: a1 :: a2 :: a3 :: some (.inr q) :: t) st l) : bWX X E cells slots pc (a0 :: a1 :: a2 :: a3 :: x :: t) (.inr q :: st) l :=
  fun H locs ls hP hS hl => lv_astore K.1 K.2.1 d hl (by simp only [List.length_cons]; show 4 < _; omega) rfl (fun ls' hl' => k H locs ls' hP hS (gSt1 (E := E) (L := a0 :: a1 :: a2 :: a3 :: x :: t) (i := 4) (v := .inr q) hl' h1))
theorem b_istore_5 (K : bK X E M D mc ms b0) {a0 a1 a2 a3 a4 x : Option gV} {v : Int32} {t : List (Option gV)} (d : decode M.2.1 pc = .ok (.istore 5, 2)) (h1 : gC1 a4 = true) (k : bWX X E cells slots (pc + 2) (a0 :: a1 :: a2 :: a3 :: a4 :: some (.inl (.int v)) :: t) st l) : bWX X E cells slots pc (a0 :: a1 :: a2 :: a3 :: a4 :: x :: t) (.inl (.int v) :: st) l :=
  fun H locs ls hP hS hl => lv_istore K.1 K.2.1 d hl (by simp only [List.length_cons]; show 5 < _; omega) rfl (fun ls' hl' => k H locs ls' hP hS (gSt1 (E := E) (L := a0 :: a1 :: a2 :: a3 :: a4 :: x :: t) (i := 5) (v := .inl (.int v)) hl' h1))
theorem b_aload_2 (K : bK X E M D mc ms b0) {a0 a1 : Option gV} {q : Nat × Nat} {t : List (Option gV)} (d : decode M.2.1 pc = .ok (.aload_n 2, 1)) (k : bWX X E cells slots (pc + 1) (a0 :: a1 :: some (.inr q) :: t) (.inr q :: st) l) : bWX X E cells slots pc (a0 :: a1 :: some (.inr q) :: t) st l :=
  fun H locs ls hP hS hl => lv_aload_n K.1 K.2.1 d rfl (gLd (i := 2) hl rfl) (k H locs ls hP hS hl)
theorem b_objInit (K : bK X E M D mc ms b0) {idx k i : Nat} (hl : Cond.methodLink M.1.cls idx Lib.objectInit ∈ lw_tbl) (hL : L.length = M.2.2.1) (hD : 1 ≤ D ∧ gCats st + 12 ≤ 64 * D) (d : decode M.2.1 pc = .ok (.invokespecial idx, 3)) (kk : bWX X E cells slots (pc + 3) L st l) : bWX X E cells slots pc L (.inr (k, i) :: st) l := by
  intro H locs ls hP hS hlv
  have hN := K.2.2.2.2.1
  have hR := K.2.2.2.2.2.2.2.2.2
  refine W.objInit K.1 K.2.1 K.2.2.2.1 (gN_word hN hl rfl _) (gN_word hN g_oi.1 rfl _) (gN_word hN g_oi.2 rfl _) rfl (by rw [K.2.2.1, ← hL]; exact hlv.1) rfl d (by rw [hR]; exact hD.1) ?_ (kk H locs ls hP hS hlv)
  rw [hR]
  exact Nat.le_trans (Nat.add_le_add_right (by
    show 2 * 0 + ((st.map (gc E)).map fun v => v.category).sum ≤ gCats st
    have := gCats_le (E := E) st
    omega) 12) hD.2
theorem b_new (K : bK X E M D mc ms b0) {idx ci k i : Nat} {q : vw_C} (hc : gCl[ci]? = some q) (hl : Cond.classLink M.1.cls idx q.1 ∈ lw_tbl) (hi : Cond.instantiable q.1 q.2.2 ∈ lw_tbl) (hini : Cond.initialized q.1 ∈ lw_tbl) (ty : Nat → FieldType) (hty : ∀ k, k < q.2.2 → parseFieldDescriptor (q.2.1 k).2.2.1 = some (ty k)) (fs : List Value) (hfs : ∀ j, j < q.2.2 → defaultValue (ty j) = vp_V fs j) (hx : b0 + cells = l.length) (ho : gOff k i = l.length) (hcl : cells + 1 ≤ mc) (hsl : slots + q.2.2 ≤ ms) (d : decode M.2.1 pc = .ok (.new idx, 3)) (kk : bWX X E (cells + 1) (slots + q.2.2) (pc + 3) L (.inr (k, i) :: st) (l ++ [.inr (ci, fs)])) : bWX X E cells slots pc L st l := by
  intro H locs ls hP hS hlv
  have hN := K.2.2.2.2.1
  have hR := K.2.2.2.2.2.2.2.2.2
  have hsz := K.2.2.2.2.2.2.2.2.1
  have hok := gCl_ok hc
  refine va_new (C := q.1) (T := q.2.1) (N := q.2.2) (fs := fs) K.1 K.2.1 (fun w hw => gN_word hN (hok.1 w hw).1 (hok.1 w hw).2 _) (fun w hw => hw) ty hty K.2.2.2.1 (gN_word hN hl rfl _) (gN_word hN hi rfl _) (gN_word hN hini rfl _) (gN_K hN) hP bD_ok hS (fun x hx2 => by show gB E ≤ x; omega) hc hfs (by rw [hR]; exact hcl) (by rw [hR]; exact hsl) d (fun x H1 hP1 hD1 hS1 => ?_)
  intro T hT Z
  have hz := Z.heapSize
  rw [hT, hsz] at hz
  have hq := bAddr hP1 hD1 (by omega)
  subst hq
  rw [← bW_app] at hP1
  have h9 := kk H1 locs ls hP1 hS1 hlv T hT Z
  rw [List.map_cons, show gc E (.inr (k, i)) = .ref (gB E + l.length) by rw [← ho]; rfl] at h9
  exact h9
theorem b_newa (K : bK X E M D mc ms b0) {atype : ArrayType} {t N k i : Nat} {ty : FieldType} (hty : newarray.typeOf atype = ty) (ht : gTy[t]? = some ty) (hw : Cond.arrayClass ty ∈ lw_tbl) {n : Int} (hn : n = (N : Int)) (hN9 : N < 100000) (a0 : vp_A) (ha : ∀ cA : ClassId, vp_cell cA a0 = arrV cA N (fun _ => defaultValue ty)) (hby : N * componentBytes ty ≤ 536870912) (hx : b0 + cells = l.length) (ho : gOff k i = l.length) (hcl : cells + 1 ≤ mc) (hsl : slots + N ≤ ms) (d : decode M.2.1 pc = .ok (.newarray atype, 2)) (kk : bWX X E (cells + 1) (slots + N) (pc + 2) L (.inr (k, i) :: st) (l ++ [.inl (gcA E t, a0)])) : bWX X E cells slots pc L (iv n :: st) l := by
  subst hn
  intro H locs ls hP hS hlv
  have hN := K.2.2.2.2.1
  have hR := K.2.2.2.2.2.2.2.2.2
  have hsz := K.2.2.2.2.2.2.2.2.1
  refine va_newa (atype := atype) (ty := ty) (a0 := a0) (N' := N) K.1 K.2.1 (by rw [hty]; exact gN_word hN hw rfl _) hty (gN_K hN) hP bD_ok hS (fun x hx2 => by show gB E ≤ x; omega) ha (by
    intro h
    have h2 := Int32.lt_iff_toInt_lt.mp h
    rw [g_toInt (by omega)] at h2
    have : (0 : Int32).toInt = 0 := rfl
    omega) (g_cl (by omega)) hby (by rw [hR]; exact hcl) (by rw [hR]; exact hsl) d (fun x cA H1 hK1 hP1 hD1 hS1 => ?_)
  intro T hT Z
  have hz := Z.heapSize
  rw [hT, hsz] at hz
  have hA := bC_A ht hK1 (gN_K hN)
  subst hA
  have hq := bAddr hP1 hD1 (by omega)
  subst hq
  rw [← bW_app] at hP1
  have h9 := kk H1 locs ls hP1 hS1 hlv T hT Z
  rw [List.map_cons, show gc E (.inr (k, i)) = .ref (gB E + l.length) by rw [← ho]; rfl] at h9
  exact h9
theorem b_newq (K : bK X E M D mc ms b0) {idx t N k i : Nat} {C : String} (ht : gTy[t]? = some (.object C)) (hlk : Cond.classLink M.1.cls idx C ∈ lw_tbl) (hw : Cond.arrayOver (.object C) ∈ lw_tbl) {n : Int} (hn : n = (N : Int)) (hN9 : N < 100000) (hx : b0 + cells = l.length) (ho : gOff k i = l.length) (hcl : cells + 1 ≤ mc) (hsl : slots + N ≤ ms) (d : decode M.2.1 pc = .ok (.anewarray idx, 3)) (kk : bWX X E (cells + 1) (slots + N) (pc + 3) L (.inr (k, i) :: st) (l ++ [.inl (gcA E t, N, .inr (.inr (.inr (.inr (fun _ => none)))))])) : bWX X E cells slots pc L (iv n :: st) l := by
  subst hn
  intro H locs ls hP hS hlv
  have hN := K.2.2.2.2.1
  have hR := K.2.2.2.2.2.2.2.2.2
  have hsz := K.2.2.2.2.2.2.2.2.1
  refine va_newq (C := C) (N' := N) K.1 K.2.1 K.2.2.2.1 (gN_word hN hlk rfl _) (va_AO.moved hN.2.1.alike (va_AO.of (hN.1.1 _ hw))) (gN_K hN) hP bD_ok hS (fun x hx2 => by show gB E ≤ x; omega) (by
    intro h
    have h2 := Int32.lt_iff_toInt_lt.mp h
    rw [g_toInt (by omega)] at h2
    have : (0 : Int32).toInt = 0 := rfl
    omega) (g_cl (by omega)) (by omega) (by rw [hR]; exact hcl) (by rw [hR]; exact hsl) d (fun x cA H1 hK1 hP1 hD1 hS1 => ?_)
  intro T hT Z
  have hz := Z.heapSize
  rw [hT, hsz] at hz
  have hA := bC_A ht hK1 (gN_K hN)
  subst hA
  have hq := bAddr hP1 hD1 (by omega)
  subst hq
  rw [← bW_app] at hP1
  have h9 := kk H1 locs ls hP1 hS1 hlv T hT Z
  rw [List.map_cons, show gc E (.inr (k, i)) = .ref (gB E + l.length) by rw [← ho]; rfl] at h9
  exact h9
theorem b_put (K : bK X E M D mc ms b0) {idx ci slot k i : Nat} {ty : FieldType} {fin : Bool} {fs : List Value} {v : gV} (hf : bF M.1.cls idx ci slot ty fin) (hin : fin = true → X.2.2.2.2.2.2.2.2.1.name = "<init>") (j : Nat) (ho : gOff k i = j) (he : l[j]? = some (.inr (ci, fs))) (hn : narrow ty (gc E v) = gc E v) (hfit : fits ty (gc E v) = true) (hl : slot < fs.length) (d : decode M.2.1 pc = .ok (.putfield idx, 3)) (kk : bWX X E cells slots (pc + 3) L st (l.set j (.inr (ci, fs.set slot (gc E v))))) : bWX X E cells slots pc L (v :: .inr (k, i) :: st) l := by
  subst ho
  intro H locs ls hP hS hlv
  have hN := K.2.2.2.2.1
  obtain ⟨q, h2, h3, h4, h5, h6, h7⟩ := hf
  have hok := gCl_ok h2
  obtain ⟨ty0, hty⟩ := hok.2.2
  cases fin with
  | true =>
    exact va_putF (C := q.1) (T := q.2.1) (N := q.2.2) K.1 K.2.1 (fun w hw => gN_word hN (hok.1 w hw).1 (hok.1 w hw).2 _) (fun w hw => hw) ty0 hty hok.2.1 K.2.2.2.1 (gN_K hN) hP bD_ok hS (gOff k i) (bW_at he) h2 slot h3 (gN_word hN h7 rfl _) (fun x h => h) h4 (hin rfl) (h5 rfl) h6 hn hfit hl d (fun H1 locs1 hP1 _ hS1 => kk H1 locs1 ls (bW_set ▸ hP1) hS1 hlv)
  | false =>
    exact va_put (C := q.1) (T := q.2.1) (N := q.2.2) K.1 K.2.1 (fun w hw => gN_word hN (hok.1 w hw).1 (hok.1 w hw).2 _) (fun w hw => hw) ty0 hty hok.2.1 K.2.2.2.1 (gN_K hN) hP bD_ok hS (gOff k i) (bW_at he) h2 slot h3 (gN_word hN h7 rfl _) (fun x h => h) h4 h6 hn hfit hl d (fun H1 locs1 hP1 _ hS1 => kk H1 locs1 ls (bW_set ▸ hP1) hS1 hlv)
theorem b_get (K : bK X E M D mc ms b0) {idx ci slot k i : Nat} {ty : FieldType} {fin : Bool} {fs : List Value} {v : gV} (hf : bF M.1.cls idx ci slot ty fin) (j : Nat) (ho : gOff k i = j) (he : l[j]? = some (.inr (ci, fs))) (hv : fs[slot]? = some (gc E v)) (d : decode M.2.1 pc = .ok (.getfield idx, 3)) (kk : bWX X E cells slots (pc + 3) L (v :: st) l) : bWX X E cells slots pc L (.inr (k, i) :: st) l := by
  subst ho
  intro H locs ls hP hS hlv
  have hN := K.2.2.2.2.1
  obtain ⟨q, h2, h3, h4, h5, h6, h7⟩ := hf
  have hok := gCl_ok h2
  exact va_get (C := q.1) (T := q.2.1) (N := q.2.2) K.1 K.2.1 (fun w hw => gN_word hN (hok.1 w hw).1 (hok.1 w hw).2 _) (fun w hw => hw) K.2.2.2.1 (gN_K hN) hP (gOff k i) (bW_at he) h2 slot h3 (gN_word hN h7 rfl _) (fun x h => h) hv d (kk H locs ls hP hS hlv)
theorem b_alen (K : bK X E M D mc ms b0) {t N k i : Nat} {ty : FieldType} {x : (Nat → Int32) ⊕ (Nat → Int64) ⊕ (Nat → UInt32) ⊕ (Nat → UInt64) ⊕ (Nat → Option Nat)} (ht : gTy[t]? = some ty) (j : Nat) (ho : gOff k i = j) (he : l[j]? = some (.inl (gcA E t, N, x))) (d : decode M.2.1 pc = .ok (.arraylength, 1)) (kk : bWX X E cells slots (pc + 1) L (iv (N : Int) :: st) l) : bWX X E cells slots pc L (.inr (k, i) :: st) l := by
  subst ho
  intro H locs ls hP hS hlv
  exact va_alen K.1 K.2.1 (gN_K K.2.2.2.2.1) hP (gOff k i) t (bW_at he) (gTys_at ht) (by rw [← Int32.ofInt_eq_ofNat]) d (kk H locs ls hP hS hlv)
theorem b_ast (K : bK X E M D mc ms b0) {t N k i k2 i2 ci m : Nat} {q : vw_C} {vs : List Value} {f : Nat → Option Nat} {z : Int} (hc : gCl[ci]? = some q) (ht : gTy[t]? = some (.object q.1)) (j j2 : Nat) (ho : gOff k i = j) (ho2 : gOff k2 i2 = j2) (he : l[j]? = some (.inl (gcA E t, N, .inr (.inr (.inr (.inr f)))))) (he2 : l[j2]? = some (.inr (ci, vs))) (hz : z = (m : Int)) (hm : m < N) (hN9 : N < 100000) (d : decode M.2.1 pc = .ok (.aastore, 1)) (kk : bWX X E cells slots (pc + 1) L st (l.set j (.inl (gcA E t, N, .inr (.inr (.inr (.inr (va_up f m (some (gB E + j2))))))))) ) : bWX X E cells slots pc L (.inr (k2, i2) :: iv z :: .inr (k, i) :: st) l := by
  subst ho
  subst ho2
  subst hz
  intro H locs ls hP hS hlv
  refine va_astq K.1 K.2.1 (gN_K K.2.2.2.2.1) hP bD_ok hS (gOff k i) t (gOff k2 i2) ci (bW_at he) (gTys_at ht) (bW_at he2) hc (g_in hm (by omega)) d (fun H1 locs1 hP1 _ hS1 => ?_)
  rw [g_cl (by omega), bW_set] at hP1
  exact kk H1 locs1 ls hP1 hS1 hlv
/-- a constructor: it adds cells behind those that are there -/
def bPc (E : gE) (as : List gV) (l : List va_E) : Array Value → State → Prop := va_Pc (as.map (gc E)) (fun U => gN E U U.heap ∧ va_P (gD E) gCl (bW E l) U.heap ∧ U.heap.size = gB E + l.length)
def bQc (E : gE) (l : List va_E) : Array Value → State → Outcome → State → Prop := va_Qv (fun _ : Unit => True) (fun _ t => gN E t t.heap ∧ va_P (gD E) gCl (bW E l) t.heap) (gA E)
def bCt (E : gE) (M : gMt) (D mc ms : Nat) (as : List gV) (l l' : List va_E) : Prop :=
  Met (gL E) M.1 [Cond.code M.1 M.2.1 M.2.2.1 M.2.2.2] ({ frames := D, cells := mc, slots := ms, locals := 64 * D } : Room) (bPc E as l) (bQc E l') mc ms (gA E)
end GB
def bEnd (X : gM) (E : gE) (mc ms : Nat) (l' : List va_E) : Prop :=
  X.2.2.2.2.2.2.2.2.2.2 = MQ X.2.2.2.2.2.2.2.1 (bQc E l') X.2.2.2.2.2.2.1 X.2.2.2.2.1 mc ms (gA E)
theorem bCt_of {E : gE} {M : gMt} {D mc ms b0 : Nat} {as : List gV} {l l' : List va_E} (hb0 : l.length = b0) (L : List (Option gV)) (hy : plainName M.1.cls = true) (h1 : as.all (fun v => gC1 (some v)) = true) (hL : L = as.map some ++ List.replicate (M.2.2.1 - as.length) none) (hlen : as.length ≤ M.2.2.1)
    (body : ∀ X : gM, bK X E M D mc ms b0 → X.2.2.2.2.2.2.2.2.1.name = M.1.name → bEnd X E mc ms l' → bWX X E 0 0 0 L [] l) : bCt E M D mc ms as l l' := by
  have h1' : ∀ v ∈ as, gC1 (some v) = true := List.all_eq_true.mp h1
  refine Met.ofW (ws' := []) (cc := M.2.1) (maxL := M.2.2.1) (ret := M.2.2.2) hy rfl ?_
  intro p e s m args below meth c s₁ B hml hv
  obtain ⟨rfl, hN, hP, hz⟩ := hv
  have hb := body (p, gL E, e, ({ frames := D, cells := mc, slots := ms, locals := 64 * D } : Room), s, m, (as.map (gc E)).toArray, below, meth, c, MQ below (bQc E l') (as.map (gc E)).toArray s mc ms (gA E)) ⟨B.exec, B.bytes, hml, findClass_of_methodNamed B.named, hN, B.notSynchronized, rfl, B.returns, by rw [hz, hb0], rfl⟩ (name_of_methodNamed B.named B.method).1 rfl
  have hsl := gSl (E := E) as h1'
  have hl := lv_entry (as.map (gc E)) (n := M.2.2.1) (by rw [hsl]; exact hlen)
  rw [lg_entry_eq]
  refine hb s.heap [] _ hP va_S.rf ?_
  have e1 : L.length = M.2.2.1 := by rw [hL]; simp; omega
  rw [e1, hL, gEntry as 0 _ h1']
  exact hl
theorem b_ret {X : gM} {E : gE} {M : gMt} {D mc ms b0 cells slots pc : Nat} {L : List (Option gV)} {l l' : List va_E} (K : bK X E M D mc ms b0) (hE : bEnd X E mc ms l') (hr : M.2.2.2 = none) (d : decode M.2.1 pc = .ok (.return_, 1)) (hc : cells ≤ mc) (hs : slots ≤ ms) (hl9 : l = l') : bWX X E cells slots pc L [] l := by
  subst hl9
  intro H locs ls hP hS hl
  unfold gW_
  rw [hE]
  refine W.widen hc hs ?_
  exact W.vret K.1 K.2.1 (K.2.2.2.2.2.2.2.1.trans hr) (fun t ht hW => ⟨⟨(), rfl, trivial, by
    rw [ht]
    exact gN_moved K.2.2.2.2.1 hW hS.1 hS.2.1, by rw [ht]; exact hP⟩, hS.F ht⟩) hS.2.2 d K.2.2.2.2.2.1
theorem bPc_blind {E : gE} {as : List gV} {l : List va_E} : FrameBlind (bPc E as l) := by
  rintro a U g mk ⟨h1, ⟨h2, h3, h4, h5⟩, h6, h7⟩
  exact ⟨h1, ⟨h2, h3, h4, h5⟩, h6, h7⟩
theorem bSz {X : gM} {E : gE} {M : gMt} {D mc ms b0 cells : Nat} {l : List va_E} {H : Heap} {T : State} {locs : List Loc} {slots : Nat} (K : bK X E M D mc ms b0) (hx : b0 + cells = l.length) (h0 : 0 < l.length) (hP : va_P (gD E) gCl (bW E l) H) (hT : T.heap = H) (Z : Stand X.1 X.2.1 X.2.2.1 X.2.2.2.1 X.2.2.2.2.1 X.2.2.2.2.2.1 X.2.2.2.2.2.2.1 X.2.2.2.2.2.2.2.1 X.2.2.2.2.2.2.2.2.1 X.2.2.2.2.2.2.2.2.2.1 T locs cells slots) : H.size = gB E + l.length := by
  have hz := Z.heapSize
  rw [hT, K.2.2.2.2.2.2.2.2.1] at hz
  have h1 := (hP (l.length - 1) _ (bW_at (List.getElem?_eq_getElem (by omega)))).lt
  have h2 : gB E + (l.length - 1) < H.size := h1
  omega
theorem b_callI {X : gM} {E : gE} {M : gMt} {D mc ms b0 cells slots pc : Nat} {L : List (Option gV)} {st : List gV} {l l' : List va_E} (K : bK X E M D mc ms b0) {N : gMt} {d9 mc' ms' idx k i : Nat} {as : List gV} (hc : bCt E N d9 mc' ms' (.inr (k, i) :: as) l l') (hm : gMth N as.length) (hi : Cond.instanceMethod N.1 ∈ lw_tbl) (hin : N.1.name = "<init>" ∧ N.2.2.2 = none) (hl : gLk M.1.cls idx N.1) (hf : d9 < D ∧ cells + mc' ≤ mc ∧ slots + ms' ≤ ms) (hx : b0 + cells = l.length) (h0 : 0 < l.length) (hL : L.length = M.2.2.1) (hst : gCats st ≤ 8) (dd : decode M.2.1 pc = .ok (.invokespecial idx, 3)) (kk : bWX X E (cells + mc') (slots + ms') (pc + 3) L st l') : bWX X E cells slots pc L (as.reverse ++ .inr (k, i) :: st) l := by
  intro H locs ls hP hS hlv
  have hN := K.2.2.2.2.1
  have hR := K.2.2.2.2.2.2.2.2.2
  have h40 : 8 + (N.2.2.1 + 11) + 64 * d9 ≤ 64 * D := by have h1 := hm.2.2.2.2; have h2 := hf.1; omega
  unfold bCt at hc
  rw [← K.2.2.2.2.2.2.1, hin.2] at hc
  intro T hT Z
  have hsz := bSz K hx h0 hP hT Z
  have S : CallFix X.1 X.2.2.2.2.2.1 X.2.2.2.2.2.2.2.2.2.1 M.2.1 M.2.2.1 X.2.2.2.2.1 X.2.2.2.2.2.2.1 [] M.1.cls := ⟨K.1, K.2.1, K.2.2.1, K.2.2.2.1, fun w h => by cases h⟩
  have hp : PreS X.2.2.2.2.1 H (bPc E (.inr (k, i) :: as) l) (.ref (gB E + gOff k i) :: as.map (gc E)) := ⟨bPc_blind, fun U hU hW => ⟨rfl, by
    rw [hU]; exact gN_moved hN hW hS.1 hS.2.1, by rw [hU]; exact hP, by rw [hU]; exact hsz⟩⟩
  have hW : 2 * (F0 X.2.2.2.2.2.1 pc ls ((as.map (gc E)).reverse ++ .ref (gB E + gOff k i) :: st.map (gc E))).monitorRoom + ((st.map (gc E)).map fun v => v.category).sum ≤ 8 := lv_room (Nat.le_trans (gCats_le st) hst)
  have hr : cells + mc' ≤ X.2.2.2.1.cells ∧ slots + ms' ≤ X.2.2.2.1.slots := by rw [hR]; exact hf.2
  have hcode : Cond.code N.1 N.2.1 N.2.2.1 none ∈ lw_tbl := by have := hm.1; rw [hin.2] at this; exact this
  have hpay : ∀ w ∈ [Cond.code N.1 N.2.1 N.2.2.1 none], ∀ (a' : Array Value) (U : State), X.2.2.2.2.1.WarmedH U.vm → w.before a' U = true := by
    intro w hw a' U hW
    rw [List.mem_singleton] at hw
    subst hw
    exact word_at hW (Or.inl rfl) (gN_word hN hcode rfl #[])
  have hrun : va_Run X.1 X.2.1 X.2.2.1 X.2.2.2.1 X.2.2.2.2.1 X.2.2.2.2.2.1 X.2.2.2.2.2.2.1 X.2.2.2.2.2.2.2.1 X.2.2.2.2.2.2.2.2.1 X.2.2.2.2.2.2.2.2.2.1 H locs cells slots mc' ms' (F0 X.2.2.2.2.2.1 pc ls ((as.map (gc E)).reverse ++ .ref (gB E + gOff k i) :: st.map (gc E))) (st.map (gc E)) (bQc E l' (Value.ref (gB E + gOff k i) :: as.map (gc E)).toArray) (gA E) := by
    rcases hl with hl | ⟨host, hl⟩
    · exact va_runI (As := as.map (gc E)) (rest := st.map (gc E)) S hc ⟨⟨rfl, rfl, by rw [hR]; exact hf.1, by rw [hR]; exact h40, hpay, List.mem_singleton.mpr rfl, gN_word hN hcode rfl _, gN_word hN hm.2.1 rfl _, hm.2.2.1, fun sig h => (List.length_map (as := as) (gc E)).symm ▸ gLen hm sig h |>.trans rfl, gN_word hN hl rfl _⟩, hin.1, gN_word hN hi rfl _⟩ hp rfl rfl (hlv.1.trans hL) rfl hW dd hr
    · exact va_runIN (As := as.map (gc E)) (rest := st.map (gc E)) S hc ⟨⟨⟨rfl, rfl, by rw [hR]; exact hf.1, by rw [hR]; exact h40, hpay, List.mem_singleton.mpr rfl⟩, gN_word hN hcode rfl _, gN_word hN hm.2.1 rfl _, hm.2.2.1, fun sig h => (List.length_map (as := as) (gc E)).symm ▸ gLen hm sig h |>.trans rfl, gN_any hN hl rfl _⟩, hin.1, gN_word hN hi rfl _⟩ hp rfl rfl (hlv.1.trans hL) rfl hW dd hr
  have h9 := va_callv (Q := X.2.2.2.2.2.2.2.2.2.2) (A0 := gA E) (H0 := X.2.2.2.2.1.heap) hrun hS (fun _ _ h => h) (fun _ h => h) (fun u t H1 locs1 ht hvm hp1 hb1 hz1 hk1 hS1 => kk H1 locs1 ls (by rw [← ht]; exact hb1.2) hS1 hlv)
  have e9 : List.map (gc E) (as.reverse ++ .inr (k, i) :: st) = (as.map (gc E)).reverse ++ .ref (gB E + gOff k i) :: st.map (gc E) := by
    rw [List.map_append, List.map_cons, List.map_reverse]; rfl
  rw [e9]
  exact h9 T hT Z
