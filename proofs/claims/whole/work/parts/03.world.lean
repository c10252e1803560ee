/-! ===== the world of this claim: every cell that the law makes, at an address told by its kind and number ===== -/
abbrev gV : Type := Value ⊕ (Nat × Nat)
abbrev gS : Type := (Nat → Nat → Nat → Int) × (Nat → Nat) × Int64 × UInt64
abbrev gE : Type := Launch × State × Array Value × va_G × (Nat → ClassId)
def gL (E : gE) : Launch := E.1
def gs0 (E : gE) : State := E.2.1
def ga0 (E : gE) : Array Value := E.2.2.1
def gD (E : gE) : va_G := E.2.2.2.1
def gcA (E : gE) : Nat → ClassId := E.2.2.2.2
def gB (E : gE) : Nat := (gs0 E).heap.size
def gA (E : gE) : Nat → Prop := fun q => gB E ≤ q
/-- where a shelf begins; where a thing of a kind lies -/
def gSo (sh : Nat) : Nat := if sh < 3 then 1 + 27 * sh else 3 + 27 * sh
def gOff (k i : Nat) : Nat := match k with
  | 0 => 0
  | 1 => gSo i
  | 2 => gSo i + 1
  | 3 => if i < 55 then gSo (i / 5) + 2 + 5 * (i % 5) else 300
  | 4 => if i < 55 then gSo (i / 5) + 3 + 5 * (i % 5) else 301
  | 5 => if i < 55 then gSo (i / 5) + 4 + 5 * (i % 5) else 302
  | 6 => if i < 55 then gSo (i / 5) + 5 + 5 * (i % 5) else 303
  | 7 => if i < 55 then gSo (i / 5) + 6 + 5 * (i % 5) else 304
  | 8 => 82
  | 9 => 83
  | 10 => 305
  | 11 => 306
  | 12 => 307
  | 13 => 308
  | k => 295 + k
def gCnt (k : Nat) : Nat := match k with
  | 1 => 11
  | 2 => 11
  | 3 => 56
  | 4 => 56
  | 5 => 56
  | 6 => 56
  | 7 => 56
  | _ => 1
def gOk (k i : Nat) : Prop := k < 25 ∧ i < gCnt k
def gSc (i : Nat) : List (Nat × Nat) := [(3, i), (4, i), (5, i), (6, i), (7, i)]
def gShl (sh : Nat) : List (Nat × Nat) := (1, sh) :: (2, sh) :: (List.range 5).flatMap (fun n => gSc (5 * sh + n))
def gAll : List (Nat × Nat) := (0, 0) :: (gShl 0 ++ gShl 1 ++ gShl 2 ++ [(8, 0), (9, 0)] ++ gShl 3 ++ gShl 4 ++ gShl 5 ++ gShl 6 ++ gShl 7 ++ gShl 8 ++ gShl 9 ++ gShl 10 ++ gSc 55 ++ (List.range 15).map (fun j => (10 + j, 0)))
theorem gAll_len : gAll.length = 320 := by decide +kernel
theorem gAll_at0 : ∀ k, k < 25 → ∀ i, i < gCnt k → gAll[gOff k i]? = some (k, i) := by decide +kernel
theorem gAll_off0 : ∀ j, j < 320 → gOff (gAll.getD j (0, 0)).1 (gAll.getD j (0, 0)).2 = j := by decide +kernel
theorem gAll_9 : ∀ q ∈ gAll, q.1 = 9 → q = (9, 0) := by decide +kernel
theorem gAll_at {k i : Nat} (h : gOk k i) : gAll[gOff k i]? = some (k, i) := gAll_at0 k h.1 i h.2
theorem gAll_off {j : Nat} {q : Nat × Nat} (h : gAll[j]? = some q) : gOff q.1 q.2 = j := by
  have hl : j < 320 := by rw [← gAll_len]; exact (List.getElem?_eq_some_iff.mp h).1
  have h1 := gAll_off0 j hl
  rw [List.getD_eq_getElem?_getD, h] at h1
  exact h1
/-- the cells that hold ints alone: class of the array, length; the objects' classes and fields -/
def gIA (k : Nat) : Option (Nat × Nat) := match k with
  | 4 => some (0, 48)
  | 5 => some (0, 14)
  | 6 => some (0, 14)
  | 7 => some (0, 14)
  | 11 => some (1, 60)
  | 13 => some (2, 16)
  | 15 => some (0, 345)
  | 16 => some (0, 345)
  | 17 => some (0, 345)
  | 18 => some (0, 345)
  | 19 => some (0, 2760)
  | 20 => some (1, 12)
  | 21 => some (1, 60)
  | 22 => some (0, 300)
  | _ => none
def gCI (k : Nat) : Option Nat := match k with
  | 0 => some 4
  | 1 => some 3
  | 3 => some 2
  | 8 => some 0
  | 10 => some 1
  | 12 => some 6
  | 14 => some 5
  | _ => none
abbrev gFd : Type := Option (Nat × Option Nat)
def gOF (k : Nat) : List gFd := match k with
  | 0 => [some (1, some 0), some (1, some 1), some (1, some 2), some (8, some 0), some (3, some 55), some (10, some 0), some (12, some 0), none, none, none, none]
  | 1 => [some (2, none), none, none, none, none, none]
  | 3 => [some (4, none), some (5, none), some (6, none), some (7, none), none, none, none, none, none, none]
  | 8 => [some (9, some 0), none]
  | 10 => [some (11, some 0), none]
  | 12 => [some (13, some 0), none, none, none]
  | 14 => [some (15, some 0), some (16, some 0), some (17, some 0), some (18, some 0), none, some (19, some 0), none, none, none, none, none, some (20, some 0), none, some (21, some 0), none, none, none, none, some (22, some 0), none]
  | _ => []
abbrev gCl : List vw_C := [(RX2, TX2, 2), (RX3, TX3, 2), (RX4, TX4, 10), (RX5, TX5, 6), (RX6, TX6, 11), (RX7, TX7, 20), (RJ4, TJ4, 4)]
abbrev gTy : List FieldType := [.int, .char, .byte, .object "ScrollChecks$Scroll", .object "ScrollChecks$Shelf", .long, .double]
def gTys (E : gE) : List (ClassId × FieldType) := gTy.mapIdx (fun t ty => (gcA E t, ty))
def gFldV (E : gE) (σ : gS) (k i slot : Nat) (d : gFd) : Value := match d with
  | none => .int (Int32.ofInt (σ.1 k i slot))
  | some (k', none) => .ref (gB E + gOff k' i)
  | some (k', some n) => .ref (gB E + gOff k' n)
def gFs (E : gE) (σ : gS) (k i : Nat) : List Value := (gOF k).mapIdx (fun slot d => gFldV E σ k i slot d)
def gEnt (E : gE) (σ : gS) (q : Nat × Nat) : va_E := match gIA q.1 with
  | some tn => .inl (gcA E tn.1, tn.2, .inl (fun j => Int32.ofInt (σ.1 q.1 q.2 j)))
  | none => match gCI q.1 with
    | some ci => .inr (ci, gFs E σ q.1 q.2)
    | none => match q.1 with
      | 2 => .inl (gcA E 3, 5, .inr (.inr (.inr (.inr (fun j => some (gB E + gOff 3 (5 * q.2 + j)))))))
      | 9 => .inl (gcA E 4, 8, .inr (.inr (.inr (.inr (fun j => some (gB E + gOff 1 (σ.2.1 j)))))))
      | 23 => .inl (gcA E 5, 1, .inr (.inl (fun _ => σ.2.2.1)))
      | _ => .inl (gcA E 6, 1, .inr (.inr (.inr (.inl (fun _ => σ.2.2.2)))))
def gW (E : gE) (σ : gS) : va_W := gAll.map (fun q => (gB E + gOff q.1 q.2, gEnt E σ q))
theorem gW_at {E : gE} {σ : gS} {k i : Nat} (h : gOk k i) : (gW E σ)[gOff k i]? = some (gB E + gOff k i, gEnt E σ (k, i)) := by
  rw [gW, List.getElem?_map, gAll_at h]
  rfl
theorem gW_len {E : gE} {σ : gS} : (gW E σ).length = 320 := by rw [gW, List.length_map, gAll_len]
theorem gW_set {E : gE} {σ σ' : gS} {k i : Nat} {e : va_E} (h : gOk k i) (ho : ∀ q : Nat × Nat, q ∈ gAll → q ≠ (k, i) → gEnt E σ' q = gEnt E σ q) (he : gEnt E σ' (k, i) = e) : (gW E σ).set (gOff k i) (gB E + gOff k i, e) = gW E σ' := by
  have hlt : gOff k i < (gW E σ).length := (List.getElem?_eq_some_iff.mp (gW_at (E := E) (σ := σ) h)).1
  apply List.ext_getElem?
  intro j
  by_cases hj : gOff k i = j
  · subst hj
    rw [List.getElem?_set_self hlt, gW_at h, he]
  · rw [List.getElem?_set_ne hj, gW, gW, List.getElem?_map, List.getElem?_map]
    cases hq : gAll[j]? with
    | none => rfl
    | some q =>
      have hne : q ≠ (k, i) := by
        intro z
        subst z
        exact hj (gAll_off hq)
      exact congrArg (fun x => some (gB E + gOff q.1 q.2, x)) (ho q (List.mem_of_getElem? hq) hne).symm
theorem gD_ok (E : gE) (σ : gS) : va_D (gA E) (gW E σ) := by
  have key : ∀ (j : Nat) (p : Nat × va_E), (gW E σ)[j]? = some p → p.1 = gB E + j := by
    intro j p hp
    rw [gW, List.getElem?_map] at hp
    cases hq : gAll[j]? with
    | none => rw [hq] at hp; cases hp
    | some q =>
      rw [hq] at hp
      have hp2 := Option.some.inj hp
      subst hp2
      show gB E + gOff q.1 q.2 = gB E + j
      rw [gAll_off hq]
  refine ⟨fun i j p q hi hj h => ?_, fun k q h => ?_⟩
  · rw [key i p hi, key j q hj] at h
    omega
  · show gB E ≤ q.1
    rw [key k q h]
    omega
theorem gEnt_congr {E : gE} {σ σ' : gS} {q : Nat × Nat} (h : ∀ j, σ'.1 q.1 q.2 j = σ.1 q.1 q.2 j) (h2 : σ'.2 = σ.2) : gEnt E σ' q = gEnt E σ q := by
  unfold gEnt gFs gFldV
  simp only [h, h2]
/-- one number more; a stretch copied -/
def gU (σ : gS) (k i j : Nat) (z : Int) : gS := (fun a b c => if a = k ∧ b = i ∧ c = j then z else σ.1 a b c, σ.2)
def gCp (σ : gS) (k0 i0 k i sp dp n : Nat) : gS := (fun a b c => if a = k ∧ b = i ∧ dp ≤ c ∧ c < dp + n then σ.1 k0 i0 (sp + (c - dp)) else σ.1 a b c, σ.2)
def gPm (σ : gS) (f : Nat → Nat) : gS := (σ.1, f, σ.2.2)
def gOl (σ : gS) (x : Int64) : gS := (σ.1, σ.2.1, x, σ.2.2.2)
def gOd (σ : gS) (x : UInt64) : gS := (σ.1, σ.2.1, σ.2.2.1, x)
theorem gU_off {E : gE} {σ : gS} {k i j : Nat} {z : Int} (q : Nat × Nat) (_ : q ∈ gAll) (h : q ≠ (k, i)) : gEnt E (gU σ k i j z) q = gEnt E σ q := by
  refine gEnt_congr (fun c => ?_) rfl
  show (if q.1 = k ∧ q.2 = i ∧ c = j then z else σ.1 q.1 q.2 c) = _
  rw [if_neg]
  rintro ⟨a, b, -⟩
  exact h (Prod.ext a b)
theorem gCp_off {E : gE} {σ : gS} {k0 i0 k i sp dp n : Nat} (q : Nat × Nat) (_ : q ∈ gAll) (h : q ≠ (k, i)) : gEnt E (gCp σ k0 i0 k i sp dp n) q = gEnt E σ q := by
  refine gEnt_congr (fun c => ?_) rfl
  show (if q.1 = k ∧ q.2 = i ∧ dp ≤ c ∧ c < dp + n then _ else σ.1 q.1 q.2 c) = _
  rw [if_neg]
  rintro ⟨a, b, -⟩
  exact h (Prod.ext a b)
theorem gEnt_arr {E : gE} {σ : gS} {k i t n : Nat} (h : gIA k = some (t, n)) : gEnt E σ (k, i) = .inl (gcA E t, n, .inl (fun j => Int32.ofInt (σ.1 k i j))) := by
  unfold gEnt
  simp only [h]
theorem gEnt_obj {E : gE} {σ : gS} {k i ci : Nat} (h0 : gIA k = none) (h : gCI k = some ci) : gEnt E σ (k, i) = .inr (ci, gFs E σ k i) := by
  unfold gEnt
  simp only [h0, h]
theorem gFs_get {E : gE} {σ : gS} {k i slot : Nat} {d : gFd} (h : (gOF k)[slot]? = some d) : (gFs E σ k i)[slot]? = some (gFldV E σ k i slot d) := by
  rw [gFs, List.getElem?_mapIdx, h]
  rfl
theorem gFs_len {E : gE} {σ : gS} {k i : Nat} : (gFs E σ k i).length = (gOF k).length := by rw [gFs, List.length_mapIdx]
theorem gFs_set {E : gE} {σ : gS} {k i slot : Nat} {z : Int} (h : (gOF k)[slot]? = some none) : gFs E (gU σ k i slot z) k i = (gFs E σ k i).set slot (.int (Int32.ofInt z)) := by
  apply List.ext_getElem?
  intro j
  by_cases hj : slot = j
  · subst hj
    have hl : slot < (gFs E σ k i).length := by rw [gFs_len]; exact (List.getElem?_eq_some_iff.mp h).1
    rw [List.getElem?_set_self hl, gFs_get h]
    show some (Value.int (Int32.ofInt (if k = k ∧ i = i ∧ slot = slot then z else _))) = _
    rw [if_pos ⟨rfl, rfl, rfl⟩]
  · rw [List.getElem?_set_ne hj, gFs, gFs, List.getElem?_mapIdx, List.getElem?_mapIdx]
    cases hd : (gOF k)[j]? with
    | none => rfl
    | some d =>
      show some (gFldV E _ k i j d) = some (gFldV E _ k i j d)
      cases d with
      | none =>
        show some (Value.int (Int32.ofInt (if k = k ∧ i = i ∧ j = slot then z else _))) = _
        rw [if_neg (fun q => hj q.2.2.symm)]
        rfl
      | some d =>
        obtain ⟨k', o⟩ := d
        cases o <;> rfl
/-- the launch: what the start gives -/
def gE0 (E : gE) : Prop := (∀ w ∈ lw_tbl, w.before (ga0 E) (gs0 E) = true) ∧ (Jvm.Cond.and given_1 narrow_1).before (ga0 E) (gs0 E) = true ∧ va_K (gD E) gCl (gTys E) (gs0 E) ∧ (gL E).flags = flags0
/-- a state of the run, and its heap below the law's own cells -/
def gN (E : gE) (U : State) (H : Heap) : Prop := gE0 E ∧ (gs0 E).WarmedH U.vm ∧ gB E ≤ H.size ∧ ∀ q : Nat, q < gB E → H[q]? = (gs0 E).heap[q]?
def gI (E : gE) (σ : gS) (U : State) : Prop := gN E U U.heap ∧ va_P (gD E) gCl (gW E σ) U.heap
theorem gN_moved {E : gE} {u U : State} {H0 H : Heap} (h : gN E u H0) (hW : u.WarmedH U.vm) (hz : H0.size ≤ H.size) (hh : ∀ q : Nat, q < H0.size → ¬ gA E q → H[q]? = H0[q]?) : gN E U H := by
  obtain ⟨h1, h2, h3, h4⟩ := h
  refine ⟨h1, State.WarmedH.trans h2 hW, Nat.le_trans h3 hz, fun q hq => ?_⟩
  rw [hh q (Nat.lt_of_lt_of_le hq h3) (Nat.not_le.mpr hq)]
  exact h4 q hq
theorem gN_word {E : gE} {U : State} {H : Heap} (h : gN E U H) {w : Cond} (hw : w ∈ lw_tbl) (g : goodWord w = true) (a : Array Value) : w.before a U = true := word_at h.2.1 (good_of_word g) (h.1.1 w hw)
theorem gN_K {E : gE} {U : State} {H : Heap} (h : gN E U H) : va_K (gD E) gCl (gTys E) U := va_K.moved h.2.1.alike h.1.2.2.1
