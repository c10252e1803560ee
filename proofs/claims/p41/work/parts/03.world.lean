/-! ===== the world of this claim: every cell that the law makes, at an address told by its kind and number ===== -/
abbrev gV : Type := Value ⊕ (Nat × Nat)
abbrev gS : Type := (Nat → Nat → Nat → Int) × (Nat → Nat) × Int64 × UInt64
/-- a cell of the law's own: its address, its kind, which of the kind, its length -/
abbrev gXd : Type := Nat × Nat × Nat × Nat
abbrev gE : Type := Launch × State × Array Value × va_G × (Nat → ClassId) × List gXd
def gL (E : gE) : Launch := E.1
def gs0 (E : gE) : State := E.2.1
def ga0 (E : gE) : Array Value := E.2.2.1
def gD (E : gE) : va_G := E.2.2.2.1
def gcA (E : gE) : Nat → ClassId := E.2.2.2.2.1
def gX (E : gE) : List gXd := E.2.2.2.2.2
def gB (E : gE) : Nat := (gs0 E).heap.size
def gA (E : gE) : Nat → Prop := fun q => gB E ≤ q
/-- where a shelf begins; where a thing of a kind lies -/
def gSo (sh : Nat) : Nat := if sh < 3 then 1 + 27 * sh else 3 + 27 * sh
def gOff (k i : Nat) : Nat := match k with
  | 0 => 0
  | 1 => gSo i
  | 2 => gSo i + 1
  | 3 => if i < 55 then gSo (i / 5) + 2 + 5 * (i % 5) else 300
  | 4 => if i < 55 then gSo (i / 5) + 3 + 5 * (i % 5) else 301
  | 5 => if i < 55 then gSo (i / 5) + 4 + 5 * (i % 5) else 302
  | 6 => if i < 55 then gSo (i / 5) + 5 + 5 * (i % 5) else 303
  | 7 => if i < 55 then gSo (i / 5) + 6 + 5 * (i % 5) else 304
  | 8 => 82
  | 9 => 83
  | 10 => 305
  | 11 => 306
  | 12 => 307
  | 13 => 308
  | k => 295 + k
def gCnt (k : Nat) : Nat := match k with
  | 1 => 11
  | 2 => 11
  | 3 => 56
  | 4 => 56
  | 5 => 56
  | 6 => 56
  | 7 => 56
  | _ => 1
def gOk (k i : Nat) : Prop := k < 14 ∧ i < gCnt k
def gSc (i : Nat) : List (Nat × Nat) := [(3, i), (4, i), (5, i), (6, i), (7, i)]
def gShl (sh : Nat) : List (Nat × Nat) := (1, sh) :: (2, sh) :: (List.range 5).flatMap (fun n => gSc (5 * sh + n))
def gAll : List (Nat × Nat) := (0, 0) :: (gShl 0 ++ gShl 1 ++ gShl 2 ++ [(8, 0), (9, 0)] ++ gShl 3 ++ gShl 4 ++ gShl 5 ++ gShl 6 ++ gShl 7 ++ gShl 8 ++ gShl 9 ++ gShl 10 ++ gSc 55 ++ (List.range 4).map (fun j => (10 + j, 0)))
theorem gAll_len : gAll.length = 309 := by decide +kernel
theorem gAll_at0 : ∀ k, k < 14 → ∀ i, i < gCnt k → gAll[gOff k i]? = some (k, i) := by decide +kernel
theorem gAll_off0 : ∀ j, j < 309 → gOff (gAll.getD j (0, 0)).1 (gAll.getD j (0, 0)).2 = j := by decide +kernel
theorem gAll_9 : ∀ q ∈ gAll, q.1 = 9 → q = (9, 0) := by decide +kernel
theorem gAll_at {k i : Nat} (h : gOk k i) : gAll[gOff k i]? = some (k, i) := gAll_at0 k h.1 i h.2
theorem gAll_off {j : Nat} {q : Nat × Nat} (h : gAll[j]? = some q) : gOff q.1 q.2 = j := by
  have hl : j < 309 := by rw [← gAll_len]; exact (List.getElem?_eq_some_iff.mp h).1
  have h1 := gAll_off0 j hl
  rw [List.getD_eq_getElem?_getD, h] at h1
  exact h1
/-- the cells that hold ints alone: class of the array, length; the objects' classes and fields -/
def gIA (k : Nat) : Option (Nat × Nat) := match k with
  | 4 => some (0, 48)
  | 5 => some (0, 14)
  | 6 => some (0, 14)
  | 7 => some (0, 14)
  | 11 => some (1, 60)
  | 13 => some (2, 16)
  | _ => none
def gCI (k : Nat) : Option Nat := match k with
  | 0 => some 4
  | 1 => some 3
  | 3 => some 2
  | 8 => some 0
  | 10 => some 1
  | 12 => some 5
  | _ => none
abbrev gFd : Type := Option (Nat × Option Nat)
def gOF (k : Nat) : List gFd := match k with
  | 0 => [some (1, some 0), some (1, some 1), some (1, some 2), some (8, some 0), some (3, some 55), some (10, some 0), some (12, some 0), none, none, none, none]
  | 1 => [some (2, none), none, none, none, none, none]
  | 3 => [some (4, none), some (5, none), some (6, none), some (7, none), none, none, none, none, none, none]
  | 8 => [some (9, some 0), none]
  | 10 => [some (11, some 0), none]
  | 12 => [some (13, some 0), none, none, none]
  | _ => []
abbrev gCl : List vw_C := [(RX2, TX2, 2), (RX3, TX3, 2), (RX4, TX4, 10), (RX5, TX5, 6), (RX6, TX6, 11), (RJ4, TJ4, 4), (RJ0, TJ0, 4)]
abbrev gTy : List FieldType := [.int, .char, .byte, .object "ScrollChecks$Scroll", .object "ScrollChecks$Shelf", .long]
def gTys (E : gE) : List (ClassId × FieldType) := gTy.mapIdx (fun t ty => (gcA E t, ty))
def gFldV (E : gE) (σ : gS) (k i slot : Nat) (d : gFd) : Value := match d with
  | none => .int (Int32.ofInt (σ.1 k i slot))
  | some (k', none) => .ref (gB E + gOff k' i)
  | some (k', some n) => .ref (gB E + gOff k' n)
def gFs (E : gE) (σ : gS) (k i : Nat) : List Value := (gOF k).mapIdx (fun slot d => gFldV E σ k i slot d)
def gEnt (E : gE) (σ : gS) (q : Nat × Nat) : va_E := match gIA q.1 with
  | some tn => .inl (gcA E tn.1, tn.2, .inl (fun j => Int32.ofInt (σ.1 q.1 q.2 j)))
  | none => match gCI q.1 with
    | some ci => .inr (ci, gFs E σ q.1 q.2)
    | none => match q.1 with
      | 2 => .inl (gcA E 3, 5, .inr (.inr (.inr (.inr (fun j => some (gB E + gOff 3 (5 * q.2 + j)))))))
      | 9 => .inl (gcA E 4, 8, .inr (.inr (.inr (.inr (fun j => some (gB E + gOff 1 (σ.2.1 j)))))))
      | _ => .inl (gcA E 0, 0, .inl (fun _ => 0))
/-- a reference kept as a number: none below 0 -/
def gRv (z : Int) : Value := if z < 0 then .null else .ref z.toNat
def gEntX (E : gE) (σ : gS) (x : gXd) : va_E := match x.2.1 with
  | 30 => .inl (gcA E 0, x.2.2.2, .inl (fun j => Int32.ofInt (σ.1 30 x.2.2.1 j)))
  | 31 => .inl (gcA E 5, x.2.2.2, .inr (.inl (fun j => Int64.ofInt (σ.1 31 x.2.2.1 j))))
  | 32 => .inl (gcA E 2, x.2.2.2, .inl (fun j => Int32.ofInt (σ.1 32 x.2.2.1 j)))
  | 33 => .inr (5, [gRv (σ.1 33 x.2.2.1 0), .int (Int32.ofInt (σ.1 33 x.2.2.1 1)), .int (Int32.ofInt (σ.1 33 x.2.2.1 2)), .int (Int32.ofInt (σ.1 33 x.2.2.1 3))])
  | _ => .inr (6, [gRv (σ.1 34 x.2.2.1 0), .int (Int32.ofInt (σ.1 34 x.2.2.1 1)), .int (Int32.ofInt (σ.1 34 x.2.2.1 2)), .int (Int32.ofInt (σ.1 34 x.2.2.1 3))])
theorem gEntX_congr {E : gE} {σ σ' : gS} (x : gXd) (h : ∀ k, 30 ≤ k → ∀ j, σ'.1 k x.2.2.1 j = σ.1 k x.2.2.1 j) : gEntX E σ' x = gEntX E σ x := by
  unfold gEntX
  simp only [h 30 (by omega), h 31 (by omega), h 32 (by omega), h 33 (by omega), h 34 (by omega)]
def gWa (E : gE) (σ : gS) : va_W := gAll.map (fun q => (gB E + gOff q.1 q.2, gEnt E σ q))
def gWb (E : gE) (σ : gS) : va_W := (gX E).map (fun x => (x.1, gEntX E σ x))
def gW (E : gE) (σ : gS) : va_W := gWa E σ ++ gWb E σ
/-- the law's own cells lie apart -/
def gXok (E : gE) : Prop := (∀ x ∈ gX E, gB E + 309 ≤ x.1) ∧ (∀ (i j : Nat) (x y : gXd), (gX E)[i]? = some x → (gX E)[j]? = some y → x.1 = y.1 ∨ x.2.2.1 = y.2.2.1 → i = j)
theorem gWa_len {E : gE} {σ : gS} : (gWa E σ).length = 309 := by rw [gWa, List.length_map, gAll_len]
theorem gWa_at {E : gE} {σ : gS} {k i : Nat} (h : gOk k i) : (gWa E σ)[gOff k i]? = some (gB E + gOff k i, gEnt E σ (k, i)) := by
  rw [gWa, List.getElem?_map, gAll_at h]
  rfl
theorem gOk_lt {k i : Nat} (h : gOk k i) : gOff k i < 309 := by rw [← gAll_len]; exact (List.getElem?_eq_some_iff.mp (gAll_at h)).1
theorem gW_at {E : gE} {σ : gS} {k i : Nat} (h : gOk k i) : (gW E σ)[gOff k i]? = some (gB E + gOff k i, gEnt E σ (k, i)) := by
  rw [gW, List.getElem?_append_left (by rw [gWa_len]; exact gOk_lt h)]
  exact gWa_at h
theorem gW_atX {E : gE} {σ : gS} {e : Nat} {x : gXd} (h : (gX E)[e]? = some x) : (gW E σ)[309 + e]? = some (x.1, gEntX E σ x) := by
  rw [gW, List.getElem?_append_right (by rw [gWa_len]; omega), gWa_len, Nat.add_sub_cancel_left, gWb, List.getElem?_map, h]
  rfl
theorem gWb_eq {E : gE} {σ σ' : gS} (hx : ∀ x ∈ gX E, gEntX E σ' x = gEntX E σ x) : gWb E σ' = gWb E σ := List.map_congr_left (fun x h => by rw [hx x h])
theorem gW_set {E : gE} {σ σ' : gS} {k i : Nat} {e : va_E} (h : gOk k i) (ho : ∀ q : Nat × Nat, q ∈ gAll → q ≠ (k, i) → gEnt E σ' q = gEnt E σ q) (hx : ∀ x, gEntX E σ' x = gEntX E σ x) (he : gEnt E σ' (k, i) = e) : (gW E σ).set (gOff k i) (gB E + gOff k i, e) = gW E σ' := by
  have h9 : gOff k i < (gWa E σ).length := by rw [gWa_len]; exact gOk_lt h
  rw [gW, gW, List.set_append_left _ _ h9, gWb_eq (fun x _ => hx x)]
  refine congrArg (fun l => l ++ gWb E σ) ?_
  apply List.ext_getElem?
  intro j
  by_cases hj : gOff k i = j
  · subst hj
    rw [List.getElem?_set_self h9, gWa_at h, he]
  · rw [List.getElem?_set_ne hj, gWa, gWa, List.getElem?_map, List.getElem?_map]
    cases hq : gAll[j]? with
    | none => rfl
    | some q =>
      have hne : q ≠ (k, i) := by
        intro z
        subst z
        exact hj (gAll_off hq)
      exact congrArg (fun x => some (gB E + gOff q.1 q.2, x)) (ho q (List.mem_of_getElem? hq) hne).symm
/-- a cell of the law's own written -/
theorem gW_setX {E : gE} {σ σ' : gS} {e : Nat} {x : gXd} {v : va_E} (h : (gX E)[e]? = some x) (ha : ∀ q ∈ gAll, gEnt E σ' q = gEnt E σ q) (ho : ∀ (e2 : Nat) (y : gXd), (gX E)[e2]? = some y → e2 ≠ e → gEntX E σ' y = gEntX E σ y) (he : gEntX E σ' x = v) : (gW E σ).set (309 + e) (x.1, v) = gW E σ' := by
  have e0 : gWa E σ' = gWa E σ := List.map_congr_left (fun q hq => by rw [ha q hq])
  rw [gW, gW, e0, List.set_append_right _ _ (by rw [gWa_len]; omega), gWa_len, Nat.add_sub_cancel_left]
  refine congrArg (fun l => gWa E σ ++ l) ?_
  have hl : e < (gWb E σ).length := by rw [gWb, List.length_map]; exact (List.getElem?_eq_some_iff.mp h).1
  apply List.ext_getElem?
  intro j
  by_cases hj : e = j
  · subst hj
    rw [List.getElem?_set_self hl, gWb, List.getElem?_map, h]
    exact congrArg (fun z => some (x.1, z)) he.symm
  · rw [List.getElem?_set_ne hj, gWb, gWb, List.getElem?_map, List.getElem?_map]
    cases hq : (gX E)[j]? with
    | none => rfl
    | some y => exact congrArg (fun z => some (y.1, z)) (ho j y hq (fun z => hj z.symm)).symm
theorem gW_lt {E : gE} {σ : gS} {j : Nat} {p : Nat × va_E} (h : (gW E σ)[j]? = some p) : (j < 309 ∧ p.1 = gB E + j) ∨ ∃ x, 309 ≤ j ∧ (gX E)[j - 309]? = some x ∧ p.1 = x.1 := by
  by_cases hj : j < 309
  · refine Or.inl ⟨hj, ?_⟩
    rw [gW, List.getElem?_append_left (by rw [gWa_len]; exact hj), gWa, List.getElem?_map] at h
    cases hq : gAll[j]? with
    | none => rw [hq] at h; cases h
    | some q =>
      rw [hq] at h
      have hp2 := Option.some.inj h
      subst hp2
      show gB E + gOff q.1 q.2 = gB E + j
      rw [gAll_off hq]
  · refine Or.inr ?_
    rw [gW, List.getElem?_append_right (by rw [gWa_len]; omega), gWa_len, gWb, List.getElem?_map] at h
    cases hq : (gX E)[j - 309]? with
    | none => rw [hq] at h; cases h
    | some x =>
      rw [hq] at h
      have hp2 := Option.some.inj h
      subst hp2
      exact ⟨x, by omega, rfl, rfl⟩
theorem gD_ok {E : gE} (hx : gXok E) (σ : gS) : va_D (gA E) (gW E σ) := by
  refine ⟨fun i j p q hi hj h => ?_, fun k q h => ?_⟩
  · rcases gW_lt hi with ⟨a1, a2⟩ | ⟨x, a1, a2, a3⟩
    · rcases gW_lt hj with ⟨b1, b2⟩ | ⟨y, b1, b2, b3⟩
      · omega
      · have := hx.1 y (List.mem_of_getElem? b2)
        omega
    · rcases gW_lt hj with ⟨b1, b2⟩ | ⟨y, b1, b2, b3⟩
      · have := hx.1 x (List.mem_of_getElem? a2)
        omega
      · have := hx.2 _ _ x y a2 b2 (Or.inl (by omega))
        omega
  · show gB E ≤ q.1
    rcases gW_lt h with ⟨a1, a2⟩ | ⟨x, a1, a2, a3⟩
    · omega
    · have := hx.1 x (List.mem_of_getElem? a2)
      omega
theorem gEnt_congr {E : gE} {σ σ' : gS} {q : Nat × Nat} (h : ∀ j, σ'.1 q.1 q.2 j = σ.1 q.1 q.2 j) (h2 : σ'.2 = σ.2) : gEnt E σ' q = gEnt E σ q := by
  unfold gEnt gFs gFldV
  simp only [h, h2]
/-- one number more; a stretch copied -/
def gU (σ : gS) (k i j : Nat) (z : Int) : gS := (fun a b c => if a = k ∧ b = i ∧ c = j then z else σ.1 a b c, σ.2)
theorem gU_offX {E : gE} {σ : gS} {k i j : Nat} {z : Int} (h : gOk k i) (x : gXd) : gEntX E (gU σ k i j z) x = gEntX E σ x := by
  refine gEntX_congr x (fun a ha c => ?_)
  show (if a = k ∧ x.2.2.1 = i ∧ c = j then z else σ.1 a x.2.2.1 c) = _
  rw [if_neg]
  rintro ⟨q, -⟩
  have := h.1
  omega
def gCp (σ : gS) (k0 i0 k i sp dp n : Nat) : gS := (fun a b c => if a = k ∧ b = i ∧ dp ≤ c ∧ c < dp + n then σ.1 k0 i0 (sp + (c - dp)) else σ.1 a b c, σ.2)
def gPm (σ : gS) (f : Nat → Nat) : gS := (σ.1, f, σ.2.2)
def gOl (σ : gS) (x : Int64) : gS := (σ.1, σ.2.1, x, σ.2.2.2)
def gOd (σ : gS) (x : UInt64) : gS := (σ.1, σ.2.1, σ.2.2.1, x)
theorem gU_off {E : gE} {σ : gS} {k i j : Nat} {z : Int} (q : Nat × Nat) (_ : q ∈ gAll) (h : q ≠ (k, i)) : gEnt E (gU σ k i j z) q = gEnt E σ q := by
  refine gEnt_congr (fun c => ?_) rfl
  show (if q.1 = k ∧ q.2 = i ∧ c = j then z else σ.1 q.1 q.2 c) = _
  rw [if_neg]
  rintro ⟨a, b, -⟩
  exact h (Prod.ext a b)
theorem gCp_off {E : gE} {σ : gS} {k0 i0 k i sp dp n : Nat} (q : Nat × Nat) (_ : q ∈ gAll) (h : q ≠ (k, i)) : gEnt E (gCp σ k0 i0 k i sp dp n) q = gEnt E σ q := by
  refine gEnt_congr (fun c => ?_) rfl
  show (if q.1 = k ∧ q.2 = i ∧ dp ≤ c ∧ c < dp + n then _ else σ.1 q.1 q.2 c) = _
  rw [if_neg]
  rintro ⟨a, b, -⟩
  exact h (Prod.ext a b)
theorem gCp_offX {E : gE} {σ : gS} {k0 i0 k i sp dp n : Nat} (h : gOk k i) (x : gXd) : gEntX E (gCp σ k0 i0 k i sp dp n) x = gEntX E σ x := by
  refine gEntX_congr x (fun a ha c => ?_)
  show (if a = k ∧ x.2.2.1 = i ∧ dp ≤ c ∧ c < dp + n then _ else σ.1 a x.2.2.1 c) = _
  rw [if_neg]
  rintro ⟨q, -⟩
  have := h.1
  omega
theorem gPm_offX {E : gE} {σ : gS} {f : Nat → Nat} (x : gXd) : gEntX E (gPm σ f) x = gEntX E σ x := rfl
theorem gEnt_arr {E : gE} {σ : gS} {k i t n : Nat} (h : gIA k = some (t, n)) : gEnt E σ (k, i) = .inl (gcA E t, n, .inl (fun j => Int32.ofInt (σ.1 k i j))) := by
  unfold gEnt
  simp only [h]
theorem gEnt_obj {E : gE} {σ : gS} {k i ci : Nat} (h0 : gIA k = none) (h : gCI k = some ci) : gEnt E σ (k, i) = .inr (ci, gFs E σ k i) := by
  unfold gEnt
  simp only [h0, h]
theorem gFs_get {E : gE} {σ : gS} {k i slot : Nat} {d : gFd} (h : (gOF k)[slot]? = some d) : (gFs E σ k i)[slot]? = some (gFldV E σ k i slot d) := by
  rw [gFs, List.getElem?_mapIdx, h]
  rfl
theorem gFs_len {E : gE} {σ : gS} {k i : Nat} : (gFs E σ k i).length = (gOF k).length := by rw [gFs, List.length_mapIdx]
theorem gFs_set {E : gE} {σ : gS} {k i slot : Nat} {z : Int} (h : (gOF k)[slot]? = some none) : gFs E (gU σ k i slot z) k i = (gFs E σ k i).set slot (.int (Int32.ofInt z)) := by
  apply List.ext_getElem?
  intro j
  by_cases hj : slot = j
  · subst hj
    have hl : slot < (gFs E σ k i).length := by rw [gFs_len]; exact (List.getElem?_eq_some_iff.mp h).1
    rw [List.getElem?_set_self hl, gFs_get h]
    show some (Value.int (Int32.ofInt (if k = k ∧ i = i ∧ slot = slot then z else _))) = _
    rw [if_pos ⟨rfl, rfl, rfl⟩]
  · rw [List.getElem?_set_ne hj, gFs, gFs, List.getElem?_mapIdx, List.getElem?_mapIdx]
    cases hd : (gOF k)[j]? with
    | none => rfl
    | some d =>
      show some (gFldV E _ k i j d) = some (gFldV E _ k i j d)
      cases d with
      | none =>
        show some (Value.int (Int32.ofInt (if k = k ∧ i = i ∧ j = slot then z else _))) = _
        rw [if_neg (fun q => hj q.2.2.symm)]
        rfl
      | some d =>
        obtain ⟨k', o⟩ := d
        cases o <;> rfl
/-- the launch: what the start gives -/
def gE0 (E : gE) : Prop := (∀ w ∈ lw_tbl, w.before (ga0 E) (gs0 E) = true) ∧ (Jvm.Cond.and given_1 narrow_1).before (ga0 E) (gs0 E) = true ∧ va_K (gD E) gCl (gTys E) (gs0 E) ∧ (gL E).flags = flags0 ∧ gXok E
/-- a state of the run, and its heap below the law's own cells -/
def gN (E : gE) (U : State) (H : Heap) : Prop := gE0 E ∧ (gs0 E).WarmedH U.vm ∧ gB E ≤ H.size ∧ ∀ q : Nat, q < gB E → H[q]? = (gs0 E).heap[q]?
def gI (E : gE) (σ : gS) (U : State) : Prop := gN E U U.heap ∧ va_P (gD E) gCl (gW E σ) U.heap
theorem gN_moved {E : gE} {u U : State} {H0 H : Heap} (h : gN E u H0) (hW : u.WarmedH U.vm) (hz : H0.size ≤ H.size) (hh : ∀ q : Nat, q < H0.size → ¬ gA E q → H[q]? = H0[q]?) : gN E U H := by
  obtain ⟨h1, h2, h3, h4⟩ := h
  refine ⟨h1, State.WarmedH.trans h2 hW, Nat.le_trans h3 hz, fun q hq => ?_⟩
  rw [hh q (Nat.lt_of_lt_of_le hq h3) (Nat.not_le.mpr hq)]
  exact h4 q hq
theorem gN_word {E : gE} {U : State} {H : Heap} (h : gN E U H) {w : Cond} (hw : w ∈ lw_tbl) (g : goodWord w = true) (a : Array Value) : w.before a U = true := word_at h.2.1 (good_of_word g) (h.1.1 w hw)
theorem gN_K {E : gE} {U : State} {H : Heap} (h : gN E U H) : va_K (gD E) gCl (gTys E) U := va_K.moved h.2.1.alike h.1.2.2.1
theorem gN_x {E : gE} {U : State} {H : Heap} (h : gN E U H) : gXok E := h.1.2.2.2.2
