/-! ===== the judgement of this claim: from a frame over the world, to the method's end ===== -/
abbrev gM : Type := Program × Launch × Env × Room × State × MethodId × Array Value × List Frame × Method × Code × (State → Prop)
abbrev gW_ (X : gM) (H : Heap) (locs : List Loc) (cells slots : Nat) (g : JFrame) : Prop := W X.1 X.2.1 X.2.2.1 X.2.2.2.1 X.2.2.2.2.1 X.2.2.2.2.2.1 X.2.2.2.2.2.2.1 X.2.2.2.2.2.2.2.1 X.2.2.2.2.2.2.2.2.1 X.2.2.2.2.2.2.2.2.2.1 H locs cells slots X.2.2.2.2.2.2.2.2.2.2 g
def gc (E : gE) (v : gV) : Value := match v with
  | .inl x => x
  | .inr q => .ref (gB E + gOff q.1 q.2)
abbrev iv (z : Int) : gV := .inl (.int (Int32.ofInt z))
abbrev rf (k i : Nat) : gV := .inr (k, i)
def gAsc (E : gE) : Nat → List (Option gV) → List (Nat × Value)
  | _, [] => []
  | k, none :: t => gAsc E (k + 1) t
  | k, some v :: t => (k, gc E v) :: gAsc E (k + 1) t
def gWX (X : gM) (E : gE) (cells slots pc : Nat) (L : List (Option gV)) (st : List gV) (σ : gS) : Prop :=
  ∀ (H : Heap) (locs : List Loc) (ls : Array Slot), va_P (gD E) gCl (gW E σ) H → va_S (gA E) X.2.2.2.2.1.heap H locs → lv_has ls L.length (gAsc E 0 L) → gW_ X H locs cells slots (F0 X.2.2.2.2.2.1 pc ls (st.map (gc E)))
/-- a method: its name, its code, its locals, what it returns -/
abbrev gMt : Type := MethodName × ByteArray × Nat × Option FieldType
def gK (X : gM) (E : gE) (M : gMt) (D n : Nat) : Prop :=
  X.1.tables.exec = Jvm.exec ∧ X.2.2.2.2.2.2.2.2.2.1.code = M.2.1 ∧ X.2.2.2.2.2.2.2.2.2.1.maxLocals = M.2.2.1 ∧ X.2.2.2.2.1.vm.findClass M.1.cls = some X.2.2.2.2.2.1.cls ∧ gN E X.2.2.2.2.1 X.2.2.2.2.1.heap ∧ X.2.2.2.2.2.2.2.2.1.locks = false ∧ X.2.1 = gL E ∧
  X.2.2.2.2.2.2.2.2.1.sig.returnType = M.2.2.2 ∧ (∀ x ∈ X.2.2.2.2.2.2.2.2.2.1.exceptionTable.toList, False) ∧ X.2.2.2.1 = ({ frames := D, cells := n, slots := 6 * n, locals := 64 * D } : Room)
theorem gAsc_mem {E : gE} {v : gV} : ∀ (L : List (Option gV)) (k i : Nat), L[i]? = some (some v) → (k + i, gc E v) ∈ gAsc E k L
  | [], k, i, h => by simp at h
  | none :: t, k, 0, h => by simp at h
  | none :: t, k, i + 1, h => by
    have := gAsc_mem (E := E) t (k + 1) i (by simpa using h)
    rw [show k + 1 + i = k + (i + 1) by omega] at this
    exact this
  | some a :: t, k, 0, h => by
    have h1 : a = v := by simpa using h
    subst h1
    exact List.mem_cons_self
  | some a :: t, k, i + 1, h => by
    have := gAsc_mem (E := E) t (k + 1) i (by simpa using h)
    rw [show k + 1 + i = k + (i + 1) by omega] at this
    exact List.mem_cons_of_mem _ this
theorem gLd {E : gE} {v : gV} {L : List (Option gV)} {ls : Array Slot} {n i : Nat} (h : lv_has ls n (gAsc E 0 L)) (hi : L[i]? = some (some v)) : ls[i]? = some (.val (gc E v)) := by
  have h1 := h.2.2 _ (gAsc_mem L 0 i hi)
  rw [Nat.zero_add] at h1
  exact h1
theorem gAsc_in {E : gE} {x : Nat × Value} : ∀ (L : List (Option gV)) (k : Nat), x ∈ gAsc E k L → ∃ (i : Nat) (v : gV), L[i]? = some (some v) ∧ x = (k + i, gc E v)
  | [], k, h => by simp [gAsc] at h
  | none :: t, k, h => by
    obtain ⟨i, v, h1, h2⟩ := gAsc_in t (k + 1) h
    exact ⟨i + 1, v, by simpa using h1, by rw [h2, show k + 1 + i = k + (i + 1) by omega]⟩
  | some a :: t, k, h => by
    rcases List.mem_cons.mp h with h | h
    · exact ⟨0, a, by simp, by rw [h]; rfl⟩
    · obtain ⟨i, v, h1, h2⟩ := gAsc_in t (k + 1) h
      exact ⟨i + 1, v, by simpa using h1, by rw [h2, show k + 1 + i = k + (i + 1) by omega]⟩
/-- fewer locals known -/
theorem gAsc_le {E : gE} {L L' : List (Option gV)} {ls : Array Slot} (h : lv_has ls L.length (gAsc E 0 L)) (hn : L'.length = L.length) (hl : ∀ (i : Nat) (v : gV), L'[i]? = some (some v) → L[i]? = some (some v)) : lv_has ls L'.length (gAsc E 0 L') := by
  refine ⟨by rw [hn]; exact h.1, h.2.1, fun q hq => ?_⟩
  obtain ⟨i, v, h1, h2⟩ := gAsc_in L' 0 hq
  have h3 := gLd h (hl i v h1)
  rw [h2, Nat.zero_add]
  exact h3
/-- a store of one slot: the value before it isn't one of two slots -/
def gC1 (o : Option gV) : Bool := match o with
  | some (.inl (.long _)) => false
  | some (.inl (.double _)) => false
  | _ => true
theorem gC1_cat {E : gE} {v : gV} (h : gC1 (some v) = true) : (gc E v).category = 1 := by
  cases v with
  | inr q => rfl
  | inl x => cases x <;> first | rfl | cases h
def gPr (L : List (Option gV)) : Nat → Prop
  | 0 => True
  | j + 1 => gC1 (L[j]?.join) = true
theorem gSt1 {E : gE} {L : List (Option gV)} {ls' : Array Slot} {i : Nat} {v : gV} (h : lv_has ls' L.length ((i, gc E v) :: (gAsc E 0 L).filter (fun q => !(q.1 == i) && !(q.1 + 1 == i && q.2.category == 2)))) (hp : gPr L i) : lv_has ls' (L.set i (some v)).length (gAsc E 0 (L.set i (some v))) := by
  refine ⟨by rw [List.length_set]; exact h.1, h.2.1, fun q hq => ?_⟩
  obtain ⟨j, w, h1, h2⟩ := gAsc_in _ 0 hq
  rw [Nat.zero_add] at h2
  subst h2
  by_cases hj : i = j
  · subst hj
    have hl : i < L.length := by
      have := (List.getElem?_eq_some_iff.mp h1).1
      rwa [List.length_set] at this
    rw [List.getElem?_set_self hl] at h1
    have : v = w := Option.some.inj (Option.some.inj h1)
    subst this
    exact h.2.2 _ List.mem_cons_self
  · rw [List.getElem?_set_ne hj] at h1
    refine h.2.2 _ (List.mem_cons_of_mem _ (List.mem_filter.mpr ⟨?_, ?_⟩))
    · have := gAsc_mem (E := E) L 0 j h1
      rw [Nat.zero_add] at this
      exact this
    · show (!(j == i) && !(j + 1 == i && (gc E w).category == 2)) = true
      have e1 : (j == i) = false := by simpa using fun q => hj q.symm
      rw [e1]
      by_cases hji : j + 1 = i
      · subst hji
        have h3 : gC1 (L[j]?.join) = true := hp
        rw [h1] at h3
        have h4 : (gc E w).category = 1 := gC1_cat h3
        rw [h4]
        simp
      · simp [hji]
section GR
variable {X : gM} {E : gE} {M : gMt} {D n cells slots pc : Nat} {L : List (Option gV)} {st : List gV} {σ : gS}
theorem gWX.sub {L' : List (Option gV)} (hn : L'.length = L.length) (hl : ∀ (i : Nat) (v : gV), L'[i]? = some (some v) → L[i]? = some (some v)) (k : gWX X E cells slots pc L' st σ) : gWX X E cells slots pc L st σ :=
  fun H locs ls hP hS hl' => k H locs ls hP hS (gAsc_le hl' hn hl)
theorem gWX.le {c' s' : Nat} (h1 : cells ≤ c') (h2 : slots ≤ s') (k : gWX X E c' s' pc L st σ) : gWX X E cells slots pc L st σ :=
  fun H locs ls hP hS hl => W.widen h1 h2 (k H locs ls hP hS hl)
theorem gWX.eq {σ' : gS} (h : σ = σ') (k : gWX X E cells slots pc L st σ') : gWX X E cells slots pc L st σ := h ▸ k

theorem x_iload_0 (K : gK X E M D n) {v : Int32} {t : List (Option gV)} (d : decode M.2.1 pc = .ok (.iload_n 0, 1)) (k : gWX X E cells slots (pc + 1) (some (.inl (.int v)) :: t) (.inl (.int v) :: st) σ) : gWX X E cells slots pc (some (.inl (.int v)) :: t) st σ :=
  fun H locs ls hP hS hl => lv_iload_n K.1 K.2.1 d rfl (gLd (i := 0) hl rfl) (k H locs ls hP hS hl)
theorem x_istore_0 (K : gK X E M D n) {x : Option gV} {v : Int32} {t : List (Option gV)} (d : decode M.2.1 pc = .ok (.istore_n 0, 1)) (k : gWX X E cells slots (pc + 1) (some (.inl (.int v)) :: t) st σ) : gWX X E cells slots pc (x :: t) (.inl (.int v) :: st) σ :=
  fun H locs ls hP hS hl => lv_istore_n K.1 K.2.1 d rfl hl (by simp only [List.length_cons]; show 0 < _; omega) rfl (fun ls' hl' => k H locs ls' hP hS (gSt1 (E := E) (L := x :: t) (i := 0) (v := .inl (.int v)) hl' True.intro))
theorem x_aload_0 (K : gK X E M D n) {q : Nat × Nat} {t : List (Option gV)} (d : decode M.2.1 pc = .ok (.aload_n 0, 1)) (k : gWX X E cells slots (pc + 1) (some (.inr q) :: t) (.inr q :: st) σ) : gWX X E cells slots pc (some (.inr q) :: t) st σ :=
  fun H locs ls hP hS hl => lv_aload_n K.1 K.2.1 d rfl (gLd (i := 0) hl rfl) (k H locs ls hP hS hl)
theorem x_aloadc_0 (K : gK X E M D n) {q : Nat} {t : List (Option gV)} (d : decode M.2.1 pc = .ok (.aload_n 0, 1)) (k : gWX X E cells slots (pc + 1) (some (.inl (.ref q)) :: t) (.inl (.ref q) :: st) σ) : gWX X E cells slots pc (some (.inl (.ref q)) :: t) st σ :=
  fun H locs ls hP hS hl => lv_aload_n K.1 K.2.1 d rfl (gLd (i := 0) hl rfl) (k H locs ls hP hS hl)
theorem x_astore_0 (K : gK X E M D n) {x : Option gV} {q : Nat × Nat} {t : List (Option gV)} (d : decode M.2.1 pc = .ok (.astore_n 0, 1)) (k : gWX X E cells slots (pc + 1) (some (.inr q) :: t) st σ) : gWX X E cells slots pc (x :: t) (.inr q :: st) σ :=
  fun H locs ls hP hS hl => lv_astore_n K.1 K.2.1 d rfl hl (by simp only [List.length_cons]; show 0 < _; omega) rfl (fun ls' hl' => k H locs ls' hP hS (gSt1 (E := E) (L := x :: t) (i := 0) (v := .inr q) hl' True.intro))
theorem x_astorec_0 (K : gK X E M D n) {x : Option gV} {q : Nat} {t : List (Option gV)} (d : decode M.2.1 pc = .ok (.astore_n 0, 1)) (k : gWX X E cells slots (pc + 1) (some (.inl (.ref q)) :: t) st σ) : gWX X E cells slots pc (x :: t) (.inl (.ref q) :: st) σ :=
  fun H locs ls hP hS hl => lv_astore_n K.1 K.2.1 d rfl hl (by simp only [List.length_cons]; show 0 < _; omega) rfl (fun ls' hl' => k H locs ls' hP hS (gSt1 (E := E) (L := x :: t) (i := 0) (v := .inl (.ref q)) hl' True.intro))
theorem x_iinc_0 (K : gK X E M D n) {z n : Int} {t : List (Option gV)} (d : decode M.2.1 pc = .ok (.iinc 0 n, 3)) (k : gWX X E cells slots (pc + 3) (some (iv (z + n)) :: t) st σ) : gWX X E cells slots pc (some (iv z) :: t) st σ := fun H locs ls hP hS hl => by
  obtain ⟨k0, hk0⟩ := List.getElem?_of_mem (gAsc_mem (E := E) (some (iv z) :: t) 0 0 rfl)
  exact lv_iinc K.1 K.2.1 d hl (k := k0) hk0 (v := Int32.ofInt (z + n)) (by rw [Int32.ofInt_add]) (by simp) rfl (fun ls' hl' => k H locs ls' hP hS (gSt1 (E := E) (L := some (iv z) :: t) (i := 0) (v := iv (z + n)) hl' True.intro))
theorem x_iload_1 (K : gK X E M D n) {a0 : Option gV} {v : Int32} {t : List (Option gV)} (d : decode M.2.1 pc = .ok (.iload_n 1, 1)) (k : gWX X E cells slots (pc + 1) (a0 :: some (.inl (.int v)) :: t) (.inl (.int v) :: st) σ) : gWX X E cells slots pc (a0 :: some (.inl (.int v)) :: t) st σ :=
  fun H locs ls hP hS hl => lv_iload_n K.1 K.2.1 d rfl (gLd (i := 1) hl rfl) (k H locs ls hP hS hl)
theorem x_istore_1 (K : gK X E M D n) {a0 x : Option gV} {v : Int32} {t : List (Option gV)} (d : decode M.2.1 pc = .ok (.istore_n 1, 1)) (h1 : gC1 a0 = true) (k : gWX X E cells slots (pc + 1) (a0 :: some (.inl (.int v)) :: t) st σ) : gWX X E cells slots pc (a0 :: x :: t) (.inl (.int v) :: st) σ :=
  fun H locs ls hP hS hl => lv_istore_n K.1 K.2.1 d rfl hl (by simp only [List.length_cons]; show 1 < _; omega) rfl (fun ls' hl' => k H locs ls' hP hS (gSt1 (E := E) (L := a0 :: x :: t) (i := 1) (v := .inl (.int v)) hl' h1))
theorem x_aload_1 (K : gK X E M D n) {a0 : Option gV} {q : Nat × Nat} {t : List (Option gV)} (d : decode M.2.1 pc = .ok (.aload_n 1, 1)) (k : gWX X E cells slots (pc + 1) (a0 :: some (.inr q) :: t) (.inr q :: st) σ) : gWX X E cells slots pc (a0 :: some (.inr q) :: t) st σ :=
  fun H locs ls hP hS hl => lv_aload_n K.1 K.2.1 d rfl (gLd (i := 1) hl rfl) (k H locs ls hP hS hl)
theorem x_aloadc_1 (K : gK X E M D n) {a0 : Option gV} {q : Nat} {t : List (Option gV)} (d : decode M.2.1 pc = .ok (.aload_n 1, 1)) (k : gWX X E cells slots (pc + 1) (a0 :: some (.inl (.ref q)) :: t) (.inl (.ref q) :: st) σ) : gWX X E cells slots pc (a0 :: some (.inl (.ref q)) :: t) st σ :=
  fun H locs ls hP hS hl => lv_aload_n K.1 K.2.1 d rfl (gLd (i := 1) hl rfl) (k H locs ls hP hS hl)
theorem x_astore_1 (K : gK X E M D n) {a0 x : Option gV} {q : Nat × Nat} {t : List (Option gV)} (d : decode M.2.1 pc = .ok (.astore_n 1, 1)) (h1 : gC1 a0 = true) (k : gWX X E cells slots (pc + 1) (a0 :: some (.inr q) :: t) st σ) : gWX X E cells slots pc (a0 :: x :: t) (.inr q :: st) σ :=
  fun H locs ls hP hS hl => lv_astore_n K.1 K.2.1 d rfl hl (by simp only [List.length_cons]; show 1 < _; omega) rfl (fun ls' hl' => k H locs ls' hP hS (gSt1 (E := E) (L := a0 :: x :: t) (i := 1) (v := .inr q) hl' h1))
theorem x_astorec_1 (K : gK X E M D n) {a0 x : Option gV} {q : Nat} {t : List (Option gV)} (d : decode M.2.1 pc = .ok (.astore_n 1, 1)) (h1 : gC1 a0 = true) (k : gWX X E cells slots (pc + 1) (a0 :: some (.inl (.ref q)) :: t) st σ) : gWX X E cells slots pc (a0 :: x :: t) (.inl (.ref q) :: st) σ :=
  fun H locs ls hP hS hl => lv_astore_n K.1 K.2.1 d rfl hl (by simp only [List.length_cons]; show 1 < _; omega) rfl (fun ls' hl' => k H locs ls' hP hS (gSt1 (E := E) (L := a0 :: x :: t) (i := 1) (v := .inl (.ref q)) hl' h1))
theorem x_iinc_1 (K : gK X E M D n) {a0 : Option gV} {z n : Int} {t : List (Option gV)} (d : decode M.2.1 pc = .ok (.iinc 1 n, 3)) (h1 : gC1 a0 = true) (k : gWX X E cells slots (pc + 3) (a0 :: some (iv (z + n)) :: t) st σ) : gWX X E cells slots pc (a0 :: some (iv z) :: t) st σ := fun H locs ls hP hS hl => by
  obtain ⟨k0, hk0⟩ := List.getElem?_of_mem (gAsc_mem (E := E) (a0 :: some (iv z) :: t) 0 1 rfl)
  exact lv_iinc K.1 K.2.1 d hl (k := k0) hk0 (v := Int32.ofInt (z + n)) (by rw [Int32.ofInt_add]) (by simp) rfl (fun ls' hl' => k H locs ls' hP hS (gSt1 (E := E) (L := a0 :: some (iv z) :: t) (i := 1) (v := iv (z + n)) hl' h1))
theorem x_iload_2 (K : gK X E M D n) {a0 a1 : Option gV} {v : Int32} {t : List (Option gV)} (d : decode M.2.1 pc = .ok (.iload_n 2, 1)) (k : gWX X E cells slots (pc + 1) (a0 :: a1 :: some (.inl (.int v)) :: t) (.inl (.int v) :: st) σ) : gWX X E cells slots pc (a0 :: a1 :: some (.inl (.int v)) :: t) st σ :=
  fun H locs ls hP hS hl => lv_iload_n K.1 K.2.1 d rfl (gLd (i := 2) hl rfl) (k H locs ls hP hS hl)
theorem x_istore_2 (K : gK X E M D n) {a0 a1 x : Option gV} {v : Int32} {t : List (Option gV)} (d : decode M.2.1 pc = .ok (.istore_n 2, 1)) (h1 : gC1 a1 = true) (k : gWX X E cells slots (pc + 1) (a0 :: a1 :: some (.inl (.int v)) :: t) st σ) : gWX X E cells slots pc (a0 :: a1 :: x :: t) (.inl (.int v) :: st) σ :=
  fun H locs ls hP hS hl => lv_istore_n K.1 K.2.1 d rfl hl (by simp only [List.length_cons]; show 2 < _; omega) rfl (fun ls' hl' => k H locs ls' hP hS (gSt1 (E := E) (L := a0 :: a1 :: x :: t) (i := 2) (v := .inl (.int v)) hl' h1))
theorem x_aload_2 (K : gK X E M D n) {a0 a1 : Option gV} {q : Nat × Nat} {t : List (Option gV)} (d : decode M.2.1 pc = .ok (.aload_n 2, 1)) (k : gWX X E cells slots (pc + 1) (a0 :: a1 :: some (.inr q) :: t) (.inr q :: st) σ) : gWX X E cells slots pc (a0 :: a1 :: some (.inr q) :: t) st σ :=
  fun H locs ls hP hS hl => lv_aload_n K.1 K.2.1 d rfl (gLd (i := 2) hl rfl) (k H locs ls hP hS hl)
theorem x_aloadc_2 (K : gK X E M D n) {a0 a1 : Option gV} {q : Nat} {t : List (Option gV)} (d : decode M.2.1 pc = .ok (.aload_n 2, 1)) (k : gWX X E cells slots (pc + 1) (a0 :: a1 :: some (.inl (.ref q)) :: t) (.inl (.ref q) :: st) σ) : gWX X E cells slots pc (a0 :: a1 :: some (.inl (.ref q)) :: t) st σ :=
  fun H locs ls hP hS hl => lv_aload_n K.1 K.2.1 d rfl (gLd (i := 2) hl rfl) (k H locs ls hP hS hl)
theorem x_astore_2 (K : gK X E M D n) {a0 a1 x : Option gV} {q : Nat × Nat} {t : List (Option gV)} (d : decode M.2.1 pc = .ok (.astore_n 2, 1)) (h1 : gC1 a1 = true) (k : gWX X E cells slots (pc + 1) (a0 :: a1 :: some (.inr q) :: t) st σ) : gWX X E cells slots pc (a0 :: a1 :: x :: t) (.inr q :: st) σ :=
  fun H locs ls hP hS hl => lv_astore_n K.1 K.2.1 d rfl hl (by simp only [List.length_cons]; show 2 < _; omega) rfl (fun ls' hl' => k H locs ls' hP hS (gSt1 (E := E) (L := a0 :: a1 :: x :: t) (i := 2) (v := .inr q) hl' h1))
theorem x_astorec_2 (K : gK X E M D n) {a0 a1 x : Option gV} {q : Nat} {t : List (Option gV)} (d : decode M.2.1 pc = .ok (.astore_n 2, 1)) (h1 : gC1 a1 = true) (k : gWX X E cells slots (pc + 1) (a0 :: a1 :: some (.inl (.ref q)) :: t) st σ) : gWX X E cells slots pc (a0 :: a1 :: x :: t) (.inl (.ref q) :: st) σ :=
  fun H locs ls hP hS hl => lv_astore_n K.1 K.2.1 d rfl hl (by simp only [List.length_cons]; show 2 < _; omega) rfl (fun ls' hl' => k H locs ls' hP hS (gSt1 (E := E) (L := a0 :: a1 :: x :: t) (i := 2) (v := .inl (.ref q)) hl' h1))
theorem x_iinc_2 (K : gK X E M D n) {a0 a1 : Option gV} {z n : Int} {t : List (Option gV)} (d : decode M.2.1 pc = .ok (.iinc 2 n, 3)) (h1 : gC1 a1 = true) (k : gWX X E cells slots (pc + 3) (a0 :: a1 :: some (iv (z + n)) :: t) st σ) : gWX X E cells slots pc (a0 :: a1 :: some (iv z) :: t) st σ := fun H locs ls hP hS hl => by
  obtain ⟨k0, hk0⟩ := List.getElem?_of_mem (gAsc_mem (E := E) (a0 :: a1 :: some (iv z) :: t) 0 2 rfl)
  exact lv_iinc K.1 K.2.1 d hl (k := k0) hk0 (v := Int32.ofInt (z + n)) (by rw [Int32.ofInt_add]) (by simp) rfl (fun ls' hl' => k H locs ls' hP hS (gSt1 (E := E) (L := a0 :: a1 :: some (iv z) :: t) (i := 2) (v := iv (z + n)) hl' h1))
theorem x_iload_3 (K : gK X E M D n) {a0 a1 a2 : Option gV} {v : Int32} {t : List (Option gV)} (d : decode M.2.1 pc = .ok (.iload_n 3, 1)) (k : gWX X E cells slots (pc + 1) (a0 :: a1 :: a2 :: some (.inl (.int v)) :: t) (.inl (.int v) :: st) σ) : gWX X E cells slots pc (a0 :: a1 :: a2 :: some (.inl (.int v)) :: t) st σ :=
  fun H locs ls hP hS hl => lv_iload_n K.1 K.2.1 d rfl (gLd (i := 3) hl rfl) (k H locs ls hP hS hl)
theorem x_istore_3 (K : gK X E M D n) {a0 a1 a2 x : Option gV} {v : Int32} {t : List (Option gV)} (d : decode M.2.1 pc = .ok (.istore_n 3, 1)) (h1 : gC1 a2 = true) (k : gWX X E cells slots (pc + 1) (a0 :: a1 :: a2 :: some (.inl (.int v)) :: t) st σ) : gWX X E cells slots pc (a0 :: a1 :: a2 :: x :: t) (.inl (.int v) :: st) σ :=
  fun H locs ls hP hS hl => lv_istore_n K.1 K.2.1 d rfl hl (by simp only [List.length_cons]; show 3 < _; omega) rfl (fun ls' hl' => k H locs ls' hP hS (gSt1 (E := E) (L := a0 :: a1 :: a2 :: x :: t) (i := 3) (v := .inl (.int v)) hl' h1))
theorem x_aload_3 (K : gK X E M D n) {a0 a1 a2 : Option gV} {q : Nat × Nat} {t : List (Option gV)} (d : decode M.2.1 pc = .ok (.aload_n 3, 1)) (k : gWX X E cells slots (pc + 1) (a0 :: a1 :: a2 :: some (.inr q) :: t) (.inr q :: st) σ) : gWX X E cells slots pc (a0 :: a1 :: a2 :: some (.inr q) :: t) st σ :=
  fun H locs ls hP hS hl => lv_aload_n K.1 K.2.1 d rfl (gLd (i := 3) hl rfl) (k H locs ls hP hS hl)
theorem x_aloadc_3 (K : gK X E M D n) {a0 a1 a2 : Option gV} {q : Nat} {t : List (Option gV)} (d : decode M.2.1 pc = .ok (.aload_n 3, 1)) (k : gWX X E cells slots (pc + 1) (a0 :: a1 :: a2 :: some (.inl (.ref q)) :: t) (.inl (.ref q) :: st) σ) : gWX X E cells slots pc (a0 :: a1 :: a2 :: some (.inl (.ref q)) :: t) st σ :=
  fun H locs ls hP hS hl => lv_aload_n K.1 K.2.1 d rfl (gLd (i := 3) hl rfl) (k H locs ls hP hS hl)
theorem x_astore_3 (K : gK X E M D n) {a0 a1 a2 x : Option gV} {q : Nat × Nat} {t : List (Option gV)} (d : decode M.2.1 pc = .ok (.astore_n 3, 1)) (h1 : gC1 a2 = true) (k : gWX X E cells slots (pc + 1) (a0 :: a1 :: a2 :: some (.inr q) :: t) st σ) : gWX X E cells slots pc (a0 :: a1 :: a2 :: x :: t) (.inr q :: st) σ :=
  fun H locs ls hP hS hl => lv_astore_n K.1 K.2.1 d rfl hl (by simp only [List.length_cons]; show 3 < _; omega) rfl (fun ls' hl' => k H locs ls' hP hS (gSt1 (E := E) (L := a0 :: a1 :: a2 :: x :: t) (i := 3) (v := .inr q) hl' h1))
theorem x_astorec_3 (K : gK X E M D n) {a0 a1 a2 x : Option gV} {q : Nat} {t : List (Option gV)} (d : decode M.2.1 pc = .ok (.astore_n 3, 1)) (h1 : gC1 a2 = true) (k : gWX X E cells slots (pc + 1) (a0 :: a1 :: a2 :: some (.inl (.ref q)) :: t) st σ) : gWX X E cells slots pc (a0 :: a1 :: a2 :: x :: t) (.inl (.ref q) :: st) σ :=
  fun H locs ls hP hS hl => lv_astore_n K.1 K.2.1 d rfl hl (by simp only [List.length_cons]; show 3 < _; omega) rfl (fun ls' hl' => k H locs ls' hP hS (gSt1 (E := E) (L := a0 :: a1 :: a2 :: x :: t) (i := 3) (v := .inl (.ref q)) hl' h1))
theorem x_iinc_3 (K : gK X E M D n) {a0 a1 a2 : Option gV} {z n : Int} {t : List (Option gV)} (d : decode M.2.1 pc = .ok (.iinc 3 n, 3)) (h1 : gC1 a2 = true) (k : gWX X E cells slots (pc + 3) (a0 :: a1 :: a2 :: some (iv (z + n)) :: t) st σ) : gWX X E cells slots pc (a0 :: a1 :: a2 :: some (iv z) :: t) st σ := fun H locs ls hP hS hl => by
  obtain ⟨k0, hk0⟩ := List.getElem?_of_mem (gAsc_mem (E := E) (a0 :: a1 :: a2 :: some (iv z) :: t) 0 3 rfl)
  exact lv_iinc K.1 K.2.1 d hl (k := k0) hk0 (v := Int32.ofInt (z + n)) (by rw [Int32.ofInt_add]) (by simp) rfl (fun ls' hl' => k H locs ls' hP hS (gSt1 (E := E) (L := a0 :: a1 :: a2 :: some (iv z) :: t) (i := 3) (v := iv (z + n)) hl' h1))
theorem x_iload_4 (K : gK X E M D n) {a0 a1 a2 a3 : Option gV} {v : Int32} {t : List (Option gV)} (d : decode M.2.1 pc = .ok (.iload 4, 2)) (k : gWX X E cells slots (pc + 2) (a0 :: a1 :: a2 :: a3 :: some (.inl (.int v)) :: t) (.inl (.int v) :: st) σ) : gWX X E cells slots pc (a0 :: a1 :: a2 :: a3 :: some (.inl (.int v)) :: t) st σ :=
  fun H locs ls hP hS hl => lv_iload K.1 K.2.1 d (gLd (i := 4) hl rfl) (k H locs ls hP hS hl)
theorem x_istore_4 (K : gK X E M D n) {a0 a1 a2 a3 x : Option gV} {v : Int32} {t : List (Option gV)} (d : decode M.2.1 pc = .ok (.istore 4, 2)) (h1 : gC1 a3 = true) (k : gWX X E cells slots (pc + 2) (a0 :: a1 :: a2 :: a3 :: some (.inl (.int v)) :: t) st σ) : gWX X E cells slots pc (a0 :: a1 :: a2 :: a3 :: x :: t) (.inl (.int v) :: st) σ :=
  fun H locs ls hP hS hl => lv_istore K.1 K.2.1 d hl (by simp only [List.length_cons]; show 4 < _; omega) rfl (fun ls' hl' => k H locs ls' hP hS (gSt1 (E := E) (L := a0 :: a1 :: a2 :: a3 :: x :: t) (i := 4) (v := .inl (.int v)) hl' h1))
theorem x_aload_4 (K : gK X E M D n) {a0 a1 a2 a3 : Option gV} {q : Nat × Nat} {t : List (Option gV)} (d : decode M.2.1 pc = .ok (.aload 4, 2)) (k : gWX X E cells slots (pc + 2) (a0 :: a1 :: a2 :: a3 :: some (.inr q) :: t) (.inr q :: st) σ) : gWX X E cells slots pc (a0 :: a1 :: a2 :: a3 :: some (.inr q) :: t) st σ :=
  fun H locs ls hP hS hl => lv_aload K.1 K.2.1 d (gLd (i := 4) hl rfl) (k H locs ls hP hS hl)
theorem x_aloadc_4 (K : gK X E M D n) {a0 a1 a2 a3 : Option gV} {q : Nat} {t : List (Option gV)} (d : decode M.2.1 pc = .ok (.aload 4, 2)) (k : gWX X E cells slots (pc + 2) (a0 :: a1 :: a2 :: a3 :: some (.inl (.ref q)) :: t) (.inl (.ref q) :: st) σ) : gWX X E cells slots pc (a0 :: a1 :: a2 :: a3 :: some (.inl (.ref q)) :: t) st σ :=
  fun H locs ls hP hS hl => lv_aload K.1 K.2.1 d (gLd (i := 4) hl rfl) (k H locs ls hP hS hl)
theorem x_astore_4 (K : gK X E M D n) {a0 a1 a2 a3 x : Option gV} {q : Nat × Nat} {t : List (Option gV)} (d : decode M.2.1 pc = .ok (.astore 4, 2)) (h1 : gC1 a3 = true) (k : gWX X E cells slots (pc + 2) (a0 :: a1 :: a2 :: a3 :: some (.inr q) :: t) st σ) : gWX X E cells slots pc (a0 :: a1 :: a2 :: a3 :: x :: t) (.inr q :: st) σ :=
  fun H locs ls hP hS hl => lv_astore K.1 K.2.1 d hl (by simp only [List.length_cons]; show 4 < _; omega) rfl (fun ls' hl' => k H locs ls' hP hS (gSt1 (E := E) (L := a0 :: a1 :: a2 :: a3 :: x :: t) (i := 4) (v := .inr q) hl' h1))
theorem x_astorec_4 (K : gK X E M D n) {a0 a1 a2 a3 x : Option gV} {q : Nat} {t : List (Option gV)} (d : decode M.2.1 pc = .ok (.astore 4, 2)) (h1 : gC1 a3 = true) (k : gWX X E cells slots (pc + 2) (a0 :: a1 :: a2 :: a3 :: some (.inl (.ref q)) :: t) st σ) : gWX X E cells slots pc (a0 :: a1 :: a2 :: a3 :: x :: t) (.inl (.ref q) :: st) σ :=
  fun H locs ls hP hS hl => lv_astore K.1 K.2.1 d hl (by simp only [List.length_cons]; show 4 < _; omega) rfl (fun ls' hl' => k H locs ls' hP hS (gSt1 (E := E) (L := a0 :: a1 :: a2 :: a3 :: x :: t) (i := 4) (v := .inl (.ref q)) hl' h1))
theorem x_iinc_4 (K : gK X E M D n) {a0 a1 a2 a3 : Option gV} {z n : Int} {t : List (Option gV)} (d : decode M.2.1 pc = .ok (.iinc 4 n, 3)) (h1 : gC1 a3 = true) (k : gWX X E cells slots (pc + 3) (a0 :: a1 :: a2 :: a3 :: some (iv (z + n)) :: t) st σ) : gWX X E cells slots pc (a0 :: a1 :: a2 :: a3 :: some (iv z) :: t) st σ := fun H locs ls hP hS hl => by
  obtain ⟨k0, hk0⟩ := List.getElem?_of_mem (gAsc_mem (E := E) (a0 :: a1 :: a2 :: a3 :: some (iv z) :: t) 0 4 rfl)
  exact lv_iinc K.1 K.2.1 d hl (k := k0) hk0 (v := Int32.ofInt (z + n)) (by rw [Int32.ofInt_add]) (by simp) rfl (fun ls' hl' => k H locs ls' hP hS (gSt1 (E := E) (L := a0 :: a1 :: a2 :: a3 :: some (iv z) :: t) (i := 4) (v := iv (z + n)) hl' h1))
theorem x_iload_5 (K : gK X E M D n) {a0 a1 a2 a3 a4 : Option gV} {v : Int32} {t : List (Option gV)} (d : decode M.2.1 pc = .ok (.iload 5, 2)) (k : gWX X E cells slots (pc + 2) (a0 :: a1 :: a2 :: a3 :: a4 :: some (.inl (.int v)) :: t) (.inl (.int v) :: st) σ) : gWX X E cells slots pc (a0 :: a1 :: a2 :: a3 :: a4 :: some (.inl (.int v)) :: t) st σ :=
  fun H locs ls hP hS hl => lv_iload K.1 K.2.1 d (gLd (i := 5) hl rfl) (k H locs ls hP hS hl)
theorem x_istore_5 (K : gK X E M D n) {a0 a1 a2 a3 a4 x : Option gV} {v : Int32} {t : List (Option gV)} (d : decode M.2.1 pc = .ok (.istore 5, 2)) (h1 : gC1 a4 = true) (k : gWX X E cells slots (pc + 2) (a0 :: a1 :: a2 :: a3 :: a4 :: some (.inl (.int v)) :: t) st σ) : gWX X E cells slots pc (a0 :: a1 :: a2 :: a3 :: a4 :: x :: t) (.inl (.int v) :: st) σ :=
  fun H locs ls hP hS hl => lv_istore K.1 K.2.1 d hl (by simp only [List.length_cons]; show 5 < _; omega) rfl (fun ls' hl' => k H locs ls' hP hS (gSt1 (E := E) (L := a0 :: a1 :: a2 :: a3 :: a4 :: x :: t) (i := 5) (v := .inl (.int v)) hl' h1))
theorem x_aload_5 (K : gK X E M D n) {a0 a1 a2 a3 a4 : Option gV} {q : Nat × Nat} {t : List (Option gV)} (d : decode M.2.1 pc = .ok (.aload 5, 2)) (k : gWX X E cells slots (pc + 2) (a0 :: a1 :: a2 :: a3 :: a4 :: some (.inr q) :: t) (.inr q :: st) σ) : gWX X E cells slots pc (a0 :: a1 :: a2 :: a3 :: a4 :: some (.inr q) :: t) st σ :=
  fun H locs ls hP hS hl => lv_aload K.1 K.2.1 d (gLd (i := 5) hl rfl) (k H locs ls hP hS hl)
theorem x_aloadc_5 (K : gK X E M D n) {a0 a1 a2 a3 a4 : Option gV} {q : Nat} {t : List (Option gV)} (d : decode M.2.1 pc = .ok (.aload 5, 2)) (k : gWX X E cells slots (pc + 2) (a0 :: a1 :: a2 :: a3 :: a4 :: some (.inl (.ref q)) :: t) (.inl (.ref q) :: st) σ) : gWX X E cells slots pc (a0 :: a1 :: a2 :: a3 :: a4 :: some (.inl (.ref q)) :: t) st σ :=
  fun H locs ls hP hS hl => lv_aload K.1 K.2.1 d (gLd (i := 5) hl rfl) (k H locs ls hP hS hl)
theorem x_astore_5 (K : gK X E M D n) {a0 a1 a2 a3 a4 x : Option gV} {q : Nat × Nat} {t : List (Option gV)} (d : decode M.2.1 pc = .ok (.astore 5, 2)) (h1 : gC1 a4 = true) (k : gWX X E cells slots (pc + 2) (a0 :: a1 :: a2 :: a3 :: a4 :: some (.inr q) :: t) st σ) : gWX X E cells slots pc (a0 :: a1 :: a2 :: a3 :: a4 :: x :: t) (.inr q :: st) σ :=
  fun H locs ls hP hS hl => lv_astore K.1 K.2.1 d hl (by simp only [List.length_cons]; show 5 < _; omega) rfl (fun ls' hl' => k H locs ls' hP hS (gSt1 (E := E) (L := a0 :: a1 :: a2 :: a3 :: a4 :: x :: t) (i := 5) (v := .inr q) hl' h1))
theorem x_astorec_5 (K : gK X E M D n) {a0 a1 a2 a3 a4 x : Option gV} {q : Nat} {t : List (Option gV)} (d : decode M.2.1 pc = .ok (.astore 5, 2)) (h1 : gC1 a4 = true) (k : gWX X E cells slots (pc + 2) (a0 :: a1 :: a2 :: a3 :: a4 :: some (.inl (.ref q)) :: t) st σ) : gWX X E cells slots pc (a0 :: a1 :: a2 :: a3 :: a4 :: x :: t) (.inl (.ref q) :: st) σ :=
  fun H locs ls hP hS hl => lv_astore K.1 K.2.1 d hl (by simp only [List.length_cons]; show 5 < _; omega) rfl (fun ls' hl' => k H locs ls' hP hS (gSt1 (E := E) (L := a0 :: a1 :: a2 :: a3 :: a4 :: x :: t) (i := 5) (v := .inl (.ref q)) hl' h1))
theorem x_iinc_5 (K : gK X E M D n) {a0 a1 a2 a3 a4 : Option gV} {z n : Int} {t : List (Option gV)} (d : decode M.2.1 pc = .ok (.iinc 5 n, 3)) (h1 : gC1 a4 = true) (k : gWX X E cells slots (pc + 3) (a0 :: a1 :: a2 :: a3 :: a4 :: some (iv (z + n)) :: t) st σ) : gWX X E cells slots pc (a0 :: a1 :: a2 :: a3 :: a4 :: some (iv z) :: t) st σ := fun H locs ls hP hS hl => by
  obtain ⟨k0, hk0⟩ := List.getElem?_of_mem (gAsc_mem (E := E) (a0 :: a1 :: a2 :: a3 :: a4 :: some (iv z) :: t) 0 5 rfl)
  exact lv_iinc K.1 K.2.1 d hl (k := k0) hk0 (v := Int32.ofInt (z + n)) (by rw [Int32.ofInt_add]) (by simp) rfl (fun ls' hl' => k H locs ls' hP hS (gSt1 (E := E) (L := a0 :: a1 :: a2 :: a3 :: a4 :: some (iv z) :: t) (i := 5) (v := iv (z + n)) hl' h1))
theorem x_iload_6 (K : gK X E M D n) {a0 a1 a2 a3 a4 a5 : Option gV} {v : Int32} {t : List (Option gV)} (d : decode M.2.1 pc = .ok (.iload 6, 2)) (k : gWX X E cells slots (pc + 2) (a0 :: a1 :: a2 :: a3 :: a4 :: a5 :: some (.inl (.int v)) :: t) (.inl (.int v) :: st) σ) : gWX X E cells slots pc (a0 :: a1 :: a2 :: a3 :: a4 :: a5 :: some (.inl (.int v)) :: t) st σ :=
  fun H locs ls hP hS hl => lv_iload K.1 K.2.1 d (gLd (i := 6) hl rfl) (k H locs ls hP hS hl)
theorem x_istore_6 (K : gK X E M D n) {a0 a1 a2 a3 a4 a5 x : Option gV} {v : Int32} {t : List (Option gV)} (d : decode M.2.1 pc = .ok (.istore 6, 2)) (h1 : gC1 a5 = true) (k : gWX X E cells slots (pc + 2) (a0 :: a1 :: a2 :: a3 :: a4 :: a5 :: some (.inl (.int v)) :: t) st σ) : gWX X E cells slots pc (a0 :: a1 :: a2 :: a3 :: a4 :: a5 :: x :: t) (.inl (.int v) :: st) σ :=
  fun H locs ls hP hS hl => lv_istore K.1 K.2.1 d hl (by simp only [List.length_cons]; show 6 < _; omega) rfl (fun ls' hl' => k H locs ls' hP hS (gSt1 (E := E) (L := a0 :: a1 :: a2 :: a3 :: a4 :: a5 :: x :: t) (i := 6) (v := .inl (.int v)) hl' h1))
theorem x_aload_6 (K : gK X E M D n) {a0 a1 a2 a3 a4 a5 : Option gV} {q : Nat × Nat} {t : List (Option gV)} (d : decode M.2.1 pc = .ok (.aload 6, 2)) (k : gWX X E cells slots (pc + 2) (a0 :: a1 :: a2 :: a3 :: a4 :: a5 :: some (.inr q) :: t) (.inr q :: st) σ) : gWX X E cells slots pc (a0 :: a1 :: a2 :: a3 :: a4 :: a5 :: some (.inr q) :: t) st σ :=
  fun H locs ls hP hS hl => lv_aload K.1 K.2.1 d (gLd (i := 6) hl rfl) (k H locs ls hP hS hl)
theorem x_aloadc_6 (K : gK X E M D n) {a0 a1 a2 a3 a4 a5 : Option gV} {q : Nat} {t : List (Option gV)} (d : decode M.2.1 pc = .ok (.aload 6, 2)) (k : gWX X E cells slots (pc + 2) (a0 :: a1 :: a2 :: a3 :: a4 :: a5 :: some (.inl (.ref q)) :: t) (.inl (.ref q) :: st) σ) : gWX X E cells slots pc (a0 :: a1 :: a2 :: a3 :: a4 :: a5 :: some (.inl (.ref q)) :: t) st σ :=
  fun H locs ls hP hS hl => lv_aload K.1 K.2.1 d (gLd (i := 6) hl rfl) (k H locs ls hP hS hl)
theorem x_astore_6 (K : gK X E M D n) {a0 a1 a2 a3 a4 a5 x : Option gV} {q : Nat × Nat} {t : List (Option gV)} (d : decode M.2.1 pc = .ok (.astore 6, 2)) (h1 : gC1 a5 = true) (k : gWX X E cells slots (pc + 2) (a0 :: a1 :: a2 :: a3 :: a4 :: a5 :: some (.inr q) :: t) st σ) : gWX X E cells slots pc (a0 :: a1 :: a2 :: a3 :: a4 :: a5 :: x :: t) (.inr q :: st) σ :=
  fun H locs ls hP hS hl => lv_astore K.1 K.2.1 d hl (by simp only [List.length_cons]; show 6 < _; omega) rfl (fun ls' hl' => k H locs ls' hP hS (gSt1 (E := E) (L := a0 :: a1 :: a2 :: a3 :: a4 :: a5 :: x :: t) (i := 6) (v := .inr q) hl' h1))
theorem x_astorec_6 (K : gK X E M D n) {a0 a1 a2 a3 a4 a5 x : Option gV} {q : Nat} {t : List (Option gV)} (d : decode M.2.1 pc = .ok (.astore 6, 2)) (h1 : gC1 a5 = true) (k : gWX X E cells slots (pc + 2) (a0 :: a1 :: a2 :: a3 :: a4 :: a5 :: some (.inl (.ref q)) :: t) st σ) : gWX X E cells slots pc (a0 :: a1 :: a2 :: a3 :: a4 :: a5 :: x :: t) (.inl (.ref q) :: st) σ :=
  fun H locs ls hP hS hl => lv_astore K.1 K.2.1 d hl (by simp only [List.length_cons]; show 6 < _; omega) rfl (fun ls' hl' => k H locs ls' hP hS (gSt1 (E := E) (L := a0 :: a1 :: a2 :: a3 :: a4 :: a5 :: x :: t) (i := 6) (v := .inl (.ref q)) hl' h1))
theorem x_iinc_6 (K : gK X E M D n) {a0 a1 a2 a3 a4 a5 : Option gV} {z n : Int} {t : List (Option gV)} (d : decode M.2.1 pc = .ok (.iinc 6 n, 3)) (h1 : gC1 a5 = true) (k : gWX X E cells slots (pc + 3) (a0 :: a1 :: a2 :: a3 :: a4 :: a5 :: some (iv (z + n)) :: t) st σ) : gWX X E cells slots pc (a0 :: a1 :: a2 :: a3 :: a4 :: a5 :: some (iv z) :: t) st σ := fun H locs ls hP hS hl => by
  obtain ⟨k0, hk0⟩ := List.getElem?_of_mem (gAsc_mem (E := E) (a0 :: a1 :: a2 :: a3 :: a4 :: a5 :: some (iv z) :: t) 0 6 rfl)
  exact lv_iinc K.1 K.2.1 d hl (k := k0) hk0 (v := Int32.ofInt (z + n)) (by rw [Int32.ofInt_add]) (by simp) rfl (fun ls' hl' => k H locs ls' hP hS (gSt1 (E := E) (L := a0 :: a1 :: a2 :: a3 :: a4 :: a5 :: some (iv z) :: t) (i := 6) (v := iv (z + n)) hl' h1))
theorem x_iload_7 (K : gK X E M D n) {a0 a1 a2 a3 a4 a5 a6 : Option gV} {v : Int32} {t : List (Option gV)} (d : decode M.2.1 pc = .ok (.iload 7, 2)) (k : gWX X E cells slots (pc + 2) (a0 :: a1 :: a2 :: a3 :: a4 :: a5 :: a6 :: some (.inl (.int v)) :: t) (.inl (.int v) :: st) σ) : gWX X E cells slots pc (a0 :: a1 :: a2 :: a3 :: a4 :: a5 :: a6 :: some (.inl (.int v)) :: t) st σ :=
  fun H locs ls hP hS hl => lv_iload K.1 K.2.1 d (gLd (i := 7) hl rfl) (k H locs ls hP hS hl)
theorem x_istore_7 (K : gK X E M D n) {a0 a1 a2 a3 a4 a5 a6 x : Option gV} {v : Int32} {t : List (Option gV)} (d : decode M.2.1 pc = .ok (.istore 7, 2)) (h1 : gC1 a6 = true) (k : gWX X E cells slots (pc + 2) (a0 :: a1 :: a2 :: a3 :: a4 :: a5 :: a6 :: some (.inl (.int v)) :: t) st σ) : gWX X E cells slots pc (a0 :: a1 :: a2 :: a3 :: a4 :: a5 :: a6 :: x :: t) (.inl (.int v) :: st) σ :=
  fun H locs ls hP hS hl => lv_istore K.1 K.2.1 d hl (by simp only [List.length_cons]; show 7 < _; omega) rfl (fun ls' hl' => k H locs ls' hP hS (gSt1 (E := E) (L := a0 :: a1 :: a2 :: a3 :: a4 :: a5 :: a6 :: x :: t) (i := 7) (v := .inl (.int v)) hl' h1))
theorem x_aload_7 (K : gK X E M D n) {a0 a1 a2 a3 a4 a5 a6 : Option gV} {q : Nat × Nat} {t : List (Option gV)} (d : decode M.2.1 pc = .ok (.aload 7, 2)) (k : gWX X E cells slots (pc + 2) (a0 :: a1 :: a2 :: a3 :: a4 :: a5 :: a6 :: some (.inr q) :: t) (.inr q :: st) σ) : gWX X E cells slots pc (a0 :: a1 :: a2 :: a3 :: a4 :: a5 :: a6 :: some (.inr q) :: t) st σ :=
  fun H locs ls hP hS hl => lv_aload K.1 K.2.1 d (gLd (i := 7) hl rfl) (k H locs ls hP hS hl)
theorem x_aloadc_7 (K : gK X E M D n) {a0 a1 a2 a3 a4 a5 a6 : Option gV} {q : Nat} {t : List (Option gV)} (d : decode M.2.1 pc = .ok (.aload 7, 2)) (k : gWX X E cells slots (pc + 2) (a0 :: a1 :: a2 :: a3 :: a4 :: a5 :: a6 :: some (.inl (.ref q)) :: t) (.inl (.ref q) :: st) σ) : gWX X E cells slots pc (a0 :: a1 :: a2 :: a3 :: a4 :: a5 :: a6 :: some (.inl (.ref q)) :: t) st σ :=
  fun H locs ls hP hS hl => lv_aload K.1 K.2.1 d (gLd (i := 7) hl rfl) (k H locs ls hP hS hl)
theorem x_astore_7 (K : gK X E M D n) {a0 a1 a2 a3 a4 a5 a6 x : Option gV} {q : Nat × Nat} {t : List (Option gV)} (d : decode M.2.1 pc = .ok (.astore 7, 2)) (h1 : gC1 a6 = true) (k : gWX X E cells slots (pc + 2) (a0 :: a1 :: a2 :: a3 :: a4 :: a5 :: a6 :: some (.inr q) :: t) st σ) : gWX X E cells slots pc (a0 :: a1 :: a2 :: a3 :: a4 :: a5 :: a6 :: x :: t) (.inr q :: st) σ :=
  fun H locs ls hP hS hl => lv_astore K.1 K.2.1 d hl (by simp only [List.length_cons]; show 7 < _; omega) rfl (fun ls' hl' => k H locs ls' hP hS (gSt1 (E := E) (L := a0 :: a1 :: a2 :: a3 :: a4 :: a5 :: a6 :: x :: t) (i := 7) (v := .inr q) hl' h1))
theorem x_astorec_7 (K : gK X E M D n) {a0 a1 a2 a3 a4 a5 a6 x : Option gV} {q : Nat} {t : List (Option gV)} (d : decode M.2.1 pc = .ok (.astore 7, 2)) (h1 : gC1 a6 = true) (k : gWX X E cells slots (pc + 2) (a0 :: a1 :: a2 :: a3 :: a4 :: a5 :: a6 :: some (.inl (.ref q)) :: t) st σ) : gWX X E cells slots pc (a0 :: a1 :: a2 :: a3 :: a4 :: a5 :: a6 :: x :: t) (.inl (.ref q) :: st) σ :=
  fun H locs ls hP hS hl => lv_astore K.1 K.2.1 d hl (by simp only [List.length_cons]; show 7 < _; omega) rfl (fun ls' hl' => k H locs ls' hP hS (gSt1 (E := E) (L := a0 :: a1 :: a2 :: a3 :: a4 :: a5 :: a6 :: x :: t) (i := 7) (v := .inl (.ref q)) hl' h1))
theorem x_iinc_7 (K : gK X E M D n) {a0 a1 a2 a3 a4 a5 a6 : Option gV} {z n : Int} {t : List (Option gV)} (d : decode M.2.1 pc = .ok (.iinc 7 n, 3)) (h1 : gC1 a6 = true) (k : gWX X E cells slots (pc + 3) (a0 :: a1 :: a2 :: a3 :: a4 :: a5 :: a6 :: some (iv (z + n)) :: t) st σ) : gWX X E cells slots pc (a0 :: a1 :: a2 :: a3 :: a4 :: a5 :: a6 :: some (iv z) :: t) st σ := fun H locs ls hP hS hl => by
  obtain ⟨k0, hk0⟩ := List.getElem?_of_mem (gAsc_mem (E := E) (a0 :: a1 :: a2 :: a3 :: a4 :: a5 :: a6 :: some (iv z) :: t) 0 7 rfl)
  exact lv_iinc K.1 K.2.1 d hl (k := k0) hk0 (v := Int32.ofInt (z + n)) (by rw [Int32.ofInt_add]) (by simp) rfl (fun ls' hl' => k H locs ls' hP hS (gSt1 (E := E) (L := a0 :: a1 :: a2 :: a3 :: a4 :: a5 :: a6 :: some (iv z) :: t) (i := 7) (v := iv (z + n)) hl' h1))
theorem x_iload_8 (K : gK X E M D n) {a0 a1 a2 a3 a4 a5 a6 a7 : Option gV} {v : Int32} {t : List (Option gV)} (d : decode M.2.1 pc = .ok (.iload 8, 2)) (k : gWX X E cells slots (pc + 2) (a0 :: a1 :: a2 :: a3 :: a4 :: a5 :: a6 :: a7 :: some (.inl (.int v)) :: t) (.inl (.int v) :: st) σ) : gWX X E cells slots pc (a0 :: a1 :: a2 :: a3 :: a4 :: a5 :: a6 :: a7 :: some (.inl (.int v)) :: t) st σ :=
  fun H locs ls hP hS hl => lv_iload K.1 K.2.1 d (gLd (i := 8) hl rfl) (k H locs ls hP hS hl)
theorem x_istore_8 (K : gK X E M D n) {a0 a1 a2 a3 a4 a5 a6 a7 x : Option gV} {v : Int32} {t : List (Option gV)} (d : decode M.2.1 pc = .ok (.istore 8, 2)) (h1 : gC1 a7 = true) (k : gWX X E cells slots (pc + 2) (a0 :: a1 :: a2 :: a3 :: a4 :: a5 :: a6 :: a7 :: some (.inl (.int v)) :: t) st σ) : gWX X E cells slots pc (a0 :: a1 :: a2 :: a3 :: a4 :: a5 :: a6 :: a7 :: x :: t) (.inl (.int v) :: st) σ :=
  fun H locs ls hP hS hl => lv_istore K.1 K.2.1 d hl (by simp only [List.length_cons]; show 8 < _; omega) rfl (fun ls' hl' => k H locs ls' hP hS (gSt1 (E := E) (L := a0 :: a1 :: a2 :: a3 :: a4 :: a5 :: a6 :: a7 :: x :: t) (i := 8) (v := .inl (.int v)) hl' h1))
theorem x_aload_8 (K : gK X E M D n) {a0 a1 a2 a3 a4 a5 a6 a7 : Option gV} {q : Nat × Nat} {t : List (Option gV)} (d : decode M.2.1 pc = .ok (.aload 8, 2)) (k : gWX X E cells slots (pc + 2) (a0 :: a1 :: a2 :: a3 :: a4 :: a5 :: a6 :: a7 :: some (.inr q) :: t) (.inr q :: st) σ) : gWX X E cells slots pc (a0 :: a1 :: a2 :: a3 :: a4 :: a5 :: a6 :: a7 :: some (.inr q) :: t) st σ :=
  fun H locs ls hP hS hl => lv_aload K.1 K.2.1 d (gLd (i := 8) hl rfl) (k H locs ls hP hS hl)
theorem x_aloadc_8 (K : gK X E M D n) {a0 a1 a2 a3 a4 a5 a6 a7 : Option gV} {q : Nat} {t : List (Option gV)} (d : decode M.2.1 pc = .ok (.aload 8, 2)) (k : gWX X E cells slots (pc + 2) (a0 :: a1 :: a2 :: a3 :: a4 :: a5 :: a6 :: a7 :: some (.inl (.ref q)) :: t) (.inl (.ref q) :: st) σ) : gWX X E cells slots pc (a0 :: a1 :: a2 :: a3 :: a4 :: a5 :: a6 :: a7 :: some (.inl (.ref q)) :: t) st σ :=
  fun H locs ls hP hS hl => lv_aload K.1 K.2.1 d (gLd (i := 8) hl rfl) (k H locs ls hP hS hl)
theorem x_astore_8 (K : gK X E M D n) {a0 a1 a2 a3 a4 a5 a6 a7 x : Option gV} {q : Nat × Nat} {t : List (Option gV)} (d : decode M.2.1 pc = .ok (.astore 8, 2)) (h1 : gC1 a7 = true) (k : gWX X E cells slots (pc + 2) (a0 :: a1 :: a2 :: a3 :: a4 :: a5 :: a6 :: a7 :: some (.inr q) :: t) st σ) : gWX X E cells slots pc (a0 :: a1 :: a2 :: a3 :: a4 :: a5 :: a6 :: a7 :: x :: t) (.inr q :: st) σ :=
  fun H locs ls hP hS hl => lv_astore K.1 K.2.1 d hl (by simp only [List.length_cons]; show 8 < _; omega) rfl (fun ls' hl' => k H locs ls' hP hS (gSt1 (E := E) (L := a0 :: a1 :: a2 :: a3 :: a4 :: a5 :: a6 :: a7 :: x :: t) (i := 8) (v := .inr q) hl' h1))
theorem x_astorec_8 (K : gK X E M D n) {a0 a1 a2 a3 a4 a5 a6 a7 x : Option gV} {q : Nat} {t : List (Option gV)} (d : decode M.2.1 pc = .ok (.astore 8, 2)) (h1 : gC1 a7 = true) (k : gWX X E cells slots (pc + 2) (a0 :: a1 :: a2 :: a3 :: a4 :: a5 :: a6 :: a7 :: some (.inl (.ref q)) :: t) st σ) : gWX X E cells slots pc (a0 :: a1 :: a2 :: a3 :: a4 :: a5 :: a6 :: a7 :: x :: t) (.inl (.ref q) :: st) σ :=
  fun H locs ls hP hS hl => lv_astore K.1 K.2.1 d hl (by simp only [List.length_cons]; show 8 < _; omega) rfl (fun ls' hl' => k H locs ls' hP hS (gSt1 (E := E) (L := a0 :: a1 :: a2 :: a3 :: a4 :: a5 :: a6 :: a7 :: x :: t) (i := 8) (v := .inl (.ref q)) hl' h1))
theorem x_iinc_8 (K : gK X E M D n) {a0 a1 a2 a3 a4 a5 a6 a7 : Option gV} {z n : Int} {t : List (Option gV)} (d : decode M.2.1 pc = .ok (.iinc 8 n, 3)) (h1 : gC1 a7 = true) (k : gWX X E cells slots (pc + 3) (a0 :: a1 :: a2 :: a3 :: a4 :: a5 :: a6 :: a7 :: some (iv (z + n)) :: t) st σ) : gWX X E cells slots pc (a0 :: a1 :: a2 :: a3 :: a4 :: a5 :: a6 :: a7 :: some (iv z) :: t) st σ := fun H locs ls hP hS hl => by
  obtain ⟨k0, hk0⟩ := List.getElem?_of_mem (gAsc_mem (E := E) (a0 :: a1 :: a2 :: a3 :: a4 :: a5 :: a6 :: a7 :: some (iv z) :: t) 0 8 rfl)
  exact lv_iinc K.1 K.2.1 d hl (k := k0) hk0 (v := Int32.ofInt (z + n)) (by rw [Int32.ofInt_add]) (by simp) rfl (fun ls' hl' => k H locs ls' hP hS (gSt1 (E := E) (L := a0 :: a1 :: a2 :: a3 :: a4 :: a5 :: a6 :: a7 :: some (iv z) :: t) (i := 8) (v := iv (z + n)) hl' h1))
theorem x_iconst (K : gK X E M D n) {z : Int} (d : decode M.2.1 pc = .ok (.iconst z, 1)) (k : gWX X E cells slots (pc + 1) L (iv z :: st) σ) : gWX X E cells slots pc L st σ :=
  fun H locs ls hP hS hl => lv_iconst K.1 K.2.1 (v := Int32.ofInt z) d rfl (k H locs ls hP hS hl)
theorem x_bipush (K : gK X E M D n) {z : Int} (d : decode M.2.1 pc = .ok (.bipush z, 2)) (h : (Int8.ofInt z).toInt32 = Int32.ofInt z) (k : gWX X E cells slots (pc + 2) L (iv z :: st) σ) : gWX X E cells slots pc L st σ :=
  fun H locs ls hP hS hl => lv_bipush K.1 K.2.1 (v := Int32.ofInt z) d h (k H locs ls hP hS hl)
theorem x_sipush (K : gK X E M D n) {z : Int} (d : decode M.2.1 pc = .ok (.sipush z, 3)) (h : (Int16.ofInt z).toInt32 = Int32.ofInt z) (k : gWX X E cells slots (pc + 3) L (iv z :: st) σ) : gWX X E cells slots pc L st σ :=
  fun H locs ls hP hS hl => lv_sipush K.1 K.2.1 (v := Int32.ofInt z) d h (k H locs ls hP hS hl)
theorem x_null (K : gK X E M D n) (d : decode M.2.1 pc = .ok (.aconst_null, 1)) (k : gWX X E cells slots (pc + 1) L (.inl .null :: st) σ) : gWX X E cells slots pc L st σ :=
  fun H locs ls hP hS hl => lv_null K.1 K.2.1 d (k H locs ls hP hS hl)
theorem x_iadd (K : gK X E M D n) {a b : Int} (d : decode M.2.1 pc = .ok (.iadd, 1)) (k : gWX X E cells slots (pc + 1) L (iv (a + b) :: st) σ) : gWX X E cells slots pc L (iv b :: iv a :: st) σ :=
  fun H locs ls hP hS hl => lv_iadd K.1 K.2.1 d (by rw [← Int32.ofInt_add]; exact k H locs ls hP hS hl)
theorem x_isub (K : gK X E M D n) {a b : Int} (d : decode M.2.1 pc = .ok (.isub, 1)) (k : gWX X E cells slots (pc + 1) L (iv (a - b) :: st) σ) : gWX X E cells slots pc L (iv b :: iv a :: st) σ :=
  fun H locs ls hP hS hl => lv_isub K.1 K.2.1 d (by rw [← Int32.ofInt_sub]; exact k H locs ls hP hS hl)
theorem x_imul (K : gK X E M D n) {a b : Int} (d : decode M.2.1 pc = .ok (.imul, 1)) (k : gWX X E cells slots (pc + 1) L (iv (a * b) :: st) σ) : gWX X E cells slots pc L (iv b :: iv a :: st) σ :=
  fun H locs ls hP hS hl => lv_imul K.1 K.2.1 d (by rw [← Int32.ofInt_mul]; exact k H locs ls hP hS hl)
theorem g_nat {z : Int} (h : 0 ≤ z) : ∃ n : Nat, z = (n : Int) := ⟨z.toNat, by omega⟩
theorem x_idiv (K : gK X E M D n) {a b : Int} (h : (0 ≤ a ∧ a < 2147483648) ∧ 0 < b ∧ b < 2147483648) (d : decode M.2.1 pc = .ok (.idiv, 1)) (k : gWX X E cells slots (pc + 1) L (iv (a / b) :: st) σ) : gWX X E cells slots pc L (iv b :: iv a :: st) σ := fun H locs ls hP hS hl => by
  obtain ⟨n, rfl⟩ := g_nat h.1.1
  obtain ⟨m, rfl⟩ := g_nat (Int.le_of_lt h.2.1)
  have e : Int32.ofInt (n : Int) / Int32.ofInt (m : Int) = Int32.ofInt ((n : Int) / (m : Int)) := by
    rw [← Int.natCast_ediv, Int32.ofInt_eq_ofNat, Int32.ofInt_eq_ofNat, Int32.ofInt_eq_ofNat]
    exact pk_div (by omega) (by omega) (by omega)
  refine lv_idiv K.1 K.2.1 d ?_ (by rw [e]; exact k H locs ls hP hS hl)
  rw [Int32.ofInt_eq_ofNat]
  exact nI_ne0 (by omega) (by omega)
theorem x_irem (K : gK X E M D n) {a b : Int} (h : (0 ≤ a ∧ a < 2147483648) ∧ 0 < b ∧ b < 2147483648) (d : decode M.2.1 pc = .ok (.irem, 1)) (k : gWX X E cells slots (pc + 1) L (iv (a % b) :: st) σ) : gWX X E cells slots pc L (iv b :: iv a :: st) σ := fun H locs ls hP hS hl => by
  obtain ⟨n, rfl⟩ := g_nat h.1.1
  obtain ⟨m, rfl⟩ := g_nat (Int.le_of_lt h.2.1)
  have e : Int32.ofInt (n : Int) - Int32.ofInt (n : Int) / Int32.ofInt (m : Int) * Int32.ofInt (m : Int) = Int32.ofInt ((n : Int) % (m : Int)) := by
    rw [← Int.natCast_emod, Int32.ofInt_eq_ofNat, Int32.ofInt_eq_ofNat, Int32.ofInt_eq_ofNat]
    exact pk_rem (by omega) (by omega) (by omega)
  refine lv_irem K.1 K.2.1 d ?_ (by rw [e]; exact k H locs ls hP hS hl)
  rw [Int32.ofInt_eq_ofNat]
  exact nI_ne0 (by omega) (by omega)
theorem x_dup (K : gK X E M D n) {v : gV} (d : decode M.2.1 pc = .ok (.dup, 1)) (h : gC1 (some v) = true) (k : gWX X E cells slots (pc + 1) L (v :: v :: st) σ) : gWX X E cells slots pc L (v :: st) σ :=
  fun H locs ls hP hS hl => lv_dup K.1 K.2.1 d (gC1_cat h) (k H locs ls hP hS hl)
theorem x_dup2 (K : gK X E M D n) {v w : gV} (d : decode M.2.1 pc = .ok (.dup2, 1)) (h : gC1 (some v) = true) (h2 : gC1 (some w) = true) (k : gWX X E cells slots (pc + 1) L (v :: w :: v :: w :: st) σ) : gWX X E cells slots pc L (v :: w :: st) σ :=
  fun H locs ls hP hS hl => lv_dup2_11 K.1 K.2.1 d (gC1_cat h) (gC1_cat h2) (k H locs ls hP hS hl)
theorem x_dup_x1 (K : gK X E M D n) {v w : gV} (d : decode M.2.1 pc = .ok (.dup_x1, 1)) (h : gC1 (some v) = true) (h2 : gC1 (some w) = true) (k : gWX X E cells slots (pc + 1) L (v :: w :: v :: st) σ) : gWX X E cells slots pc L (v :: w :: st) σ :=
  fun H locs ls hP hS hl => lv_dup_x1 K.1 K.2.1 d (gC1_cat h) (gC1_cat h2) (k H locs ls hP hS hl)
theorem x_pop (K : gK X E M D n) {v : gV} (d : decode M.2.1 pc = .ok (.pop, 1)) (h : gC1 (some v) = true) (k : gWX X E cells slots (pc + 1) L st σ) : gWX X E cells slots pc L (v :: st) σ :=
  fun H locs ls hP hS hl => lv_pop K.1 K.2.1 d (gC1_cat h) (k H locs ls hP hS hl)
theorem x_goto (K : gK X E M D n) {off : Int} {tgt : Nat} (d : decode M.2.1 pc = .ok (.goto off, 3)) (ht : (pc : Int) + off = (tgt : Int)) (k : gWX X E cells slots tgt L st σ) : gWX X E cells slots pc L st σ :=
  fun H locs ls hP hS hl => lv_goto K.1 K.2.1 d ht (k H locs ls hP hS hl)
/-- ints in range, as numbers -/
theorem g_toInt {a : Int} (h : -2147483648 ≤ a ∧ a < 2147483648) : (Int32.ofInt a).toInt = a := Int32.toInt_ofInt_of_le (by have := h.1; simp; omega) (by have := h.2; simp; omega)
theorem g_lt {a b : Int} (h : (-2147483648 ≤ a ∧ a < 2147483648) ∧ -2147483648 ≤ b ∧ b < 2147483648) : Int32.ofInt a < Int32.ofInt b ↔ a < b := by rw [Int32.lt_iff_toInt_lt, g_toInt h.1, g_toInt h.2]
theorem g_le {a b : Int} (h : (-2147483648 ≤ a ∧ a < 2147483648) ∧ -2147483648 ≤ b ∧ b < 2147483648) : Int32.ofInt a ≤ Int32.ofInt b ↔ a ≤ b := by rw [Int32.le_iff_toInt_le, g_toInt h.1, g_toInt h.2]
theorem g_eq {a b : Int} (h : (-2147483648 ≤ a ∧ a < 2147483648) ∧ -2147483648 ≤ b ∧ b < 2147483648) : Int32.ofInt a = Int32.ofInt b ↔ a = b := by rw [← Int32.toInt_inj, g_toInt h.1, g_toInt h.2]

theorem g_z : Int32.ofInt 0 = 0 := rfl
theorem g_eq0 {a : Int} (h : -2147483648 ≤ a ∧ a < 2147483648) : Int32.ofInt a = 0 ↔ a = 0 := by rw [← g_z]; exact g_eq ⟨h, by omega⟩
theorem g_lt0 {a : Int} (h : -2147483648 ≤ a ∧ a < 2147483648) : Int32.ofInt a < 0 ↔ a < 0 := by rw [← g_z]; exact g_lt ⟨h, by omega⟩
theorem g_le0 {a : Int} (h : -2147483648 ≤ a ∧ a < 2147483648) : Int32.ofInt a ≤ 0 ↔ a ≤ 0 := by rw [← g_z]; exact g_le ⟨h, by omega⟩
theorem g_gt0 {a : Int} (h : -2147483648 ≤ a ∧ a < 2147483648) : 0 < Int32.ofInt a ↔ 0 < a := by rw [← g_z]; exact g_lt ⟨by omega, h⟩
theorem g_ge0 {a : Int} (h : -2147483648 ≤ a ∧ a < 2147483648) : 0 ≤ Int32.ofInt a ↔ 0 ≤ a := by rw [← g_z]; exact g_le ⟨by omega, h⟩
theorem x_icmp_eq (K : gK X E M D n) {a b : Int} {off : Int} {tgt : Nat} (h : (-2147483648 ≤ a ∧ a < 2147483648) ∧ -2147483648 ≤ b ∧ b < 2147483648) (d : decode M.2.1 pc = .ok (.if_icmp .eq off, 3)) (ht : (pc : Int) + off = (tgt : Int)) (kt : a = b → gWX X E cells slots tgt L st σ) (kf : ¬ a = b → gWX X E cells slots (pc + 3) L st σ) : gWX X E cells slots pc L (iv b :: iv a :: st) σ :=
  fun H locs ls hP hS hl => lv_icmp_eq K.1 K.2.1 d ht (fun q => kt ((g_eq h).mp q) H locs ls hP hS hl) (fun q => kf (fun z => q ((g_eq h).mpr z)) H locs ls hP hS hl)
theorem x_if_eq (K : gK X E M D n) {a : Int} {off : Int} {tgt : Nat} (h : -2147483648 ≤ a ∧ a < 2147483648) (d : decode M.2.1 pc = .ok (.ifCond .eq off, 3)) (ht : (pc : Int) + off = (tgt : Int)) (kt : a = 0 → gWX X E cells slots tgt L st σ) (kf : ¬ a = 0 → gWX X E cells slots (pc + 3) L st σ) : gWX X E cells slots pc L (iv a :: st) σ :=
  fun H locs ls hP hS hl => lv_if_eq K.1 K.2.1 d ht (fun q => kt ((g_eq0 h).mp q) H locs ls hP hS hl) (fun q => kf (fun z => q ((g_eq0 h).mpr z)) H locs ls hP hS hl)
theorem x_icmp_ne (K : gK X E M D n) {a b : Int} {off : Int} {tgt : Nat} (h : (-2147483648 ≤ a ∧ a < 2147483648) ∧ -2147483648 ≤ b ∧ b < 2147483648) (d : decode M.2.1 pc = .ok (.if_icmp .ne off, 3)) (ht : (pc : Int) + off = (tgt : Int)) (kt : ¬ a = b → gWX X E cells slots tgt L st σ) (kf : a = b → gWX X E cells slots (pc + 3) L st σ) : gWX X E cells slots pc L (iv b :: iv a :: st) σ :=
  fun H locs ls hP hS hl => lv_icmp_ne K.1 K.2.1 d ht (fun q => kt (fun z => q ((g_eq h).mpr z)) H locs ls hP hS hl) (fun q => kf ((g_eq h).mp q) H locs ls hP hS hl)
theorem x_if_ne (K : gK X E M D n) {a : Int} {off : Int} {tgt : Nat} (h : -2147483648 ≤ a ∧ a < 2147483648) (d : decode M.2.1 pc = .ok (.ifCond .ne off, 3)) (ht : (pc : Int) + off = (tgt : Int)) (kt : ¬ a = 0 → gWX X E cells slots tgt L st σ) (kf : a = 0 → gWX X E cells slots (pc + 3) L st σ) : gWX X E cells slots pc L (iv a :: st) σ :=
  fun H locs ls hP hS hl => lv_if_ne K.1 K.2.1 d ht (fun q => kt (fun z => q ((g_eq0 h).mpr z)) H locs ls hP hS hl) (fun q => kf ((g_eq0 h).mp q) H locs ls hP hS hl)
theorem x_icmp_lt (K : gK X E M D n) {a b : Int} {off : Int} {tgt : Nat} (h : (-2147483648 ≤ a ∧ a < 2147483648) ∧ -2147483648 ≤ b ∧ b < 2147483648) (d : decode M.2.1 pc = .ok (.if_icmp .lt off, 3)) (ht : (pc : Int) + off = (tgt : Int)) (kt : a < b → gWX X E cells slots tgt L st σ) (kf : ¬ a < b → gWX X E cells slots (pc + 3) L st σ) : gWX X E cells slots pc L (iv b :: iv a :: st) σ :=
  fun H locs ls hP hS hl => lv_icmp_lt K.1 K.2.1 d ht (fun q => kt ((g_lt h).mp q) H locs ls hP hS hl) (fun q => kf (fun z => q ((g_lt h).mpr z)) H locs ls hP hS hl)
theorem x_if_lt (K : gK X E M D n) {a : Int} {off : Int} {tgt : Nat} (h : -2147483648 ≤ a ∧ a < 2147483648) (d : decode M.2.1 pc = .ok (.ifCond .lt off, 3)) (ht : (pc : Int) + off = (tgt : Int)) (kt : a < 0 → gWX X E cells slots tgt L st σ) (kf : ¬ a < 0 → gWX X E cells slots (pc + 3) L st σ) : gWX X E cells slots pc L (iv a :: st) σ :=
  fun H locs ls hP hS hl => lv_if_lt K.1 K.2.1 d ht (fun q => kt ((g_lt0 h).mp q) H locs ls hP hS hl) (fun q => kf (fun z => q ((g_lt0 h).mpr z)) H locs ls hP hS hl)
theorem x_icmp_ge (K : gK X E M D n) {a b : Int} {off : Int} {tgt : Nat} (h : (-2147483648 ≤ a ∧ a < 2147483648) ∧ -2147483648 ≤ b ∧ b < 2147483648) (d : decode M.2.1 pc = .ok (.if_icmp .ge off, 3)) (ht : (pc : Int) + off = (tgt : Int)) (kt : b ≤ a → gWX X E cells slots tgt L st σ) (kf : ¬ b ≤ a → gWX X E cells slots (pc + 3) L st σ) : gWX X E cells slots pc L (iv b :: iv a :: st) σ :=
  fun H locs ls hP hS hl => lv_icmp_ge K.1 K.2.1 d ht (fun q => kt ((g_le ⟨h.2, h.1⟩).mp q) H locs ls hP hS hl) (fun q => kf (fun z => q ((g_le ⟨h.2, h.1⟩).mpr z)) H locs ls hP hS hl)
theorem x_if_ge (K : gK X E M D n) {a : Int} {off : Int} {tgt : Nat} (h : -2147483648 ≤ a ∧ a < 2147483648) (d : decode M.2.1 pc = .ok (.ifCond .ge off, 3)) (ht : (pc : Int) + off = (tgt : Int)) (kt : 0 ≤ a → gWX X E cells slots tgt L st σ) (kf : ¬ 0 ≤ a → gWX X E cells slots (pc + 3) L st σ) : gWX X E cells slots pc L (iv a :: st) σ :=
  fun H locs ls hP hS hl => lv_if_ge K.1 K.2.1 d ht (fun q => kt ((g_ge0 h).mp q) H locs ls hP hS hl) (fun q => kf (fun z => q ((g_ge0 h).mpr z)) H locs ls hP hS hl)
theorem x_icmp_gt (K : gK X E M D n) {a b : Int} {off : Int} {tgt : Nat} (h : (-2147483648 ≤ a ∧ a < 2147483648) ∧ -2147483648 ≤ b ∧ b < 2147483648) (d : decode M.2.1 pc = .ok (.if_icmp .gt off, 3)) (ht : (pc : Int) + off = (tgt : Int)) (kt : b < a → gWX X E cells slots tgt L st σ) (kf : ¬ b < a → gWX X E cells slots (pc + 3) L st σ) : gWX X E cells slots pc L (iv b :: iv a :: st) σ :=
  fun H locs ls hP hS hl => lv_icmp_gt K.1 K.2.1 d ht (fun q => kt ((g_lt ⟨h.2, h.1⟩).mp q) H locs ls hP hS hl) (fun q => kf (fun z => q ((g_lt ⟨h.2, h.1⟩).mpr z)) H locs ls hP hS hl)
theorem x_if_gt (K : gK X E M D n) {a : Int} {off : Int} {tgt : Nat} (h : -2147483648 ≤ a ∧ a < 2147483648) (d : decode M.2.1 pc = .ok (.ifCond .gt off, 3)) (ht : (pc : Int) + off = (tgt : Int)) (kt : 0 < a → gWX X E cells slots tgt L st σ) (kf : ¬ 0 < a → gWX X E cells slots (pc + 3) L st σ) : gWX X E cells slots pc L (iv a :: st) σ :=
  fun H locs ls hP hS hl => lv_if_gt K.1 K.2.1 d ht (fun q => kt ((g_gt0 h).mp q) H locs ls hP hS hl) (fun q => kf (fun z => q ((g_gt0 h).mpr z)) H locs ls hP hS hl)
theorem x_icmp_le (K : gK X E M D n) {a b : Int} {off : Int} {tgt : Nat} (h : (-2147483648 ≤ a ∧ a < 2147483648) ∧ -2147483648 ≤ b ∧ b < 2147483648) (d : decode M.2.1 pc = .ok (.if_icmp .le off, 3)) (ht : (pc : Int) + off = (tgt : Int)) (kt : a ≤ b → gWX X E cells slots tgt L st σ) (kf : ¬ a ≤ b → gWX X E cells slots (pc + 3) L st σ) : gWX X E cells slots pc L (iv b :: iv a :: st) σ :=
  fun H locs ls hP hS hl => lv_icmp_le K.1 K.2.1 d ht (fun q => kt ((g_le h).mp q) H locs ls hP hS hl) (fun q => kf (fun z => q ((g_le h).mpr z)) H locs ls hP hS hl)
theorem x_if_le (K : gK X E M D n) {a : Int} {off : Int} {tgt : Nat} (h : -2147483648 ≤ a ∧ a < 2147483648) (d : decode M.2.1 pc = .ok (.ifCond .le off, 3)) (ht : (pc : Int) + off = (tgt : Int)) (kt : a ≤ 0 → gWX X E cells slots tgt L st σ) (kf : ¬ a ≤ 0 → gWX X E cells slots (pc + 3) L st σ) : gWX X E cells slots pc L (iv a :: st) σ :=
  fun H locs ls hP hS hl => lv_if_le K.1 K.2.1 d ht (fun q => kt ((g_le0 h).mp q) H locs ls hP hS hl) (fun q => kf (fun z => q ((g_le0 h).mpr z)) H locs ls hP hS hl)
theorem x_ifnull (K : gK X E M D n) {q : Nat × Nat} {off : Int} (d : decode M.2.1 pc = .ok (.ifnull off, 3)) (k : gWX X E cells slots (pc + 3) L st σ) : gWX X E cells slots pc L (.inr q :: st) σ :=
  fun H locs ls hP hS hl => lv_ifnull K.1 K.2.1 d (k H locs ls hP hS hl)
theorem x_ifnonnull (K : gK X E M D n) {q : Nat × Nat} {off : Int} {tgt : Nat} (d : decode M.2.1 pc = .ok (.ifnonnull off, 3)) (ht : (pc : Int) + off = (tgt : Int)) (k : gWX X E cells slots tgt L st σ) : gWX X E cells slots pc L (.inr q :: st) σ :=
  fun H locs ls hP hS hl => lv_ifnonnull K.1 K.2.1 d ht (k H locs ls hP hS hl)
theorem x_ifnullN (K : gK X E M D n) {off : Int} {tgt : Nat} (d : decode M.2.1 pc = .ok (.ifnull off, 3)) (ht : (pc : Int) + off = (tgt : Int)) (k : gWX X E cells slots tgt L st σ) : gWX X E cells slots pc L (.inl .null :: st) σ :=
  fun H locs ls hP hS hl => lv_ifnullN K.1 K.2.1 d ht (k H locs ls hP hS hl)
theorem x_ifnonnullN (K : gK X E M D n) {off : Int} (d : decode M.2.1 pc = .ok (.ifnonnull off, 3)) (k : gWX X E cells slots (pc + 3) L st σ) : gWX X E cells slots pc L (.inl .null :: st) σ :=
  fun H locs ls hP hS hl => lv_ifnonnullN K.1 K.2.1 d (k H locs ls hP hS hl)
end GR
