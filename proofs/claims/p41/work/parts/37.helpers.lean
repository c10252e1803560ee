/-! ===== locals 9 to 15; the law's helpers: a call, and what it throws caught ===== -/
section GR9
variable {X : gM} {E : gE} {M : gMt} {D n cells slots pc : Nat} {L : List (Option gV)} {st : List gV} {σ : gS}
theorem x_iload_9 (K : gK X E M D n) {a0 a1 a2 a3 a4 a5 a6 a7 a8 : Option gV} {v : Int32} {t : List (Option gV)} (d : decode M.2.1 pc = .ok (.iload 9, 2)) (k : gWX X E cells slots (pc + 2) (a0 :: a1 :: a2 :: a3 :: a4 :: a5 :: a6 :: a7 :: a8 :: some (.inl (.int v)) :: t) (.inl (.int v) :: st) σ) : gWX X E cells slots pc (a0 :: a1 :: a2 :: a3 :: a4 :: a5 :: a6 :: a7 :: a8 :: some (.inl (.int v)) :: t) st σ :=
  fun H locs ls hP hS hl => lv_iload K.1 K.2.1 d (gLd (i := 9) hl rfl) (k H locs ls hP hS hl)
theorem x_istore_9 (K : gK X E M D n) {a0 a1 a2 a3 a4 a5 a6 a7 a8 x : Option gV} {v : Int32} {t : List (Option gV)} (d : decode M.2.1 pc = .ok (.istore 9, 2)) (h1 : gC1 a8 = true) (k : gWX X E cells slots (pc + 2) (a0 :: a1 :: a2 :: a3 :: a4 :: a5 :: a6 :: a7 :: a8 :: some (.inl (.int v)) :: t) st σ) : gWX X E cells slots pc (a0 :: a1 :: a2 :: a3 :: a4 :: a5 :: a6 :: a7 :: a8 :: x :: t) (.inl (.int v) :: st) σ :=
  fun H locs ls hP hS hl => lv_istore K.1 K.2.1 d hl (by simp only [List.length_cons]; show 9 < _; omega) rfl (fun ls' hl' => k H locs ls' hP hS (gSt1 (E := E) (L := a0 :: a1 :: a2 :: a3 :: a4 :: a5 :: a6 :: a7 :: a8 :: x :: t) (i := 9) (v := .inl (.int v)) hl' h1))
theorem x_aload_9 (K : gK X E M D n) {a0 a1 a2 a3 a4 a5 a6 a7 a8 : Option gV} {q : Nat × Nat} {t : List (Option gV)} (d : decode M.2.1 pc = .ok (.aload 9, 2)) (k : gWX X E cells slots (pc + 2) (a0 :: a1 :: a2 :: a3 :: a4 :: a5 :: a6 :: a7 :: a8 :: some (.inr q) :: t) (.inr q :: st) σ) : gWX X E cells slots pc (a0 :: a1 :: a2 :: a3 :: a4 :: a5 :: a6 :: a7 :: a8 :: some (.inr q) :: t) st σ :=
  fun H locs ls hP hS hl => lv_aload K.1 K.2.1 d (gLd (i := 9) hl rfl) (k H locs ls hP hS hl)
theorem x_aloadc_9 (K : gK X E M D n) {a0 a1 a2 a3 a4 a5 a6 a7 a8 : Option gV} {q : Nat} {t : List (Option gV)} (d : decode M.2.1 pc = .ok (.aload 9, 2)) (k : gWX X E cells slots (pc + 2) (a0 :: a1 :: a2 :: a3 :: a4 :: a5 :: a6 :: a7 :: a8 :: some (.inl (.ref q)) :: t) (.inl (.ref q) :: st) σ) : gWX X E cells slots pc (a0 :: a1 :: a2 :: a3 :: a4 :: a5 :: a6 :: a7 :: a8 :: some (.inl (.ref q)) :: t) st σ :=
  fun H locs ls hP hS hl => lv_aload K.1 K.2.1 d (gLd (i := 9) hl rfl) (k H locs ls hP hS hl)
theorem x_astore_9 (K : gK X E M D n) {a0 a1 a2 a3 a4 a5 a6 a7 a8 x : Option gV} {q : Nat × Nat} {t : List (Option gV)} (d : decode M.2.1 pc = .ok (.astore 9, 2)) (h1 : gC1 a8 = true) (k : gWX X E cells slots (pc + 2) (a0 :: a1 :: a2 :: a3 :: a4 :: a5 :: a6 :: a7 :: a8 :: some (.inr q) :: t) st σ) : gWX X E cells slots pc (a0 :: a1 :: a2 :: a3 :: a4 :: a5 :: a6 :: a7 :: a8 :: x :: t) (.inr q :: st) σ :=
  fun H locs ls hP hS hl => lv_astore K.1 K.2.1 d hl (by simp only [List.length_cons]; show 9 < _; omega) rfl (fun ls' hl' => k H locs ls' hP hS (gSt1 (E := E) (L := a0 :: a1 :: a2 :: a3 :: a4 :: a5 :: a6 :: a7 :: a8 :: x :: t) (i := 9) (v := .inr q) hl' h1))
theorem x_astorec_9 (K : gK X E M D n) {a0 a1 a2 a3 a4 a5 a6 a7 a8 x : Option gV} {q : Nat} {t : List (Option gV)} (d : decode M.2.1 pc = .ok (.astore 9, 2)) (h1 : gC1 a8 = true) (k : gWX X E cells slots (pc + 2) (a0 :: a1 :: a2 :: a3 :: a4 :: a5 :: a6 :: a7 :: a8 :: some (.inl (.ref q)) :: t) st σ) : gWX X E cells slots pc (a0 :: a1 :: a2 :: a3 :: a4 :: a5 :: a6 :: a7 :: a8 :: x :: t) (.inl (.ref q) :: st) σ :=
  fun H locs ls hP hS hl => lv_astore K.1 K.2.1 d hl (by simp only [List.length_cons]; show 9 < _; omega) rfl (fun ls' hl' => k H locs ls' hP hS (gSt1 (E := E) (L := a0 :: a1 :: a2 :: a3 :: a4 :: a5 :: a6 :: a7 :: a8 :: x :: t) (i := 9) (v := .inl (.ref q)) hl' h1))
theorem x_iinc_9 (K : gK X E M D n) {a0 a1 a2 a3 a4 a5 a6 a7 a8 : Option gV} {z n : Int} {t : List (Option gV)} (d : decode M.2.1 pc = .ok (.iinc 9 n, 3)) (h1 : gC1 a8 = true) (k : gWX X E cells slots (pc + 3) (a0 :: a1 :: a2 :: a3 :: a4 :: a5 :: a6 :: a7 :: a8 :: some (iv (z + n)) :: t) st σ) : gWX X E cells slots pc (a0 :: a1 :: a2 :: a3 :: a4 :: a5 :: a6 :: a7 :: a8 :: some (iv z) :: t) st σ := fun H locs ls hP hS hl => by
  obtain ⟨k0, hk0⟩ := List.getElem?_of_mem (gAsc_mem (E := E) (a0 :: a1 :: a2 :: a3 :: a4 :: a5 :: a6 :: a7 :: a8 :: some (iv z) :: t) 0 9 rfl)
  exact lv_iinc K.1 K.2.1 d hl (k := k0) hk0 (v := Int32.ofInt (z + n)) (by rw [Int32.ofInt_add]) (by simp) rfl (fun ls' hl' => k H locs ls' hP hS (gSt1 (E := E) (L := a0 :: a1 :: a2 :: a3 :: a4 :: a5 :: a6 :: a7 :: a8 :: some (iv z) :: t) (i := 9) (v := iv (z + n)) hl' h1))
theorem x_iload_10 (K : gK X E M D n) {a0 a1 a2 a3 a4 a5 a6 a7 a8 a9 : Option gV} {v : Int32} {t : List (Option gV)} (d : decode M.2.1 pc = .ok (.iload 10, 2)) (k : gWX X E cells slots (pc + 2) (a0 :: a1 :: a2 :: a3 :: a4 :: a5 :: a6 :: a7 :: a8 :: a9 :: some (.inl (.int v)) :: t) (.inl (.int v) :: st) σ) : gWX X E cells slots pc (a0 :: a1 :: a2 :: a3 :: a4 :: a5 :: a6 :: a7 :: a8 :: a9 :: some (.inl (.int v)) :: t) st σ :=
  fun H locs ls hP hS hl => lv_iload K.1 K.2.1 d (gLd (i := 10) hl rfl) (k H locs ls hP hS hl)
theorem x_istore_10 (K : gK X E M D n) {a0 a1 a2 a3 a4 a5 a6 a7 a8 a9 x : Option gV} {v : Int32} {t : List (Option gV)} (d : decode M.2.1 pc = .ok (.istore 10, 2)) (h1 : gC1 a9 = true) (k : gWX X E cells slots (pc + 2) (a0 :: a1 :: a2 :: a3 :: a4 :: a5 :: a6 :: a7 :: a8 :: a9 :: some (.inl (.int v)) :: t) st σ) : gWX X E cells slots pc (a0 :: a1 :: a2 :: a3 :: a4 :: a5 :: a6 :: a7 :: a8 :: a9 :: x :: t) (.inl (.int v) :: st) σ :=
  fun H locs ls hP hS hl => lv_istore K.1 K.2.1 d hl (by simp only [List.length_cons]; show 10 < _; omega) rfl (fun ls' hl' => k H locs ls' hP hS (gSt1 (E := E) (L := a0 :: a1 :: a2 :: a3 :: a4 :: a5 :: a6 :: a7 :: a8 :: a9 :: x :: t) (i := 10) (v := .inl (.int v)) hl' h1))
theorem x_aload_10 (K : gK X E M D n) {a0 a1 a2 a3 a4 a5 a6 a7 a8 a9 : Option gV} {q : Nat × Nat} {t : List (Option gV)} (d : decode M.2.1 pc = .ok (.aload 10, 2)) (k : gWX X E cells slots (pc + 2) (a0 :: a1 :: a2 :: a3 :: a4 :: a5 :: a6 :: a7 :: a8 :: a9 :: some (.inr q) :: t) (.inr q :: st) σ) : gWX X E cells slots pc (a0 :: a1 :: a2 :: a3 :: a4 :: a5 :: a6 :: a7 :: a8 :: a9 :: some (.inr q) :: t) st σ :=
  fun H locs ls hP hS hl => lv_aload K.1 K.2.1 d (gLd (i := 10) hl rfl) (k H locs ls hP hS hl)
theorem x_aloadc_10 (K : gK X E M D n) {a0 a1 a2 a3 a4 a5 a6 a7 a8 a9 : Option gV} {q : Nat} {t : List (Option gV)} (d : decode M.2.1 pc = .ok (.aload 10, 2)) (k : gWX X E cells slots (pc + 2) (a0 :: a1 :: a2 :: a3 :: a4 :: a5 :: a6 :: a7 :: a8 :: a9 :: some (.inl (.ref q)) :: t) (.inl (.ref q) :: st) σ) : gWX X E cells slots pc (a0 :: a1 :: a2 :: a3 :: a4 :: a5 :: a6 :: a7 :: a8 :: a9 :: some (.inl (.ref q)) :: t) st σ :=
  fun H locs ls hP hS hl => lv_aload K.1 K.2.1 d (gLd (i := 10) hl rfl) (k H locs ls hP hS hl)
theorem x_astore_10 (K : gK X E M D n) {a0 a1 a2 a3 a4 a5 a6 a7 a8 a9 x : Option gV} {q : Nat × Nat} {t : List (Option gV)} (d : decode M.2.1 pc = .ok (.astore 10, 2)) (h1 : gC1 a9 = true) (k : gWX X E cells slots (pc + 2) (a0 :: a1 :: a2 :: a3 :: a4 :: a5 :: a6 :: a7 :: a8 :: a9 :: some (.inr q) :: t) st σ) : gWX X E cells slots pc (a0 :: a1 :: a2 :: a3 :: a4 :: a5 :: a6 :: a7 :: a8 :: a9 :: x :: t) (.inr q :: st) σ :=
  fun H locs ls hP hS hl => lv_astore K.1 K.2.1 d hl (by simp only [List.length_cons]; show 10 < _; omega) rfl (fun ls' hl' => k H locs ls' hP hS (gSt1 (E := E) (L := a0 :: a1 :: a2 :: a3 :: a4 :: a5 :: a6 :: a7 :: a8 :: a9 :: x :: t) (i := 10) (v := .inr q) hl' h1))
theorem x_astorec_10 (K : gK X E M D n) {a0 a1 a2 a3 a4 a5 a6 a7 a8 a9 x : Option gV} {q : Nat} {t : List (Option gV)} (d : decode M.2.1 pc = .ok (.astore 10, 2)) (h1 : gC1 a9 = true) (k : gWX X E cells slots (pc + 2) (a0 :: a1 :: a2 :: a3 :: a4 :: a5 :: a6 :: a7 :: a8 :: a9 :: some (.inl (.ref q)) :: t) st σ) : gWX X E cells slots pc (a0 :: a1 :: a2 :: a3 :: a4 :: a5 :: a6 :: a7 :: a8 :: a9 :: x :: t) (.inl (.ref q) :: st) σ :=
  fun H locs ls hP hS hl => lv_astore K.1 K.2.1 d hl (by simp only [List.length_cons]; show 10 < _; omega) rfl (fun ls' hl' => k H locs ls' hP hS (gSt1 (E := E) (L := a0 :: a1 :: a2 :: a3 :: a4 :: a5 :: a6 :: a7 :: a8 :: a9 :: x :: t) (i := 10) (v := .inl (.ref q)) hl' h1))
theorem x_iinc_10 (K : gK X E M D n) {a0 a1 a2 a3 a4 a5 a6 a7 a8 a9 : Option gV} {z n : Int} {t : List (Option gV)} (d : decode M.2.1 pc = .ok (.iinc 10 n, 3)) (h1 : gC1 a9 = true) (k : gWX X E cells slots (pc + 3) (a0 :: a1 :: a2 :: a3 :: a4 :: a5 :: a6 :: a7 :: a8 :: a9 :: some (iv (z + n)) :: t) st σ) : gWX X E cells slots pc (a0 :: a1 :: a2 :: a3 :: a4 :: a5 :: a6 :: a7 :: a8 :: a9 :: some (iv z) :: t) st σ := fun H locs ls hP hS hl => by
  obtain ⟨k0, hk0⟩ := List.getElem?_of_mem (gAsc_mem (E := E) (a0 :: a1 :: a2 :: a3 :: a4 :: a5 :: a6 :: a7 :: a8 :: a9 :: some (iv z) :: t) 0 10 rfl)
  exact lv_iinc K.1 K.2.1 d hl (k := k0) hk0 (v := Int32.ofInt (z + n)) (by rw [Int32.ofInt_add]) (by simp) rfl (fun ls' hl' => k H locs ls' hP hS (gSt1 (E := E) (L := a0 :: a1 :: a2 :: a3 :: a4 :: a5 :: a6 :: a7 :: a8 :: a9 :: some (iv z) :: t) (i := 10) (v := iv (z + n)) hl' h1))
theorem x_iload_11 (K : gK X E M D n) {a0 a1 a2 a3 a4 a5 a6 a7 a8 a9 a10 : Option gV} {v : Int32} {t : List (Option gV)} (d : decode M.2.1 pc = .ok (.iload 11, 2)) (k : gWX X E cells slots (pc + 2) (a0 :: a1 :: a2 :: a3 :: a4 :: a5 :: a6 :: a7 :: a8 :: a9 :: a10 :: some (.inl (.int v)) :: t) (.inl (.int v) :: st) σ) : gWX X E cells slots pc (a0 :: a1 :: a2 :: a3 :: a4 :: a5 :: a6 :: a7 :: a8 :: a9 :: a10 :: some (.inl (.int v)) :: t) st σ :=
  fun H locs ls hP hS hl => lv_iload K.1 K.2.1 d (gLd (i := 11) hl rfl) (k H locs ls hP hS hl)
theorem x_istore_11 (K : gK X E M D n) {a0 a1 a2 a3 a4 a5 a6 a7 a8 a9 a10 x : Option gV} {v : Int32} {t : List (Option gV)} (d : decode M.2.1 pc = .ok (.istore 11, 2)) (h1 : gC1 a10 = true) (k : gWX X E cells slots (pc + 2) (a0 :: a1 :: a2 :: a3 :: a4 :: a5 :: a6 :: a7 :: a8 :: a9 :: a10 :: some (.inl (.int v)) :: t) st σ) : gWX X E cells slots pc (a0 :: a1 :: a2 :: a3 :: a4 :: a5 :: a6 :: a7 :: a8 :: a9 :: a10 :: x :: t) (.inl (.int v) :: st) σ :=
  fun H locs ls hP hS hl => lv_istore K.1 K.2.1 d hl (by simp only [List.length_cons]; show 11 < _; omega) rfl (fun ls' hl' => k H locs ls' hP hS (gSt1 (E := E) (L := a0 :: a1 :: a2 :: a3 :: a4 :: a5 :: a6 :: a7 :: a8 :: a9 :: a10 :: x :: t) (i := 11) (v := .inl (.int v)) hl' h1))
theorem x_aload_11 (K : gK X E M D n) {a0 a1 a2 a3 a4 a5 a6 a7 a8 a9 a10 : Option gV} {q : Nat × Nat} {t : List (Option gV)} (d : decode M.2.1 pc = .ok (.aload 11, 2)) (k : gWX X E cells slots (pc + 2) (a0 :: a1 :: a2 :: a3 :: a4 :: a5 :: a6 :: a7 :: a8 :: a9 :: a10 :: some (.inr q) :: t) (.inr q :: st) σ) : gWX X E cells slots pc (a0 :: a1 :: a2 :: a3 :: a4 :: a5 :: a6 :: a7 :: a8 :: a9 :: a10 :: some (.inr q) :: t) st σ :=
  fun H locs ls hP hS hl => lv_aload K.1 K.2.1 d (gLd (i := 11) hl rfl) (k H locs ls hP hS hl)
theorem x_aloadc_11 (K : gK X E M D n) {a0 a1 a2 a3 a4 a5 a6 a7 a8 a9 a10 : Option gV} {q : Nat} {t : List (Option gV)} (d : decode M.2.1 pc = .ok (.aload 11, 2)) (k : gWX X E cells slots (pc + 2) (a0 :: a1 :: a2 :: a3 :: a4 :: a5 :: a6 :: a7 :: a8 :: a9 :: a10 :: some (.inl (.ref q)) :: t) (.inl (.ref q) :: st) σ) : gWX X E cells slots pc (a0 :: a1 :: a2 :: a3 :: a4 :: a5 :: a6 :: a7 :: a8 :: a9 :: a10 :: some (.inl (.ref q)) :: t) st σ :=
  fun H locs ls hP hS hl => lv_aload K.1 K.2.1 d (gLd (i := 11) hl rfl) (k H locs ls hP hS hl)
theorem x_astore_11 (K : gK X E M D n) {a0 a1 a2 a3 a4 a5 a6 a7 a8 a9 a10 x : Option gV} {q : Nat × Nat} {t : List (Option gV)} (d : decode M.2.1 pc = .ok (.astore 11, 2)) (h1 : gC1 a10 = true) (k : gWX X E cells slots (pc + 2) (a0 :: a1 :: a2 :: a3 :: a4 :: a5 :: a6 :: a7 :: a8 :: a9 :: a10 :: some (.inr q) :: t) st σ) : gWX X E cells slots pc (a0 :: a1 :: a2 :: a3 :: a4 :: a5 :: a6 :: a7 :: a8 :: a9 :: a10 :: x :: t) (.inr q :: st) σ :=
  fun H locs ls hP hS hl => lv_astore K.1 K.2.1 d hl (by simp only [List.length_cons]; show 11 < _; omega) rfl (fun ls' hl' => k H locs ls' hP hS (gSt1 (E := E) (L := a0 :: a1 :: a2 :: a3 :: a4 :: a5 :: a6 :: a7 :: a8 :: a9 :: a10 :: x :: t) (i := 11) (v := .inr q) hl' h1))
theorem x_astorec_11 (K : gK X E M D n) {a0 a1 a2 a3 a4 a5 a6 a7 a8 a9 a10 x : Option gV} {q : Nat} {t : List (Option gV)} (d : decode M.2.1 pc = .ok (.astore 11, 2)) (h1 : gC1 a10 = true) (k : gWX X E cells slots (pc + 2) (a0 :: a1 :: a2 :: a3 :: a4 :: a5 :: a6 :: a7 :: a8 :: a9 :: a10 :: some (.inl (.ref q)) :: t) st σ) : gWX X E cells slots pc (a0 :: a1 :: a2 :: a3 :: a4 :: a5 :: a6 :: a7 :: a8 :: a9 :: a10 :: x :: t) (.inl (.ref q) :: st) σ :=
  fun H locs ls hP hS hl => lv_astore K.1 K.2.1 d hl (by simp only [List.length_cons]; show 11 < _; omega) rfl (fun ls' hl' => k H locs ls' hP hS (gSt1 (E := E) (L := a0 :: a1 :: a2 :: a3 :: a4 :: a5 :: a6 :: a7 :: a8 :: a9 :: a10 :: x :: t) (i := 11) (v := .inl (.ref q)) hl' h1))
theorem x_iinc_11 (K : gK X E M D n) {a0 a1 a2 a3 a4 a5 a6 a7 a8 a9 a10 : Option gV} {z n : Int} {t : List (Option gV)} (d : decode M.2.1 pc = .ok (.iinc 11 n, 3)) (h1 : gC1 a10 = true) (k : gWX X E cells slots (pc + 3) (a0 :: a1 :: a2 :: a3 :: a4 :: a5 :: a6 :: a7 :: a8 :: a9 :: a10 :: some (iv (z + n)) :: t) st σ) : gWX X E cells slots pc (a0 :: a1 :: a2 :: a3 :: a4 :: a5 :: a6 :: a7 :: a8 :: a9 :: a10 :: some (iv z) :: t) st σ := fun H locs ls hP hS hl => by
  obtain ⟨k0, hk0⟩ := List.getElem?_of_mem (gAsc_mem (E := E) (a0 :: a1 :: a2 :: a3 :: a4 :: a5 :: a6 :: a7 :: a8 :: a9 :: a10 :: some (iv z) :: t) 0 11 rfl)
  exact lv_iinc K.1 K.2.1 d hl (k := k0) hk0 (v := Int32.ofInt (z + n)) (by rw [Int32.ofInt_add]) (by simp) rfl (fun ls' hl' => k H locs ls' hP hS (gSt1 (E := E) (L := a0 :: a1 :: a2 :: a3 :: a4 :: a5 :: a6 :: a7 :: a8 :: a9 :: a10 :: some (iv z) :: t) (i := 11) (v := iv (z + n)) hl' h1))
theorem x_iload_12 (K : gK X E M D n) {a0 a1 a2 a3 a4 a5 a6 a7 a8 a9 a10 a11 : Option gV} {v : Int32} {t : List (Option gV)} (d : decode M.2.1 pc = .ok (.iload 12, 2)) (k : gWX X E cells slots (pc + 2) (a0 :: a1 :: a2 :: a3 :: a4 :: a5 :: a6 :: a7 :: a8 :: a9 :: a10 :: a11 :: some (.inl (.int v)) :: t) (.inl (.int v) :: st) σ) : gWX X E cells slots pc (a0 :: a1 :: a2 :: a3 :: a4 :: a5 :: a6 :: a7 :: a8 :: a9 :: a10 :: a11 :: some (.inl (.int v)) :: t) st σ :=
  fun H locs ls hP hS hl => lv_iload K.1 K.2.1 d (gLd (i := 12) hl rfl) (k H locs ls hP hS hl)
theorem x_istore_12 (K : gK X E M D n) {a0 a1 a2 a3 a4 a5 a6 a7 a8 a9 a10 a11 x : Option gV} {v : Int32} {t : List (Option gV)} (d : decode M.2.1 pc = .ok (.istore 12, 2)) (h1 : gC1 a11 = true) (k : gWX X E cells slots (pc + 2) (a0 :: a1 :: a2 :: a3 :: a4 :: a5 :: a6 :: a7 :: a8 :: a9 :: a10 :: a11 :: some (.inl (.int v)) :: t) st σ) : gWX X E cells slots pc (a0 :: a1 :: a2 :: a3 :: a4 :: a5 :: a6 :: a7 :: a8 :: a9 :: a10 :: a11 :: x :: t) (.inl (.int v) :: st) σ :=
  fun H locs ls hP hS hl => lv_istore K.1 K.2.1 d hl (by simp only [List.length_cons]; show 12 < _; omega) rfl (fun ls' hl' => k H locs ls' hP hS (gSt1 (E := E) (L := a0 :: a1 :: a2 :: a3 :: a4 :: a5 :: a6 :: a7 :: a8 :: a9 :: a10 :: a11 :: x :: t) (i := 12) (v := .inl (.int v)) hl' h1))
theorem x_aload_12 (K : gK X E M D n) {a0 a1 a2 a3 a4 a5 a6 a7 a8 a9 a10 a11 : Option gV} {q : Nat × Nat} {t : List (Option gV)} (d : decode M.2.1 pc = .ok (.aload 12, 2)) (k : gWX X E cells slots (pc + 2) (a0 :: a1 :: a2 :: a3 :: a4 :: a5 :: a6 :: a7 :: a8 :: a9 :: a10 :: a11 :: some (.inr q) :: t) (.inr q :: st) σ) : gWX X E cells slots pc (a0 :: a1 :: a2 :: a3 :: a4 :: a5 :: a6 :: a7 :: a8 :: a9 :: a10 :: a11 :: some (.inr q) :: t) st σ :=
  fun H locs ls hP hS hl => lv_aload K.1 K.2.1 d (gLd (i := 12) hl rfl) (k H locs ls hP hS hl)
theorem x_aloadc_12 (K : gK X E M D n) {a0 a1 a2 a3 a4 a5 a6 a7 a8 a9 a10 a11 : Option gV} {q : Nat} {t : List (Option gV)} (d : decode M.2.1 pc = .ok (.aload 12, 2)) (k : gWX X E cells slots (pc + 2) (a0 :: a1 :: a2 :: a3 :: a4 :: a5 :: a6 :: a7 :: a8 :: a9 :: a10 :: a11 :: some (.inl (.ref q)) :: t) (.inl (.ref q) :: st) σ) : gWX X E cells slots pc (a0 :: a1 :: a2 :: a3 :: a4 :: a5 :: a6 :: a7 :: a8 :: a9 :: a10 :: a11 :: some (.inl (.ref q)) :: t) st σ :=
  fun H locs ls hP hS hl => lv_aload K.1 K.2.1 d (gLd (i := 12) hl rfl) (k H locs ls hP hS hl)
theorem x_astore_12 (K : gK X E M D n) {a0 a1 a2 a3 a4 a5 a6 a7 a8 a9 a10 a11 x : Option gV} {q : Nat × Nat} {t : List (Option gV)} (d : decode M.2.1 pc = .ok (.astore 12, 2)) (h1 : gC1 a11 = true) (k : gWX X E cells slots (pc + 2) (a0 :: a1 :: a2 :: a3 :: a4 :: a5 :: a6 :: a7 :: a8 :: a9 :: a10 :: a11 :: some (.inr q) :: t) st σ) : gWX X E cells slots pc (a0 :: a1 :: a2 :: a3 :: a4 :: a5 :: a6 :: a7 :: a8 :: a9 :: a10 :: a11 :: x :: t) (.inr q :: st) σ :=
  fun H locs ls hP hS hl => lv_astore K.1 K.2.1 d hl (by simp only [List.length_cons]; show 12 < _; omega) rfl (fun ls' hl' => k H locs ls' hP hS (gSt1 (E := E) (L := a0 :: a1 :: a2 :: a3 :: a4 :: a5 :: a6 :: a7 :: a8 :: a9 :: a10 :: a11 :: x :: t) (i := 12) (v := .inr q) hl' h1))
theorem x_astorec_12 (K : gK X E M D n) {a0 a1 a2 a3 a4 a5 a6 a7 a8 a9 a10 a11 x : Option gV} {q : Nat} {t : List (Option gV)} (d : decode M.2.1 pc = .ok (.astore 12, 2)) (h1 : gC1 a11 = true) (k : gWX X E cells slots (pc + 2) (a0 :: a1 :: a2 :: a3 :: a4 :: a5 :: a6 :: a7 :: a8 :: a9 :: a10 :: a11 :: some (.inl (.ref q)) :: t) st σ) : gWX X E cells slots pc (a0 :: a1 :: a2 :: a3 :: a4 :: a5 :: a6 :: a7 :: a8 :: a9 :: a10 :: a11 :: x :: t) (.inl (.ref q) :: st) σ :=
  fun H locs ls hP hS hl => lv_astore K.1 K.2.1 d hl (by simp only [List.length_cons]; show 12 < _; omega) rfl (fun ls' hl' => k H locs ls' hP hS (gSt1 (E := E) (L := a0 :: a1 :: a2 :: a3 :: a4 :: a5 :: a6 :: a7 :: a8 :: a9 :: a10 :: a11 :: x :: t) (i := 12) (v := .inl (.ref q)) hl' h1))
theorem x_iinc_12 (K : gK X E M D n) {a0 a1 a2 a3 a4 a5 a6 a7 a8 a9 a10 a11 : Option gV} {z n : Int} {t : List (Option gV)} (d : decode M.2.1 pc = .ok (.iinc 12 n, 3)) (h1 : gC1 a11 = true) (k : gWX X E cells slots (pc + 3) (a0 :: a1 :: a2 :: a3 :: a4 :: a5 :: a6 :: a7 :: a8 :: a9 :: a10 :: a11 :: some (iv (z + n)) :: t) st σ) : gWX X E cells slots pc (a0 :: a1 :: a2 :: a3 :: a4 :: a5 :: a6 :: a7 :: a8 :: a9 :: a10 :: a11 :: some (iv z) :: t) st σ := fun H locs ls hP hS hl => by
  obtain ⟨k0, hk0⟩ := List.getElem?_of_mem (gAsc_mem (E := E) (a0 :: a1 :: a2 :: a3 :: a4 :: a5 :: a6 :: a7 :: a8 :: a9 :: a10 :: a11 :: some (iv z) :: t) 0 12 rfl)
  exact lv_iinc K.1 K.2.1 d hl (k := k0) hk0 (v := Int32.ofInt (z + n)) (by rw [Int32.ofInt_add]) (by simp) rfl (fun ls' hl' => k H locs ls' hP hS (gSt1 (E := E) (L := a0 :: a1 :: a2 :: a3 :: a4 :: a5 :: a6 :: a7 :: a8 :: a9 :: a10 :: a11 :: some (iv z) :: t) (i := 12) (v := iv (z + n)) hl' h1))
theorem x_iload_13 (K : gK X E M D n) {a0 a1 a2 a3 a4 a5 a6 a7 a8 a9 a10 a11 a12 : Option gV} {v : Int32} {t : List (Option gV)} (d : decode M.2.1 pc = .ok (.iload 13, 2)) (k : gWX X E cells slots (pc + 2) (a0 :: a1 :: a2 :: a3 :: a4 :: a5 :: a6 :: a7 :: a8 :: a9 :: a10 :: a11 :: a12 :: some (.inl (.int v)) :: t) (.inl (.int v) :: st) σ) : gWX X E cells slots pc (a0 :: a1 :: a2 :: a3 :: a4 :: a5 :: a6 :: a7 :: a8 :: a9 :: a10 :: a11 :: a12 :: some (.inl (.int v)) :: t) st σ :=
  fun H locs ls hP hS hl => lv_iload K.1 K.2.1 d (gLd (i := 13) hl rfl) (k H locs ls hP hS hl)
theorem x_istore_13 (K : gK X E M D n) {a0 a1 a2 a3 a4 a5 a6 a7 a8 a9 a10 a11 a12 x : Option gV} {v : Int32} {t : List (Option gV)} (d : decode M.2.1 pc = .ok (.istore 13, 2)) (h1 : gC1 a12 = true) (k : gWX X E cells slots (pc + 2) (a0 :: a1 :: a2 :: a3 :: a4 :: a5 :: a6 :: a7 :: a8 :: a9 :: a10 :: a11 :: a12 :: some (.inl (.int v)) :: t) st σ) : gWX X E cells slots pc (a0 :: a1 :: a2 :: a3 :: a4 :: a5 :: a6 :: a7 :: a8 :: a9 :: a10 :: a11 :: a12 :: x :: t) (.inl (.int v) :: st) σ :=
  fun H locs ls hP hS hl => lv_istore K.1 K.2.1 d hl (by simp only [List.length_cons]; show 13 < _; omega) rfl (fun ls' hl' => k H locs ls' hP hS (gSt1 (E := E) (L := a0 :: a1 :: a2 :: a3 :: a4 :: a5 :: a6 :: a7 :: a8 :: a9 :: a10 :: a11 :: a12 :: x :: t) (i := 13) (v := .inl (.int v)) hl' h1))
theorem x_aload_13 (K : gK X E M D n) {a0 a1 a2 a3 a4 a5 a6 a7 a8 a9 a10 a11 a12 : Option gV} {q : Nat × Nat} {t : List (Option gV)} (d : decode M.2.1 pc = .ok (.aload 13, 2)) (k : gWX X E cells slots (pc + 2) (a0 :: a1 :: a2 :: a3 :: a4 :: a5 :: a6 :: a7 :: a8 :: a9 :: a10 :: a11 :: a12 :: some (.inr q) :: t) (.inr q :: st) σ) : gWX X E cells slots pc (a0 :: a1 :: a2 :: a3 :: a4 :: a5 :: a6 :: a7 :: a8 :: a9 :: a10 :: a11 :: a12 :: some (.inr q) :: t) st σ :=
  fun H locs ls hP hS hl => lv_aload K.1 K.2.1 d (gLd (i := 13) hl rfl) (k H locs ls hP hS hl)
theorem x_aloadc_13 (K : gK X E M D n) {a0 a1 a2 a3 a4 a5 a6 a7 a8 a9 a10 a11 a12 : Option gV} {q : Nat} {t : List (Option gV)} (d : decode M.2.1 pc = .ok (.aload 13, 2)) (k : gWX X E cells slots (pc + 2) (a0 :: a1 :: a2 :: a3 :: a4 :: a5 :: a6 :: a7 :: a8 :: a9 :: a10 :: a11 :: a12 :: some (.inl (.ref q)) :: t) (.inl (.ref q) :: st) σ) : gWX X E cells slots pc (a0 :: a1 :: a2 :: a3 :: a4 :: a5 :: a6 :: a7 :: a8 :: a9 :: a10 :: a11 :: a12 :: some (.inl (.ref q)) :: t) st σ :=
  fun H locs ls hP hS hl => lv_aload K.1 K.2.1 d (gLd (i := 13) hl rfl) (k H locs ls hP hS hl)
theorem x_astore_13 (K : gK X E M D n) {a0 a1 a2 a3 a4 a5 a6 a7 a8 a9 a10 a11 a12 x : Option gV} {q : Nat × Nat} {t : List (Option gV)} (d : decode M.2.1 pc = .ok (.astore 13, 2)) (h1 : gC1 a12 = true) (k : gWX X E cells slots (pc + 2) (a0 :: a1 :: a2 :: a3 :: a4 :: a5 :: a6 :: a7 :: a8 :: a9 :: a10 :: a11 :: a12 :: some (.inr q) :: t) st σ) : gWX X E cells slots pc (a0 :: a1 :: a2 :: a3 :: a4 :: a5 :: a6 :: a7 :: a8 :: a9 :: a10 :: a11 :: a12 :: x :: t) (.inr q :: st) σ :=
  fun H locs ls hP hS hl => lv_astore K.1 K.2.1 d hl (by simp only [List.length_cons]; show 13 < _; omega) rfl (fun ls' hl' => k H locs ls' hP hS (gSt1 (E := E) (L := a0 :: a1 :: a2 :: a3 :: a4 :: a5 :: a6 :: a7 :: a8 :: a9 :: a10 :: a11 :: a12 :: x :: t) (i := 13) (v := .inr q) hl' h1))
theorem x_astorec_13 (K : gK X E M D n) {a0 a1 a2 a3 a4 a5 a6 a7 a8 a9 a10 a11 a12 x : Option gV} {q : Nat} {t : List (Option gV)} (d : decode M.2.1 pc = .ok (.astore 13, 2)) (h1 : gC1 a12 = true) (k : gWX X E cells slots (pc + 2) (a0 :: a1 :: a2 :: a3 :: a4 :: a5 :: a6 :: a7 :: a8 :: a9 :: a10 :: a11 :: a12 :: some (.inl (.ref q)) :: t) st σ) : gWX X E cells slots pc (a0 :: a1 :: a2 :: a3 :: a4 :: a5 :: a6 :: a7 :: a8 :: a9 :: a10 :: a11 :: a12 :: x :: t) (.inl (.ref q) :: st) σ :=
  fun H locs ls hP hS hl => lv_astore K.1 K.2.1 d hl (by simp only [List.length_cons]; show 13 < _; omega) rfl (fun ls' hl' => k H locs ls' hP hS (gSt1 (E := E) (L := a0 :: a1 :: a2 :: a3 :: a4 :: a5 :: a6 :: a7 :: a8 :: a9 :: a10 :: a11 :: a12 :: x :: t) (i := 13) (v := .inl (.ref q)) hl' h1))
theorem x_iinc_13 (K : gK X E M D n) {a0 a1 a2 a3 a4 a5 a6 a7 a8 a9 a10 a11 a12 : Option gV} {z n : Int} {t : List (Option gV)} (d : decode M.2.1 pc = .ok (.iinc 13 n, 3)) (h1 : gC1 a12 = true) (k : gWX X E cells slots (pc + 3) (a0 :: a1 :: a2 :: a3 :: a4 :: a5 :: a6 :: a7 :: a8 :: a9 :: a10 :: a11 :: a12 :: some (iv (z + n)) :: t) st σ) : gWX X E cells slots pc (a0 :: a1 :: a2 :: a3 :: a4 :: a5 :: a6 :: a7 :: a8 :: a9 :: a10 :: a11 :: a12 :: some (iv z) :: t) st σ := fun H locs ls hP hS hl => by
  obtain ⟨k0, hk0⟩ := List.getElem?_of_mem (gAsc_mem (E := E) (a0 :: a1 :: a2 :: a3 :: a4 :: a5 :: a6 :: a7 :: a8 :: a9 :: a10 :: a11 :: a12 :: some (iv z) :: t) 0 13 rfl)
  exact lv_iinc K.1 K.2.1 d hl (k := k0) hk0 (v := Int32.ofInt (z + n)) (by rw [Int32.ofInt_add]) (by simp) rfl (fun ls' hl' => k H locs ls' hP hS (gSt1 (E := E) (L := a0 :: a1 :: a2 :: a3 :: a4 :: a5 :: a6 :: a7 :: a8 :: a9 :: a10 :: a11 :: a12 :: some (iv z) :: t) (i := 13) (v := iv (z + n)) hl' h1))
theorem x_iload_14 (K : gK X E M D n) {a0 a1 a2 a3 a4 a5 a6 a7 a8 a9 a10 a11 a12 a13 : Option gV} {v : Int32} {t : List (Option gV)} (d : decode M.2.1 pc = .ok (.iload 14, 2)) (k : gWX X E cells slots (pc + 2) (a0 :: a1 :: a2 :: a3 :: a4 :: a5 :: a6 :: a7 :: a8 :: a9 :: a10 :: a11 :: a12 :: a13 :: some (.inl (.int v)) :: t) (.inl (.int v) :: st) σ) : gWX X E cells slots pc (a0 :: a1 :: a2 :: a3 :: a4 :: a5 :: a6 :: a7 :: a8 :: a9 :: a10 :: a11 :: a12 :: a13 :: some (.inl (.int v)) :: t) st σ :=
  fun H locs ls hP hS hl => lv_iload K.1 K.2.1 d (gLd (i := 14) hl rfl) (k H locs ls hP hS hl)
theorem x_istore_14 (K : gK X E M D n) {a0 a1 a2 a3 a4 a5 a6 a7 a8 a9 a10 a11 a12 a13 x : Option gV} {v : Int32} {t : List (Option gV)} (d : decode M.2.1 pc = .ok (.istore 14, 2)) (h1 : gC1 a13 = true) (k : gWX X E cells slots (pc + 2) (a0 :: a1 :: a2 :: a3 :: a4 :: a5 :: a6 :: a7 :: a8 :: a9 :: a10 :: a11 :: a12 :: a13 :: some (.inl (.int v)) :: t) st σ) : gWX X E cells slots pc (a0 :: a1 :: a2 :: a3 :: a4 :: a5 :: a6 :: a7 :: a8 :: a9 :: a10 :: a11 :: a12 :: a13 :: x :: t) (.inl (.int v) :: st) σ :=
  fun H locs ls hP hS hl => lv_istore K.1 K.2.1 d hl (by simp only [List.length_cons]; show 14 < _; omega) rfl (fun ls' hl' => k H locs ls' hP hS (gSt1 (E := E) (L := a0 :: a1 :: a2 :: a3 :: a4 :: a5 :: a6 :: a7 :: a8 :: a9 :: a10 :: a11 :: a12 :: a13 :: x :: t) (i := 14) (v := .inl (.int v)) hl' h1))
theorem x_aload_14 (K : gK X E M D n) {a0 a1 a2 a3 a4 a5 a6 a7 a8 a9 a10 a11 a12 a13 : Option gV} {q : Nat × Nat} {t : List (Option gV)} (d : decode M.2.1 pc = .ok (.aload 14, 2)) (k : gWX X E cells slots (pc + 2) (a0 :: a1 :: a2 :: a3 :: a4 :: a5 :: a6 :: a7 :: a8 :: a9 :: a10 :: a11 :: a12 :: a13 :: some (.inr q) :: t) (.inr q :: st) σ) : gWX X E cells slots pc (a0 :: a1 :: a2 :: a3 :: a4 :: a5 :: a6 :: a7 :: a8 :: a9 :: a10 :: a11 :: a12 :: a13 :: some (.inr q) :: t) st σ :=
  fun H locs ls hP hS hl => lv_aload K.1 K.2.1 d (gLd (i := 14) hl rfl) (k H locs ls hP hS hl)
theorem x_aloadc_14 (K : gK X E M D n) {a0 a1 a2 a3 a4 a5 a6 a7 a8 a9 a10 a11 a12 a13 : Option gV} {q : Nat} {t : List (Option gV)} (d : decode M.2.1 pc = .ok (.aload 14, 2)) (k : gWX X E cells slots (pc + 2) (a0 :: a1 :: a2 :: a3 :: a4 :: a5 :: a6 :: a7 :: a8 :: a9 :: a10 :: a11 :: a12 :: a13 :: some (.inl (.ref q)) :: t) (.inl (.ref q) :: st) σ) : gWX X E cells slots pc (a0 :: a1 :: a2 :: a3 :: a4 :: a5 :: a6 :: a7 :: a8 :: a9 :: a10 :: a11 :: a12 :: a13 :: some (.inl (.ref q)) :: t) st σ :=
  fun H locs ls hP hS hl => lv_aload K.1 K.2.1 d (gLd (i := 14) hl rfl) (k H locs ls hP hS hl)
theorem x_astore_14 (K : gK X E M D n) {a0 a1 a2 a3 a4 a5 a6 a7 a8 a9 a10 a11 a12 a13 x : Option gV} {q : Nat × Nat} {t : List (Option gV)} (d : decode M.2.1 pc = .ok (.astore 14, 2)) (h1 : gC1 a13 = true) (k : gWX X E cells slots (pc + 2) (a0 :: a1 :: a2 :: a3 :: a4 :: a5 :: a6 :: a7 :: a8 :: a9 :: a10 :: a11 :: a12 :: a13 :: some (.inr q) :: t) st σ) : gWX X E cells slots pc (a0 :: a1 :: a2 :: a3 :: a4 :: a5 :: a6 :: a7 :: a8 :: a9 :: a10 :: a11 :: a12 :: a13 :: x :: t) (.inr q :: st) σ :=
  fun H locs ls hP hS hl => lv_astore K.1 K.2.1 d hl (by simp only [List.length_cons]; show 14 < _; omega) rfl (fun ls' hl' => k H locs ls' hP hS (gSt1 (E := E) (L := a0 :: a1 :: a2 :: a3 :: a4 :: a5 :: a6 :: a7 :: a8 :: a9 :: a10 :: a11 :: a12 :: a13 :: x :: t) (i := 14) (v := .inr q) hl' h1))
theorem x_astorec_14 (K : gK X E M D n) {a0 a1 a2 a3 a4 a5 a6 a7 a8 a9 a10 a11 a12 a13 x : Option gV} {q : Nat} {t : List (Option gV)} (d : decode M.2.1 pc = .ok (.astore 14, 2)) (h1 : gC1 a13 = true) (k : gWX X E cells slots (pc + 2) (a0 :: a1 :: a2 :: a3 :: a4 :: a5 :: a6 :: a7 :: a8 :: a9 :: a10 :: a11 :: a12 :: a13 :: some (.inl (.ref q)) :: t) st σ) : gWX X E cells slots pc (a0 :: a1 :: a2 :: a3 :: a4 :: a5 :: a6 :: a7 :: a8 :: a9 :: a10 :: a11 :: a12 :: a13 :: x :: t) (.inl (.ref q) :: st) σ :=
  fun H locs ls hP hS hl => lv_astore K.1 K.2.1 d hl (by simp only [List.length_cons]; show 14 < _; omega) rfl (fun ls' hl' => k H locs ls' hP hS (gSt1 (E := E) (L := a0 :: a1 :: a2 :: a3 :: a4 :: a5 :: a6 :: a7 :: a8 :: a9 :: a10 :: a11 :: a12 :: a13 :: x :: t) (i := 14) (v := .inl (.ref q)) hl' h1))
theorem x_iinc_14 (K : gK X E M D n) {a0 a1 a2 a3 a4 a5 a6 a7 a8 a9 a10 a11 a12 a13 : Option gV} {z n : Int} {t : List (Option gV)} (d : decode M.2.1 pc = .ok (.iinc 14 n, 3)) (h1 : gC1 a13 = true) (k : gWX X E cells slots (pc + 3) (a0 :: a1 :: a2 :: a3 :: a4 :: a5 :: a6 :: a7 :: a8 :: a9 :: a10 :: a11 :: a12 :: a13 :: some (iv (z + n)) :: t) st σ) : gWX X E cells slots pc (a0 :: a1 :: a2 :: a3 :: a4 :: a5 :: a6 :: a7 :: a8 :: a9 :: a10 :: a11 :: a12 :: a13 :: some (iv z) :: t) st σ := fun H locs ls hP hS hl => by
  obtain ⟨k0, hk0⟩ := List.getElem?_of_mem (gAsc_mem (E := E) (a0 :: a1 :: a2 :: a3 :: a4 :: a5 :: a6 :: a7 :: a8 :: a9 :: a10 :: a11 :: a12 :: a13 :: some (iv z) :: t) 0 14 rfl)
  exact lv_iinc K.1 K.2.1 d hl (k := k0) hk0 (v := Int32.ofInt (z + n)) (by rw [Int32.ofInt_add]) (by simp) rfl (fun ls' hl' => k H locs ls' hP hS (gSt1 (E := E) (L := a0 :: a1 :: a2 :: a3 :: a4 :: a5 :: a6 :: a7 :: a8 :: a9 :: a10 :: a11 :: a12 :: a13 :: some (iv z) :: t) (i := 14) (v := iv (z + n)) hl' h1))
theorem x_iload_15 (K : gK X E M D n) {a0 a1 a2 a3 a4 a5 a6 a7 a8 a9 a10 a11 a12 a13 a14 : Option gV} {v : Int32} {t : List (Option gV)} (d : decode M.2.1 pc = .ok (.iload 15, 2)) (k : gWX X E cells slots (pc + 2) (a0 :: a1 :: a2 :: a3 :: a4 :: a5 :: a6 :: a7 :: a8 :: a9 :: a10 :: a11 :: a12 :: a13 :: a14 :: some (.inl (.int v)) :: t) (.inl (.int v) :: st) σ) : gWX X E cells slots pc (a0 :: a1 :: a2 :: a3 :: a4 :: a5 :: a6 :: a7 :: a8 :: a9 :: a10 :: a11 :: a12 :: a13 :: a14 :: some (.inl (.int v)) :: t) st σ :=
  fun H locs ls hP hS hl => lv_iload K.1 K.2.1 d (gLd (i := 15) hl rfl) (k H locs ls hP hS hl)
theorem x_istore_15 (K : gK X E M D n) {a0 a1 a2 a3 a4 a5 a6 a7 a8 a9 a10 a11 a12 a13 a14 x : Option gV} {v : Int32} {t : List (Option gV)} (d : decode M.2.1 pc = .ok (.istore 15, 2)) (h1 : gC1 a14 = true) (k : gWX X E cells slots (pc + 2) (a0 :: a1 :: a2 :: a3 :: a4 :: a5 :: a6 :: a7 :: a8 :: a9 :: a10 :: a11 :: a12 :: a13 :: a14 :: some (.inl (.int v)) :: t) st σ) : gWX X E cells slots pc (a0 :: a1 :: a2 :: a3 :: a4 :: a5 :: a6 :: a7 :: a8 :: a9 :: a10 :: a11 :: a12 :: a13 :: a14 :: x :: t) (.inl (.int v) :: st) σ :=
  fun H locs ls hP hS hl => lv_istore K.1 K.2.1 d hl (by simp only [List.length_cons]; show 15 < _; omega) rfl (fun ls' hl' => k H locs ls' hP hS (gSt1 (E := E) (L := a0 :: a1 :: a2 :: a3 :: a4 :: a5 :: a6 :: a7 :: a8 :: a9 :: a10 :: a11 :: a12 :: a13 :: a14 :: x :: t) (i := 15) (v := .inl (.int v)) hl' h1))
theorem x_aload_15 (K : gK X E M D n) {a0 a1 a2 a3 a4 a5 a6 a7 a8 a9 a10 a11 a12 a13 a14 : Option gV} {q : Nat × Nat} {t : List (Option gV)} (d : decode M.2.1 pc = .ok (.aload 15, 2)) (k : gWX X E cells slots (pc + 2) (a0 :: a1 :: a2 :: a3 :: a4 :: a5 :: a6 :: a7 :: a8 :: a9 :: a10 :: a11 :: a12 :: a13 :: a14 :: some (.inr q) :: t) (.inr q :: st) σ) : gWX X E cells slots pc (a0 :: a1 :: a2 :: a3 :: a4 :: a5 :: a6 :: a7 :: a8 :: a9 :: a10 :: a11 :: a12 :: a13 :: a14 :: some (.inr q) :: t) st σ :=
  fun H locs ls hP hS hl => lv_aload K.1 K.2.1 d (gLd (i := 15) hl rfl) (k H locs ls hP hS hl)
theorem x_aloadc_15 (K : gK X E M D n) {a0 a1 a2 a3 a4 a5 a6 a7 a8 a9 a10 a11 a12 a13 a14 : Option gV} {q : Nat} {t : List (Option gV)} (d : decode M.2.1 pc = .ok (.aload 15, 2)) (k : gWX X E cells slots (pc + 2) (a0 :: a1 :: a2 :: a3 :: a4 :: a5 :: a6 :: a7 :: a8 :: a9 :: a10 :: a11 :: a12 :: a13 :: a14 :: some (.inl (.ref q)) :: t) (.inl (.ref q) :: st) σ) : gWX X E cells slots pc (a0 :: a1 :: a2 :: a3 :: a4 :: a5 :: a6 :: a7 :: a8 :: a9 :: a10 :: a11 :: a12 :: a13 :: a14 :: some (.inl (.ref q)) :: t) st σ :=
  fun H locs ls hP hS hl => lv_aload K.1 K.2.1 d (gLd (i := 15) hl rfl) (k H locs ls hP hS hl)
theorem x_astore_15 (K : gK X E M D n) {a0 a1 a2 a3 a4 a5 a6 a7 a8 a9 a10 a11 a12 a13 a14 x : Option gV} {q : Nat × Nat} {t : List (Option gV)} (d : decode M.2.1 pc = .ok (.astore 15, 2)) (h1 : gC1 a14 = true) (k : gWX X E cells slots (pc + 2) (a0 :: a1 :: a2 :: a3 :: a4 :: a5 :: a6 :: a7 :: a8 :: a9 :: a10 :: a11 :: a12 :: a13 :: a14 :: some (.inr q) :: t) st σ) : gWX X E cells slots pc (a0 :: a1 :: a2 :: a3 :: a4 :: a5 :: a6 :: a7 :: a8 :: a9 :: a10 :: a11 :: a12 :: a13 :: a14 :: x :: t) (.inr q :: st) σ :=
  fun H locs ls hP hS hl => lv_astore K.1 K.2.1 d hl (by simp only [List.length_cons]; show 15 < _; omega) rfl (fun ls' hl' => k H locs ls' hP hS (gSt1 (E := E) (L := a0 :: a1 :: a2 :: a3 :: a4 :: a5 :: a6 :: a7 :: a8 :: a9 :: a10 :: a11 :: a12 :: a13 :: a14 :: x :: t) (i := 15) (v := .inr q) hl' h1))
theorem x_astorec_15 (K : gK X E M D n) {a0 a1 a2 a3 a4 a5 a6 a7 a8 a9 a10 a11 a12 a13 a14 x : Option gV} {q : Nat} {t : List (Option gV)} (d : decode M.2.1 pc = .ok (.astore 15, 2)) (h1 : gC1 a14 = true) (k : gWX X E cells slots (pc + 2) (a0 :: a1 :: a2 :: a3 :: a4 :: a5 :: a6 :: a7 :: a8 :: a9 :: a10 :: a11 :: a12 :: a13 :: a14 :: some (.inl (.ref q)) :: t) st σ) : gWX X E cells slots pc (a0 :: a1 :: a2 :: a3 :: a4 :: a5 :: a6 :: a7 :: a8 :: a9 :: a10 :: a11 :: a12 :: a13 :: a14 :: x :: t) (.inl (.ref q) :: st) σ :=
  fun H locs ls hP hS hl => lv_astore K.1 K.2.1 d hl (by simp only [List.length_cons]; show 15 < _; omega) rfl (fun ls' hl' => k H locs ls' hP hS (gSt1 (E := E) (L := a0 :: a1 :: a2 :: a3 :: a4 :: a5 :: a6 :: a7 :: a8 :: a9 :: a10 :: a11 :: a12 :: a13 :: a14 :: x :: t) (i := 15) (v := .inl (.ref q)) hl' h1))
theorem x_iinc_15 (K : gK X E M D n) {a0 a1 a2 a3 a4 a5 a6 a7 a8 a9 a10 a11 a12 a13 a14 : Option gV} {z n : Int} {t : List (Option gV)} (d : decode M.2.1 pc = .ok (.iinc 15 n, 3)) (h1 : gC1 a14 = true) (k : gWX X E cells slots (pc + 3) (a0 :: a1 :: a2 :: a3 :: a4 :: a5 :: a6 :: a7 :: a8 :: a9 :: a10 :: a11 :: a12 :: a13 :: a14 :: some (iv (z + n)) :: t) st σ) : gWX X E cells slots pc (a0 :: a1 :: a2 :: a3 :: a4 :: a5 :: a6 :: a7 :: a8 :: a9 :: a10 :: a11 :: a12 :: a13 :: a14 :: some (iv z) :: t) st σ := fun H locs ls hP hS hl => by
  obtain ⟨k0, hk0⟩ := List.getElem?_of_mem (gAsc_mem (E := E) (a0 :: a1 :: a2 :: a3 :: a4 :: a5 :: a6 :: a7 :: a8 :: a9 :: a10 :: a11 :: a12 :: a13 :: a14 :: some (iv z) :: t) 0 15 rfl)
  exact lv_iinc K.1 K.2.1 d hl (k := k0) hk0 (v := Int32.ofInt (z + n)) (by rw [Int32.ofInt_add]) (by simp) rfl (fun ls' hl' => k H locs ls' hP hS (gSt1 (E := E) (L := a0 :: a1 :: a2 :: a3 :: a4 :: a5 :: a6 :: a7 :: a8 :: a9 :: a10 :: a11 :: a12 :: a13 :: a14 :: some (iv z) :: t) (i := 15) (v := iv (z + n)) hl' h1))
end GR9
def hK (hh : List (Nat × Nat × Nat × Nat)) (X : gM) (E : gE) (M : gMt) (D n : Nat) : Prop :=
  X.1.tables.exec = Jvm.exec ∧ X.2.2.2.2.2.2.2.2.2.1.code = M.2.1 ∧ X.2.2.2.2.2.2.2.2.2.1.maxLocals = M.2.2.1 ∧ X.2.2.2.2.1.vm.findClass M.1.cls = some X.2.2.2.2.2.1.cls ∧ gN E X.2.2.2.2.1 X.2.2.2.2.1.heap ∧ X.2.2.2.2.2.2.2.2.1.locks = false ∧ X.2.1 = gL E ∧
  X.2.2.2.2.2.2.2.2.1.sig.returnType = M.2.2.2 ∧ X.2.2.2.2.2.2.2.2.2.1.exceptionTable.toList = tableOf hh ∧ X.2.2.2.1 = ({ frames := D, cells := n, slots := 6 * n, locals := 64 * D } : Room)
def hCt (E : gE) (M : gMt) (hh : List (Nat × Nat × Nat × Nat)) (D n : Nat) (as : List gV) (σ : gS) (o : gO) (σ' : gS) : Prop :=
  vx_Met (gL E) M.1 [Cond.codeWith M.1 M.2.1 M.2.2.1 M.2.2.2 hh] (gRm D n) (va_Pc (as.map (gc E)) (gI E σ)) (gQr E o σ') (gQx E o σ') n (6 * n) (gA E)
theorem hCt_of {E : gE} {M : gMt} {hh : List (Nat × Nat × Nat × Nat)} {D n : Nat} {as : List gV} {σ σ' : gS} {o : gO} (L : List (Option gV)) (hy : plainName M.1.cls = true) (h1 : as.all (fun v => gC1 (some v)) = true) (hL : L = as.map some ++ List.replicate (M.2.2.1 - as.length) none) (hlen : as.length ≤ M.2.2.1)
    (body : ∀ X : gM, hK hh X E M D n → gEnd X E n o σ' → gWX X E 0 0 0 L [] σ) : hCt E M hh D n as σ o σ' := by
  have h1' : ∀ v ∈ as, gC1 (some v) = true := List.all_eq_true.mp h1
  refine vx_ofWH (ws' := []) (cc := M.2.1) (maxL := M.2.2.1) (ret := M.2.2.2) (hh := hh) hy rfl ?_
  intro p e s m args below meth c s₁ B hml hv
  have hxt := vx_table (x := M.1) B (atoms_spec (ws := [Cond.codeWith M.1 M.2.1 M.2.2.1 M.2.2.2 hh]) B.pre _ List.mem_cons_self)
  obtain ⟨rfl, hN, hP⟩ := hv
  have hb := body (p, gL E, e, gRm D n, s, m, (as.map (gc E)).toArray, below, meth, c, vx_MQ below (gQr E o σ') (gQx E o σ') (as.map (gc E)).toArray s n (6 * n) (gA E)) ⟨B.exec, B.bytes, hml, findClass_of_methodNamed B.named, hN, B.notSynchronized, rfl, B.returns, hxt, rfl⟩ rfl
  have hsl := gSl (E := E) as h1'
  have hl := lv_entry (as.map (gc E)) (n := M.2.2.1) (by rw [hsl]; exact hlen)
  rw [lg_entry_eq]
  refine hb s.heap [] _ hP va_S.rf ?_
  have e1 : L.length = M.2.2.1 := by rw [hL]; simp; omega
  rw [e1, hL, gEntry as 0 _ h1']
  exact hl
theorem gNc {E : gE} {U : State} {H : Heap} (h : gN E U H) {C T : String} (hw : Cond.not (.castable C T) ∈ flatC gNar) : va_Nc C T U := va_Nc.moved h.2.1.alike (va_Nc.of (gNr h hw))
section GH
variable {X : gM} {E : gE} {M : gMt} {D n cells slots pc : Nat} {L : List (Option gV)} {st : List gV} {σ σ' : gS} {hh : List (Nat × Nat × Nat × Nat)}
theorem hRec {k i : Nat} {C : String} {H : Heap} (K : hK hh X E M D n) (hk : gRc k C) (ho : gOk k i) (hP : va_P (gD E) gCl (gW E σ) H) : ∃ cellB : Cell, H[gB E + gOff k i]? = some cellB ∧ cellB.vm.isStatics = false ∧ X.2.2.2.2.1.vm.findClass C = some cellB.cls := by
  obtain ⟨ci, q, h0, h1, h2, rfl⟩ := hk
  exact va_recv (gN_K K.2.2.2.2.1) hP (ci := ci) (q0 := gOff k i) h2 (by rw [gW_at ho, gEnt_obj h0 h1])
theorem hPc_at (K : hK hh X E M D n) {av : List Value} {H : Heap} {locs : List Loc} (hP : va_P (gD E) gCl (gW E σ) H) (hS : va_S (gA E) X.2.2.2.2.1.heap H locs) : ∀ U : State, U.heap = H → X.2.2.2.2.1.WarmedH U.vm → va_Pc av (gI E σ) av.toArray U := by
  intro U hU hW
  refine ⟨rfl, ?_, by rw [hU]; exact hP⟩
  rw [hU]
  exact gN_moved K.2.2.2.2.1 hW hS.1 hS.2.1
theorem hPay (K : hK hh X E M D n) {N : gMt} {k : Nat} (hm : gMth N k) : ∀ w ∈ [Cond.code N.1 N.2.1 N.2.2.1 N.2.2.2], ∀ (a' : Array Value) (U : State), X.2.2.2.2.1.WarmedH U.vm → w.before a' U = true := by
  intro w hw a' U hW
  rw [List.mem_singleton] at hw
  subst hw
  exact word_at hW (Or.inl rfl) (gN_word K.2.2.2.2.1 hm.1 rfl #[])
theorem hRunV (K : hK hh X E M D n) {N : gMt} {d n' idx k i : Nat} {as : List gV} {o : gO} {H : Heap} {locs : List Loc} {ls : Array Slot} (hc : gCt E N d n' (.inr (k, i) :: as) σ o σ') (hm : gMth N as.length) (hi : gMthI N) (hk : gRc k N.1.cls) (ho : gOk k i) (hl : gLk M.1.cls idx N.1) (hf : gFit D d n cells slots n') (hL : ls.size = M.2.2.1) (hst : gCats st ≤ 8) (hP : va_P (gD E) gCl (gW E σ) H) (hS : va_S (gA E) X.2.2.2.2.1.heap H locs) (dd : decode M.2.1 pc = .ok (.invokevirtual idx, 3)) :
    gRun X E H locs cells slots n' pc ls ((as.map (gc E)).reverse ++ .ref (gB E + gOff k i) :: st.map (gc E)) (st.map (gc E)) σ o σ' := by
  have hN := K.2.2.2.2.1
  have hR := K.2.2.2.2.2.2.2.2.2
  have h40 : 8 + (N.2.2.1 + 11) + 64 * d ≤ 64 * D := by have h1 := hm.2.2.2.2; have h2 := hf.1; omega
  unfold gCt at hc
  rw [← K.2.2.2.2.2.2.1] at hc
  have S : CallFix X.1 X.2.2.2.2.2.1 X.2.2.2.2.2.2.2.2.2.1 M.2.1 M.2.2.1 X.2.2.2.2.1 X.2.2.2.2.2.2.1 [] M.1.cls := ⟨K.1, K.2.1, K.2.2.1, K.2.2.2.1, fun w h => by cases h⟩
  have hp : PreV X.2.2.2.2.1 H N.1.cls (gB E + gOff k i) (va_Pc (List.map (gc E) (.inr (k, i) :: as)) (gI E σ)) (as.map (gc E)) := ⟨gPc_blind, hRec K hk ho hP, hPc_at K hP hS⟩
  have hW : 2 * (F0 X.2.2.2.2.2.1 pc ls ((as.map (gc E)).reverse ++ .ref (gB E + gOff k i) :: st.map (gc E))).monitorRoom + ((st.map (gc E)).map fun v => v.category).sum ≤ 8 := lv_room (Nat.le_trans (gCats_le st) hst)
  have hr : cells + n' ≤ X.2.2.2.1.cells ∧ slots + 6 * n' ≤ X.2.2.2.1.slots := by rw [hR]; exact hf.2
  rcases hl with hl | ⟨host, hl⟩
  · exact vx_runV S hc ⟨⟨rfl, rfl, by rw [hR]; exact hf.1, by rw [hR]; exact h40, hPay K hm, List.mem_singleton.mpr rfl, gN_word hN hm.1 rfl _, gN_word hN hm.2.1 rfl _, hm.2.2.1, gLen hm, gN_word hN hl rfl _⟩, gN_word hN hi.1 rfl _, gN_word hN hi.2 rfl _⟩ hp rfl (by rw [List.length_map]) hL rfl hW dd hr
  · exact vx_runVN S hc ⟨⟨⟨rfl, rfl, by rw [hR]; exact hf.1, by rw [hR]; exact h40, hPay K hm, List.mem_singleton.mpr rfl⟩, gN_word hN hm.1 rfl _, gN_word hN hm.2.1 rfl _, hm.2.2.1, gLen hm, gN_any hN hl rfl _⟩, gN_word hN hi.1 rfl _, gN_word hN hi.2 rfl _⟩ hp rfl (by rw [List.length_map]) hL rfl hW dd hr
theorem h_iconst (K : hK hh X E M D n) {z : Int} (d : decode M.2.1 pc = .ok (.iconst z, 1)) (k : gWX X E cells slots (pc + 1) L (iv z :: st) σ) : gWX X E cells slots pc L st σ :=
  fun H locs ls hP hS hl => lv_iconst K.1 K.2.1 (v := Int32.ofInt z) d rfl (k H locs ls hP hS hl)
theorem h_bipush (K : hK hh X E M D n) {z : Int} (d : decode M.2.1 pc = .ok (.bipush z, 2)) (h : (Int8.ofInt z).toInt32 = Int32.ofInt z) (k : gWX X E cells slots (pc + 2) L (iv z :: st) σ) : gWX X E cells slots pc L st σ :=
  fun H locs ls hP hS hl => lv_bipush K.1 K.2.1 (v := Int32.ofInt z) d h (k H locs ls hP hS hl)
theorem h_goto (K : hK hh X E M D n) {off : Int} {tgt : Nat} (d : decode M.2.1 pc = .ok (.goto off, 3)) (ht : (pc : Int) + off = (tgt : Int)) (k : gWX X E cells slots tgt L st σ) : gWX X E cells slots pc L st σ :=
  fun H locs ls hP hS hl => lv_goto K.1 K.2.1 d ht (k H locs ls hP hS hl)
theorem h_iret (K : hK hh X E M D n) {z z' : Int} (hE : gEnd X E n (.inl (some (iv z'))) σ') (hr : M.2.2.2 = some .int) (d : decode M.2.1 pc = .ok (.ireturn, 1)) (hc : cells ≤ n) (hs : slots ≤ 6 * n) (hz : z = z') (hσ : σ = σ') : gWX X E cells slots pc L [iv z] σ := by
  subst hz; subst hσ
  intro H locs ls hP hS hl
  unfold gW_
  rw [hE]
  refine vx_ret (W.widen hc hs ?_)
  exact W.iret K.1 K.2.1 (K.2.2.2.2.2.2.2.1.trans hr) (gEnd_ret rfl K.2.2.2.2.1 hP hS) hS.2.2 d K.2.2.2.2.2.1
theorem h_if_eq (K : hK hh X E M D n) {a : Int} {off : Int} {tgt : Nat} (h : -2147483648 ≤ a ∧ a < 2147483648) (d : decode M.2.1 pc = .ok (.ifCond .eq off, 3)) (ht : (pc : Int) + off = (tgt : Int)) (kt : a = 0 → gWX X E cells slots tgt L st σ) (kf : ¬ a = 0 → gWX X E cells slots (pc + 3) L st σ) : gWX X E cells slots pc L (iv a :: st) σ :=
  fun H locs ls hP hS hl => lv_if_eq K.1 K.2.1 d ht (fun q => kt ((g_eq0 h).mp q) H locs ls hP hS hl) (fun q => kf (fun z => q ((g_eq0 h).mpr z)) H locs ls hP hS hl)
theorem h_iload_1 (K : hK hh X E M D n) {a0 : Option gV} {v : Int32} {t : List (Option gV)} (d : decode M.2.1 pc = .ok (.iload_n 1, 1)) (k : gWX X E cells slots (pc + 1) (a0 :: some (.inl (.int v)) :: t) (.inl (.int v) :: st) σ) : gWX X E cells slots pc (a0 :: some (.inl (.int v)) :: t) st σ :=
  fun H locs ls hP hS hl => lv_iload_n K.1 K.2.1 d rfl (gLd (i := 1) hl rfl) (k H locs ls hP hS hl)
theorem h_iload_2 (K : hK hh X E M D n) {a0 a1 : Option gV} {v : Int32} {t : List (Option gV)} (d : decode M.2.1 pc = .ok (.iload_n 2, 1)) (k : gWX X E cells slots (pc + 1) (a0 :: a1 :: some (.inl (.int v)) :: t) (.inl (.int v) :: st) σ) : gWX X E cells slots pc (a0 :: a1 :: some (.inl (.int v)) :: t) st σ :=
  fun H locs ls hP hS hl => lv_iload_n K.1 K.2.1 d rfl (gLd (i := 2) hl rfl) (k H locs ls hP hS hl)
theorem h_iload_3 (K : hK hh X E M D n) {a0 a1 a2 : Option gV} {v : Int32} {t : List (Option gV)} (d : decode M.2.1 pc = .ok (.iload_n 3, 1)) (k : gWX X E cells slots (pc + 1) (a0 :: a1 :: a2 :: some (.inl (.int v)) :: t) (.inl (.int v) :: st) σ) : gWX X E cells slots pc (a0 :: a1 :: a2 :: some (.inl (.int v)) :: t) st σ :=
  fun H locs ls hP hS hl => lv_iload_n K.1 K.2.1 d rfl (gLd (i := 3) hl rfl) (k H locs ls hP hS hl)
theorem h_iload_4 (K : hK hh X E M D n) {a0 a1 a2 a3 : Option gV} {v : Int32} {t : List (Option gV)} (d : decode M.2.1 pc = .ok (.iload 4, 2)) (k : gWX X E cells slots (pc + 2) (a0 :: a1 :: a2 :: a3 :: some (.inl (.int v)) :: t) (.inl (.int v) :: st) σ) : gWX X E cells slots pc (a0 :: a1 :: a2 :: a3 :: some (.inl (.int v)) :: t) st σ :=
  fun H locs ls hP hS hl => lv_iload K.1 K.2.1 d (gLd (i := 4) hl rfl) (k H locs ls hP hS hl)
theorem h_aload_0 (K : hK hh X E M D n) {q : Nat × Nat} {t : List (Option gV)} (d : decode M.2.1 pc = .ok (.aload_n 0, 1)) (k : gWX X E cells slots (pc + 1) (some (.inr q) :: t) (.inr q :: st) σ) : gWX X E cells slots pc (some (.inr q) :: t) st σ :=
  fun H locs ls hP hS hl => lv_aload_n K.1 K.2.1 d rfl (gLd (i := 0) hl rfl) (k H locs ls hP hS hl)
theorem h_astorec_1 (K : hK hh X E M D n) {a0 x : Option gV} {q : Nat} {t : List (Option gV)} (d : decode M.2.1 pc = .ok (.astore_n 1, 1)) (h1 : gC1 a0 = true) (k : gWX X E cells slots (pc + 1) (a0 :: some (.inl (.ref q)) :: t) st σ) : gWX X E cells slots pc (a0 :: x :: t) (.inl (.ref q) :: st) σ :=
  fun H locs ls hP hS hl => lv_astore_n K.1 K.2.1 d rfl hl (by simp only [List.length_cons]; show 1 < _; omega) rfl (fun ls' hl' => k H locs ls' hP hS (gSt1 (E := E) (L := a0 :: x :: t) (i := 1) (v := .inl (.ref q)) hl' h1))
theorem h_astorec_2 (K : hK hh X E M D n) {a0 a1 x : Option gV} {q : Nat} {t : List (Option gV)} (d : decode M.2.1 pc = .ok (.astore_n 2, 1)) (h1 : gC1 a1 = true) (k : gWX X E cells slots (pc + 1) (a0 :: a1 :: some (.inl (.ref q)) :: t) st σ) : gWX X E cells slots pc (a0 :: a1 :: x :: t) (.inl (.ref q) :: st) σ :=
  fun H locs ls hP hS hl => lv_astore_n K.1 K.2.1 d rfl hl (by simp only [List.length_cons]; show 2 < _; omega) rfl (fun ls' hl' => k H locs ls' hP hS (gSt1 (E := E) (L := a0 :: a1 :: x :: t) (i := 2) (v := .inl (.ref q)) hl' h1))
theorem h_astorec_3 (K : hK hh X E M D n) {a0 a1 a2 x : Option gV} {q : Nat} {t : List (Option gV)} (d : decode M.2.1 pc = .ok (.astore_n 3, 1)) (h1 : gC1 a2 = true) (k : gWX X E cells slots (pc + 1) (a0 :: a1 :: a2 :: some (.inl (.ref q)) :: t) st σ) : gWX X E cells slots pc (a0 :: a1 :: a2 :: x :: t) (.inl (.ref q) :: st) σ :=
  fun H locs ls hP hS hl => lv_astore_n K.1 K.2.1 d rfl hl (by simp only [List.length_cons]; show 3 < _; omega) rfl (fun ls' hl' => k H locs ls' hP hS (gSt1 (E := E) (L := a0 :: a1 :: a2 :: x :: t) (i := 3) (v := .inl (.ref q)) hl' h1))
theorem h_astorec_4 (K : hK hh X E M D n) {a0 a1 a2 a3 x : Option gV} {q : Nat} {t : List (Option gV)} (d : decode M.2.1 pc = .ok (.astore 4, 2)) (h1 : gC1 a3 = true) (k : gWX X E cells slots (pc + 2) (a0 :: a1 :: a2 :: a3 :: some (.inl (.ref q)) :: t) st σ) : gWX X E cells slots pc (a0 :: a1 :: a2 :: a3 :: x :: t) (.inl (.ref q) :: st) σ :=
  fun H locs ls hP hS hl => lv_astore K.1 K.2.1 d hl (by simp only [List.length_cons]; show 4 < _; omega) rfl (fun ls' hl' => k H locs ls' hP hS (gSt1 (E := E) (L := a0 :: a1 :: a2 :: a3 :: x :: t) (i := 4) (v := .inl (.ref q)) hl' h1))
theorem h_astorec_5 (K : hK hh X E M D n) {a0 a1 a2 a3 a4 x : Option gV} {q : Nat} {t : List (Option gV)} (d : decode M.2.1 pc = .ok (.astore 5, 2)) (h1 : gC1 a4 = true) (k : gWX X E cells slots (pc + 2) (a0 :: a1 :: a2 :: a3 :: a4 :: some (.inl (.ref q)) :: t) st σ) : gWX X E cells slots pc (a0 :: a1 :: a2 :: a3 :: a4 :: x :: t) (.inl (.ref q) :: st) σ :=
  fun H locs ls hP hS hl => lv_astore K.1 K.2.1 d hl (by simp only [List.length_cons]; show 5 < _; omega) rfl (fun ls' hl' => k H locs ls' hP hS (gSt1 (E := E) (L := a0 :: a1 :: a2 :: a3 :: a4 :: x :: t) (i := 5) (v := .inl (.ref q)) hl' h1))
theorem h_callV0 (K : hK hh X E M D n) {N : gMt} {d n' idx k i : Nat} {r : gV} (hc : gCt E N d n' (.inr (k, i) :: []) σ (.inl (some r)) σ') (hm : gMth N 0) (hi : gMthI N) (hk : gRc k N.1.cls) (ho : gOk k i) (hl : gLk M.1.cls idx N.1) (hf : gFit D d n cells slots n') (hL : L.length = M.2.2.1) (hst : gCats st ≤ 8) (dd : decode M.2.1 pc = .ok (.invokevirtual idx, 3)) (kk : gWX X E (cells + n') (slots + 6 * n') (pc + 3) L (r :: st) σ') : gWX X E cells slots pc L (.inr (k, i) :: st) σ :=
  fun H locs ls hP hS hlv => gBack (L := L) (st := st) (hRunV K (as := []) (k := k) (i := i) hc hm hi hk ho hl hf (hlv.1.trans hL) hst hP hS dd) hS hlv kk
theorem h_callV1 (K : hK hh X E M D n) {N : gMt} {d n' idx k i : Nat} {v1 : gV} {r : gV} (hc : gCt E N d n' (.inr (k, i) :: [v1]) σ (.inl (some r)) σ') (hm : gMth N 1) (hi : gMthI N) (hk : gRc k N.1.cls) (ho : gOk k i) (hl : gLk M.1.cls idx N.1) (hf : gFit D d n cells slots n') (hL : L.length = M.2.2.1) (hst : gCats st ≤ 8) (dd : decode M.2.1 pc = .ok (.invokevirtual idx, 3)) (kk : gWX X E (cells + n') (slots + 6 * n') (pc + 3) L (r :: st) σ') : gWX X E cells slots pc L (v1 :: .inr (k, i) :: st) σ :=
  fun H locs ls hP hS hlv => gBack (L := L) (st := st) (hRunV K (as := [v1]) (k := k) (i := i) hc hm hi hk ho hl hf (hlv.1.trans hL) hst hP hS dd) hS hlv kk
theorem h_callV2 (K : hK hh X E M D n) {N : gMt} {d n' idx k i : Nat} {v1 v2 : gV} {r : gV} (hc : gCt E N d n' (.inr (k, i) :: [v1, v2]) σ (.inl (some r)) σ') (hm : gMth N 2) (hi : gMthI N) (hk : gRc k N.1.cls) (ho : gOk k i) (hl : gLk M.1.cls idx N.1) (hf : gFit D d n cells slots n') (hL : L.length = M.2.2.1) (hst : gCats st ≤ 8) (dd : decode M.2.1 pc = .ok (.invokevirtual idx, 3)) (kk : gWX X E (cells + n') (slots + 6 * n') (pc + 3) L (r :: st) σ') : gWX X E cells slots pc L (v2 :: v1 :: .inr (k, i) :: st) σ :=
  fun H locs ls hP hS hlv => gBack (L := L) (st := st) (hRunV K (as := [v1, v2]) (k := k) (i := i) hc hm hi hk ho hl hf (hlv.1.trans hL) hst hP hS dd) hS hlv kk
theorem h_callV3 (K : hK hh X E M D n) {N : gMt} {d n' idx k i : Nat} {v1 v2 v3 : gV} {r : gV} (hc : gCt E N d n' (.inr (k, i) :: [v1, v2, v3]) σ (.inl (some r)) σ') (hm : gMth N 3) (hi : gMthI N) (hk : gRc k N.1.cls) (ho : gOk k i) (hl : gLk M.1.cls idx N.1) (hf : gFit D d n cells slots n') (hL : L.length = M.2.2.1) (hst : gCats st ≤ 8) (dd : decode M.2.1 pc = .ok (.invokevirtual idx, 3)) (kk : gWX X E (cells + n') (slots + 6 * n') (pc + 3) L (r :: st) σ') : gWX X E cells slots pc L (v3 :: v2 :: v1 :: .inr (k, i) :: st) σ :=
  fun H locs ls hP hS hlv => gBack (L := L) (st := st) (hRunV K (as := [v1, v2, v3]) (k := k) (i := i) hc hm hi hk ho hl hf (hlv.1.trans hL) hst hP hS dd) hS hlv kk
theorem h_callV4 (K : hK hh X E M D n) {N : gMt} {d n' idx k i : Nat} {v1 v2 v3 v4 : gV} {r : gV} (hc : gCt E N d n' (.inr (k, i) :: [v1, v2, v3, v4]) σ (.inl (some r)) σ') (hm : gMth N 4) (hi : gMthI N) (hk : gRc k N.1.cls) (ho : gOk k i) (hl : gLk M.1.cls idx N.1) (hf : gFit D d n cells slots n') (hL : L.length = M.2.2.1) (hst : gCats st ≤ 8) (dd : decode M.2.1 pc = .ok (.invokevirtual idx, 3)) (kk : gWX X E (cells + n') (slots + 6 * n') (pc + 3) L (r :: st) σ') : gWX X E cells slots pc L (v4 :: v3 :: v2 :: v1 :: .inr (k, i) :: st) σ :=
  fun H locs ls hP hS hlv => gBack (L := L) (st := st) (hRunV K (as := [v1, v2, v3, v4]) (k := k) (i := i) hc hm hi hk ho hl hf (hlv.1.trans hL) hst hP hS dd) hS hlv kk
/-- behind a call that throws, where a row of the table takes it -/
def hCa (own C : String) (hh : List (Nat × Nat × Nat × Nat)) (pc hpc : Nat) : Prop := ∃ (h1 : List (Nat × Nat × Nat × Nat)) (x : Nat × Nat × Nat × Nat) (h2 : List (Nat × Nat × Nat × Nat)) (nm : String), hh = h1 ++ x :: h2 ∧ (∀ q ∈ h1, q.2.2.2 ≠ 0 ∧ ∃ nm2 : String, Cond.classLink own q.2.2.2 nm2 ∈ lw_tbl ∧ Cond.not (.castable C nm2) ∈ flatC gNar) ∧ covers (⟨x.1, x.2.1, x.2.2.1, x.2.2.2⟩ : ExceptionTableEntry) pc = true ∧ x.2.2.2 ≠ 0 ∧ Cond.classLink own x.2.2.2 nm ∈ lw_tbl ∧ Cond.castable C nm ∈ lw_tbl ∧ x.2.2.1 = hpc
theorem hBackC (K : hK hh X E M D n) {n' hpc : Nat} {C : String} {H : Heap} {locs : List Loc} {ls : Array Slot} {st0 : List Value} (hr : gRun X E H locs cells slots n' pc ls st0 (st.map (gc E)) σ (.inr C) σ') (hS : va_S (gA E) X.2.2.2.2.1.heap H locs) (hl : lv_has ls L.length (gAsc E 0 L)) (ca : hCa M.1.cls C hh pc hpc) (kk : ∀ q : Nat, gWX X E (cells + n') (slots + 6 * n') hpc L [.inl (.ref q)] σ') : gW_ X H locs cells slots (F0 X.2.2.2.2.2.1 pc ls st0) := by
  obtain ⟨h1, x, h2, nm, rfl, ca1, ca2, ca3, ca4, ca5, rfl⟩ := ca
  have hN := K.2.2.2.2.1
  intro T hT Z
  rcases hr T hT Z with ⟨v, st₀, t, T', L9, h0, X', hL, e1, e2, ⟨rv', hrv, -⟩, -⟩ | ⟨q, st₀, t, T', L9, C', ce, h0, X', hL, e1, e2, ⟨hx, hI, hF⟩, hce, hcv, hcl, stp⟩
  · cases hrv
  · cases hx
    obtain ⟨k1, k2, k3⟩ := vx_keep (A1 := gA E) h0 e1 hS (fun _ _ h => h) (fun _ h => h) hL hF
    obtain ⟨t2, a1, b1⟩ := vx_catch (own := M.1.cls) (name := nm) (E := C) (ce := ce) (q := q) (H := T'.heap) (pc := pc) (ls := ls) (rest := st.map (gc E)) K.2.2.2.1 (tableOf h1) ⟨x.1, x.2.1, x.2.2.1, x.2.2.2⟩ (tableOf h2) (K.2.2.2.2.2.2.2.2.1.trans (by unfold tableOf; rw [List.map_append, List.map_cons]))
      (fun z hz => by
        obtain ⟨y, hy, rfl⟩ := List.mem_map.mp hz
        obtain ⟨y1, nm2, y2, y3⟩ := ca1 y hy
        exact Or.inr ⟨y1, nm2, gN_word hN y2 rfl _, gNc hN y3⟩) ca2 ca3 (gN_word hN ca4 rfl _) (gN_any hN ca5 rfl _) (by rw [e1]; exact hce) hcv hcl
      (kk q T'.heap (locs ++ L9) ls (by rw [e1]; exact hI) k3 hl) T' rfl X'
    exact ⟨t2, stp.trans a1, b1⟩
theorem h_catV0 (K : hK hh X E M D n) {N : gMt} {d n' idx k i : Nat} {C : String} {hpc : Nat} (hc : gCt E N d n' (.inr (k, i) :: []) σ (.inr C) σ') (hm : gMth N 0) (hi : gMthI N) (hk : gRc k N.1.cls) (ho : gOk k i) (hl : gLk M.1.cls idx N.1) (hf : gFit D d n cells slots n') (hL : L.length = M.2.2.1) (hst : gCats st ≤ 8) (dd : decode M.2.1 pc = .ok (.invokevirtual idx, 3)) (ca : hCa M.1.cls C hh pc hpc) (kk : ∀ q : Nat, gWX X E (cells + n') (slots + 6 * n') hpc L [.inl (.ref q)] σ') : gWX X E cells slots pc L (.inr (k, i) :: st) σ :=
  fun H locs ls hP hS hlv => hBackC K (L := L) (st := st) (hRunV K (as := []) (k := k) (i := i) hc hm hi hk ho hl hf (hlv.1.trans hL) hst hP hS dd) hS hlv ca kk
theorem h_catV1 (K : hK hh X E M D n) {N : gMt} {d n' idx k i : Nat} {v1 : gV} {C : String} {hpc : Nat} (hc : gCt E N d n' (.inr (k, i) :: [v1]) σ (.inr C) σ') (hm : gMth N 1) (hi : gMthI N) (hk : gRc k N.1.cls) (ho : gOk k i) (hl : gLk M.1.cls idx N.1) (hf : gFit D d n cells slots n') (hL : L.length = M.2.2.1) (hst : gCats st ≤ 8) (dd : decode M.2.1 pc = .ok (.invokevirtual idx, 3)) (ca : hCa M.1.cls C hh pc hpc) (kk : ∀ q : Nat, gWX X E (cells + n') (slots + 6 * n') hpc L [.inl (.ref q)] σ') : gWX X E cells slots pc L (v1 :: .inr (k, i) :: st) σ :=
  fun H locs ls hP hS hlv => hBackC K (L := L) (st := st) (hRunV K (as := [v1]) (k := k) (i := i) hc hm hi hk ho hl hf (hlv.1.trans hL) hst hP hS dd) hS hlv ca kk
theorem h_catV2 (K : hK hh X E M D n) {N : gMt} {d n' idx k i : Nat} {v1 v2 : gV} {C : String} {hpc : Nat} (hc : gCt E N d n' (.inr (k, i) :: [v1, v2]) σ (.inr C) σ') (hm : gMth N 2) (hi : gMthI N) (hk : gRc k N.1.cls) (ho : gOk k i) (hl : gLk M.1.cls idx N.1) (hf : gFit D d n cells slots n') (hL : L.length = M.2.2.1) (hst : gCats st ≤ 8) (dd : decode M.2.1 pc = .ok (.invokevirtual idx, 3)) (ca : hCa M.1.cls C hh pc hpc) (kk : ∀ q : Nat, gWX X E (cells + n') (slots + 6 * n') hpc L [.inl (.ref q)] σ') : gWX X E cells slots pc L (v2 :: v1 :: .inr (k, i) :: st) σ :=
  fun H locs ls hP hS hlv => hBackC K (L := L) (st := st) (hRunV K (as := [v1, v2]) (k := k) (i := i) hc hm hi hk ho hl hf (hlv.1.trans hL) hst hP hS dd) hS hlv ca kk
theorem h_catV3 (K : hK hh X E M D n) {N : gMt} {d n' idx k i : Nat} {v1 v2 v3 : gV} {C : String} {hpc : Nat} (hc : gCt E N d n' (.inr (k, i) :: [v1, v2, v3]) σ (.inr C) σ') (hm : gMth N 3) (hi : gMthI N) (hk : gRc k N.1.cls) (ho : gOk k i) (hl : gLk M.1.cls idx N.1) (hf : gFit D d n cells slots n') (hL : L.length = M.2.2.1) (hst : gCats st ≤ 8) (dd : decode M.2.1 pc = .ok (.invokevirtual idx, 3)) (ca : hCa M.1.cls C hh pc hpc) (kk : ∀ q : Nat, gWX X E (cells + n') (slots + 6 * n') hpc L [.inl (.ref q)] σ') : gWX X E cells slots pc L (v3 :: v2 :: v1 :: .inr (k, i) :: st) σ :=
  fun H locs ls hP hS hlv => hBackC K (L := L) (st := st) (hRunV K (as := [v1, v2, v3]) (k := k) (i := i) hc hm hi hk ho hl hf (hlv.1.trans hL) hst hP hS dd) hS hlv ca kk
theorem h_catV4 (K : hK hh X E M D n) {N : gMt} {d n' idx k i : Nat} {v1 v2 v3 v4 : gV} {C : String} {hpc : Nat} (hc : gCt E N d n' (.inr (k, i) :: [v1, v2, v3, v4]) σ (.inr C) σ') (hm : gMth N 4) (hi : gMthI N) (hk : gRc k N.1.cls) (ho : gOk k i) (hl : gLk M.1.cls idx N.1) (hf : gFit D d n cells slots n') (hL : L.length = M.2.2.1) (hst : gCats st ≤ 8) (dd : decode M.2.1 pc = .ok (.invokevirtual idx, 3)) (ca : hCa M.1.cls C hh pc hpc) (kk : ∀ q : Nat, gWX X E (cells + n') (slots + 6 * n') hpc L [.inl (.ref q)] σ') : gWX X E cells slots pc L (v4 :: v3 :: v2 :: v1 :: .inr (k, i) :: st) σ :=
  fun H locs ls hP hS hlv => hBackC K (L := L) (st := st) (hRunV K (as := [v1, v2, v3, v4]) (k := k) (i := i) hc hm hi hk ho hl hf (hlv.1.trans hL) hst hP hS dd) hS hlv ca kk
end GH
abbrev mL_scroll : gMt := (yL_scroll, cL_scroll, 4, (Option.some Jvm.ClassFile.FieldType.int))
abbrev hhL_scroll : List (Nat × Nat × Nat × Nat) := [(0, 6, 7, 14), (0, 6, 10, 16)]
theorem l_scroll {E : gE} {σ σ' : gS} (a b : Int) (r : Int) (nn m : Nat) (hn : nn ≤ m) (hc : gCt E mX6_scroll 12 nn [rf 0 0, iv a, iv b] σ (.inl (some (iv r))) σ') : hCt E mL_scroll hhL_scroll 13 m [rf 0 0, iv a, iv b] σ (.inl (some (iv (r)))) σ' := by
  refine hCt_of (L := [some (rf 0 0), some (iv a), some (iv b), none]) (by decide +kernel) rfl rfl (Nat.le_of_ble_eq_true rfl) (fun X K hE => ?_)
  refine h_aload_0 K dL_scroll_0 ?_
  refine h_iload_1 K dL_scroll_1 ?_
  refine h_iload_2 K dL_scroll_2 ?_
  refine h_callV2 K hc mtX6_scroll miX6_scroll rc0 ⟨by decide, by decide⟩ lkRL_8 ⟨by decide, by omega, by omega⟩ rfl (Nat.le_of_ble_eq_true rfl) dL_scroll_3 ?_
  exact h_iret K hE rfl dL_scroll_6 (by omega) (by omega) rfl rfl
theorem l_scroll_1 {E : gE} {σ σ' : gS} (a b : Int) (nn m : Nat) (hn : nn ≤ m) (hc : gCt E mX6_scroll 12 nn [rf 0 0, iv a, iv b] σ (.inr "java/lang/IllegalArgumentException") σ') : hCt E mL_scroll hhL_scroll 13 m [rf 0 0, iv a, iv b] σ (.inl (some (iv ((-1))))) σ' := by
  refine hCt_of (L := [some (rf 0 0), some (iv a), some (iv b), none]) (by decide +kernel) rfl rfl (Nat.le_of_ble_eq_true rfl) (fun X K hE => ?_)
  refine h_aload_0 K dL_scroll_0 ?_
  refine h_iload_1 K dL_scroll_1 ?_
  refine h_iload_2 K dL_scroll_2 ?_
  refine h_catV2 K hc mtX6_scroll miX6_scroll rc0 ⟨by decide, by decide⟩ lkRL_8 ⟨by decide, by omega, by omega⟩ rfl (Nat.le_of_ble_eq_true rfl) dL_scroll_3 ⟨[], (0, 6, 7, 14), [(0, 6, 10, 16)], "java/lang/IllegalArgumentException", rfl, (fun q hq => absurd hq List.not_mem_nil), by decide, by decide, (g_mem 345 (by decide +kernel)), (g_mem 41 (by decide +kernel)), rfl⟩ (fun q => ?_)
  refine h_astorec_3 K dL_scroll_7 rfl ?_
  refine h_iconst K dL_scroll_8 ?_
  exact h_iret K hE rfl dL_scroll_9 (by omega) (by omega) rfl rfl
theorem l_scroll_2 {E : gE} {σ σ' : gS} (a b : Int) (nn m : Nat) (hn : nn ≤ m) (hc : gCt E mX6_scroll 12 nn [rf 0 0, iv a, iv b] σ (.inr "java/lang/UnsupportedOperationException") σ') : hCt E mL_scroll hhL_scroll 13 m [rf 0 0, iv a, iv b] σ (.inl (some (iv ((-2))))) σ' := by
  refine hCt_of (L := [some (rf 0 0), some (iv a), some (iv b), none]) (by decide +kernel) rfl rfl (Nat.le_of_ble_eq_true rfl) (fun X K hE => ?_)
  refine h_aload_0 K dL_scroll_0 ?_
  refine h_iload_1 K dL_scroll_1 ?_
  refine h_iload_2 K dL_scroll_2 ?_
  refine h_catV2 K hc mtX6_scroll miX6_scroll rc0 ⟨by decide, by decide⟩ lkRL_8 ⟨by decide, by omega, by omega⟩ rfl (Nat.le_of_ble_eq_true rfl) dL_scroll_3 ⟨[(0, 6, 7, 14)], (0, 6, 10, 16), [], "java/lang/UnsupportedOperationException", rfl, (List.forall_mem_cons.mpr ⟨⟨by decide, "java/lang/IllegalArgumentException", (g_mem 345 (by decide +kernel)), by decide +kernel⟩, fun _ h => absurd h List.not_mem_nil⟩), by decide, by decide, (g_mem 346 (by decide +kernel)), (g_mem 455 (by decide +kernel)), rfl⟩ (fun q => ?_)
  refine h_astorec_3 K dL_scroll_10 rfl ?_
  refine h_bipush K dL_scroll_11 rfl ?_
  exact h_iret K hE rfl dL_scroll_13 (by omega) (by omega) rfl rfl
abbrev mL_of : gMt := (yL_of, cL_of, 4, (Option.some Jvm.ClassFile.FieldType.int))
abbrev hhL_of : List (Nat × Nat × Nat × Nat) := [(0, 6, 7, 21), (0, 6, 11, 14)]
theorem l_of {E : gE} {σ σ' : gS} (a b : Int) (r : Int) (nn m : Nat) (hn : nn ≤ m) (hc : gCt E mX6_scrollOf 12 nn [rf 0 0, iv a, iv b] σ (.inl (some (iv r))) σ') : hCt E mL_of hhL_of 13 m [rf 0 0, iv a, iv b] σ (.inl (some (iv (r)))) σ' := by
  refine hCt_of (L := [some (rf 0 0), some (iv a), some (iv b), none]) (by decide +kernel) rfl rfl (Nat.le_of_ble_eq_true rfl) (fun X K hE => ?_)
  refine h_aload_0 K dL_of_0 ?_
  refine h_iload_1 K dL_of_1 ?_
  refine h_iload_2 K dL_of_2 ?_
  refine h_callV2 K hc mtX6_scrollOf miX6_scrollOf rc0 ⟨by decide, by decide⟩ lkRL_18 ⟨by decide, by omega, by omega⟩ rfl (Nat.le_of_ble_eq_true rfl) dL_of_3 ?_
  exact h_iret K hE rfl dL_of_6 (by omega) (by omega) rfl rfl
theorem l_of_1 {E : gE} {σ σ' : gS} (a b : Int) (nn m : Nat) (hn : nn ≤ m) (hc : gCt E mX6_scrollOf 12 nn [rf 0 0, iv a, iv b] σ (.inr "java/lang/IndexOutOfBoundsException") σ') : hCt E mL_of hhL_of 13 m [rf 0 0, iv a, iv b] σ (.inl (some (iv ((-11))))) σ' := by
  refine hCt_of (L := [some (rf 0 0), some (iv a), some (iv b), none]) (by decide +kernel) rfl rfl (Nat.le_of_ble_eq_true rfl) (fun X K hE => ?_)
  refine h_aload_0 K dL_of_0 ?_
  refine h_iload_1 K dL_of_1 ?_
  refine h_iload_2 K dL_of_2 ?_
  refine h_catV2 K hc mtX6_scrollOf miX6_scrollOf rc0 ⟨by decide, by decide⟩ lkRL_18 ⟨by decide, by omega, by omega⟩ rfl (Nat.le_of_ble_eq_true rfl) dL_of_3 ⟨[], (0, 6, 7, 21), [(0, 6, 11, 14)], "java/lang/IndexOutOfBoundsException", rfl, (fun q hq => absurd hq List.not_mem_nil), by decide, by decide, (g_mem 570 (by decide +kernel)), (g_mem 438 (by decide +kernel)), rfl⟩ (fun q => ?_)
  refine h_astorec_3 K dL_of_7 rfl ?_
  refine h_bipush K dL_of_8 rfl ?_
  exact h_iret K hE rfl dL_of_10 (by omega) (by omega) rfl rfl
theorem l_of_2 {E : gE} {σ σ' : gS} (a b : Int) (nn m : Nat) (hn : nn ≤ m) (hc : gCt E mX6_scrollOf 12 nn [rf 0 0, iv a, iv b] σ (.inr "java/lang/IllegalArgumentException") σ') : hCt E mL_of hhL_of 13 m [rf 0 0, iv a, iv b] σ (.inl (some (iv ((-12))))) σ' := by
  refine hCt_of (L := [some (rf 0 0), some (iv a), some (iv b), none]) (by decide +kernel) rfl rfl (Nat.le_of_ble_eq_true rfl) (fun X K hE => ?_)
  refine h_aload_0 K dL_of_0 ?_
  refine h_iload_1 K dL_of_1 ?_
  refine h_iload_2 K dL_of_2 ?_
  refine h_catV2 K hc mtX6_scrollOf miX6_scrollOf rc0 ⟨by decide, by decide⟩ lkRL_18 ⟨by decide, by omega, by omega⟩ rfl (Nat.le_of_ble_eq_true rfl) dL_of_3 ⟨[(0, 6, 7, 21)], (0, 6, 11, 14), [], "java/lang/IllegalArgumentException", rfl, (List.forall_mem_cons.mpr ⟨⟨by decide, "java/lang/IndexOutOfBoundsException", (g_mem 570 (by decide +kernel)), by decide +kernel⟩, fun _ h => absurd h List.not_mem_nil⟩), by decide, by decide, (g_mem 345 (by decide +kernel)), (g_mem 41 (by decide +kernel)), rfl⟩ (fun q => ?_)
  refine h_astorec_3 K dL_of_11 rfl ?_
  refine h_bipush K dL_of_12 rfl ?_
  exact h_iret K hE rfl dL_of_14 (by omega) (by omega) rfl rfl
abbrev mL_write : gMt := (yL_write, cL_write, 6, (Option.some Jvm.ClassFile.FieldType.int))
abbrev hhL_write : List (Nat × Nat × Nat × Nat) := [(0, 9, 10, 21), (0, 9, 15, 14)]
theorem l_write {E : gE} {σ σ' : gS} (a b c e : Int) (r : Int) (nn m : Nat) (hn : nn ≤ m) (hc : gCt E mX6_write 12 nn [rf 0 0, iv a, iv b, iv c, iv e] σ (.inl (some (iv r))) σ') : hCt E mL_write hhL_write 13 m [rf 0 0, iv a, iv b, iv c, iv e] σ (.inl (some (iv (r)))) σ' := by
  refine hCt_of (L := [some (rf 0 0), some (iv a), some (iv b), some (iv c), some (iv e), none]) (by decide +kernel) rfl rfl (Nat.le_of_ble_eq_true rfl) (fun X K hE => ?_)
  refine h_aload_0 K dL_write_0 ?_
  refine h_iload_1 K dL_write_1 ?_
  refine h_iload_2 K dL_write_2 ?_
  refine h_iload_3 K dL_write_3 ?_
  refine h_iload_4 K dL_write_4 ?_
  refine h_callV4 K hc mtX6_write miX6_write rc0 ⟨by decide, by decide⟩ lkRL_23 ⟨by decide, by omega, by omega⟩ rfl (Nat.le_of_ble_eq_true rfl) dL_write_6 ?_
  exact h_iret K hE rfl dL_write_9 (by omega) (by omega) rfl rfl
theorem l_write_1 {E : gE} {σ σ' : gS} (a b c e : Int) (nn m : Nat) (hn : nn ≤ m) (hc : gCt E mX6_write 12 nn [rf 0 0, iv a, iv b, iv c, iv e] σ (.inr "java/lang/IndexOutOfBoundsException") σ') : hCt E mL_write hhL_write 13 m [rf 0 0, iv a, iv b, iv c, iv e] σ (.inl (some (iv ((-11))))) σ' := by
  refine hCt_of (L := [some (rf 0 0), some (iv a), some (iv b), some (iv c), some (iv e), none]) (by decide +kernel) rfl rfl (Nat.le_of_ble_eq_true rfl) (fun X K hE => ?_)
  refine h_aload_0 K dL_write_0 ?_
  refine h_iload_1 K dL_write_1 ?_
  refine h_iload_2 K dL_write_2 ?_
  refine h_iload_3 K dL_write_3 ?_
  refine h_iload_4 K dL_write_4 ?_
  refine h_catV4 K hc mtX6_write miX6_write rc0 ⟨by decide, by decide⟩ lkRL_23 ⟨by decide, by omega, by omega⟩ rfl (Nat.le_of_ble_eq_true rfl) dL_write_6 ⟨[], (0, 9, 10, 21), [(0, 9, 15, 14)], "java/lang/IndexOutOfBoundsException", rfl, (fun q hq => absurd hq List.not_mem_nil), by decide, by decide, (g_mem 570 (by decide +kernel)), (g_mem 438 (by decide +kernel)), rfl⟩ (fun q => ?_)
  refine h_astorec_5 K dL_write_10 rfl ?_
  refine h_bipush K dL_write_12 rfl ?_
  exact h_iret K hE rfl dL_write_14 (by omega) (by omega) rfl rfl
theorem l_write_2 {E : gE} {σ σ' : gS} (a b c e : Int) (nn m : Nat) (hn : nn ≤ m) (hc : gCt E mX6_write 12 nn [rf 0 0, iv a, iv b, iv c, iv e] σ (.inr "java/lang/IllegalArgumentException") σ') : hCt E mL_write hhL_write 13 m [rf 0 0, iv a, iv b, iv c, iv e] σ (.inl (some (iv ((-12))))) σ' := by
  refine hCt_of (L := [some (rf 0 0), some (iv a), some (iv b), some (iv c), some (iv e), none]) (by decide +kernel) rfl rfl (Nat.le_of_ble_eq_true rfl) (fun X K hE => ?_)
  refine h_aload_0 K dL_write_0 ?_
  refine h_iload_1 K dL_write_1 ?_
  refine h_iload_2 K dL_write_2 ?_
  refine h_iload_3 K dL_write_3 ?_
  refine h_iload_4 K dL_write_4 ?_
  refine h_catV4 K hc mtX6_write miX6_write rc0 ⟨by decide, by decide⟩ lkRL_23 ⟨by decide, by omega, by omega⟩ rfl (Nat.le_of_ble_eq_true rfl) dL_write_6 ⟨[(0, 9, 10, 21)], (0, 9, 15, 14), [], "java/lang/IllegalArgumentException", rfl, (List.forall_mem_cons.mpr ⟨⟨by decide, "java/lang/IndexOutOfBoundsException", (g_mem 570 (by decide +kernel)), by decide +kernel⟩, fun _ h => absurd h List.not_mem_nil⟩), by decide, by decide, (g_mem 345 (by decide +kernel)), (g_mem 41 (by decide +kernel)), rfl⟩ (fun q => ?_)
  refine h_astorec_5 K dL_write_15 rfl ?_
  refine h_bipush K dL_write_17 rfl ?_
  exact h_iret K hE rfl dL_write_19 (by omega) (by omega) rfl rfl
abbrev mL_sign : gMt := (yL_sign, cL_sign, 5, (Option.some Jvm.ClassFile.FieldType.int))
abbrev hhL_sign : List (Nat × Nat × Nat × Nat) := [(0, 7, 8, 21)]
theorem l_sign {E : gE} {σ σ' : gS} (a b c : Int) (r : Int) (nn m : Nat) (hn : nn ≤ m) (hc : gCt E mX6_signAt 12 nn [rf 0 0, iv a, iv b, iv c] σ (.inl (some (iv r))) σ') : hCt E mL_sign hhL_sign 13 m [rf 0 0, iv a, iv b, iv c] σ (.inl (some (iv (r)))) σ' := by
  refine hCt_of (L := [some (rf 0 0), some (iv a), some (iv b), some (iv c), none]) (by decide +kernel) rfl rfl (Nat.le_of_ble_eq_true rfl) (fun X K hE => ?_)
  refine h_aload_0 K dL_sign_0 ?_
  refine h_iload_1 K dL_sign_1 ?_
  refine h_iload_2 K dL_sign_2 ?_
  refine h_iload_3 K dL_sign_3 ?_
  refine h_callV3 K hc mtX6_signAt miX6_signAt rc0 ⟨by decide, by decide⟩ lkRL_27 ⟨by decide, by omega, by omega⟩ rfl (Nat.le_of_ble_eq_true rfl) dL_sign_4 ?_
  exact h_iret K hE rfl dL_sign_7 (by omega) (by omega) rfl rfl
theorem l_sign_1 {E : gE} {σ σ' : gS} (a b c : Int) (nn m : Nat) (hn : nn ≤ m) (hc : gCt E mX6_signAt 12 nn [rf 0 0, iv a, iv b, iv c] σ (.inr "java/lang/IndexOutOfBoundsException") σ') : hCt E mL_sign hhL_sign 13 m [rf 0 0, iv a, iv b, iv c] σ (.inl (some (iv ((-11))))) σ' := by
  refine hCt_of (L := [some (rf 0 0), some (iv a), some (iv b), some (iv c), none]) (by decide +kernel) rfl rfl (Nat.le_of_ble_eq_true rfl) (fun X K hE => ?_)
  refine h_aload_0 K dL_sign_0 ?_
  refine h_iload_1 K dL_sign_1 ?_
  refine h_iload_2 K dL_sign_2 ?_
  refine h_iload_3 K dL_sign_3 ?_
  refine h_catV3 K hc mtX6_signAt miX6_signAt rc0 ⟨by decide, by decide⟩ lkRL_27 ⟨by decide, by omega, by omega⟩ rfl (Nat.le_of_ble_eq_true rfl) dL_sign_4 ⟨[], (0, 7, 8, 21), [], "java/lang/IndexOutOfBoundsException", rfl, (fun q hq => absurd hq List.not_mem_nil), by decide, by decide, (g_mem 570 (by decide +kernel)), (g_mem 438 (by decide +kernel)), rfl⟩ (fun q => ?_)
  refine h_astorec_4 K dL_sign_8 rfl ?_
  refine h_bipush K dL_sign_10 rfl ?_
  exact h_iret K hE rfl dL_sign_12 (by omega) (by omega) rfl rfl
abbrev mL_seal : gMt := (yL_seal, cL_seal, 3, (Option.some Jvm.ClassFile.FieldType.int))
abbrev hhL_seal : List (Nat × Nat × Nat × Nat) := [(0, 5, 6, 21), (0, 5, 9, 16)]
theorem l_seal {E : gE} {σ σ' : gS} (a : Int) (r : Int) (nn m : Nat) (hn : nn ≤ m) (hc : gCt E mX6_seal 12 nn [rf 0 0, iv a] σ (.inl (some (iv r))) σ') : hCt E mL_seal hhL_seal 13 m [rf 0 0, iv a] σ (.inl (some (iv (r)))) σ' := by
  refine hCt_of (L := [some (rf 0 0), some (iv a), none]) (by decide +kernel) rfl rfl (Nat.le_of_ble_eq_true rfl) (fun X K hE => ?_)
  refine h_aload_0 K dL_seal_0 ?_
  refine h_iload_1 K dL_seal_1 ?_
  refine h_callV1 K hc mtX6_seal miX6_seal rc0 ⟨by decide, by decide⟩ lkRL_31 ⟨by decide, by omega, by omega⟩ rfl (Nat.le_of_ble_eq_true rfl) dL_seal_2 ?_
  exact h_iret K hE rfl dL_seal_5 (by omega) (by omega) rfl rfl
theorem l_seal_1 {E : gE} {σ σ' : gS} (a : Int) (nn m : Nat) (hn : nn ≤ m) (hc : gCt E mX6_seal 12 nn [rf 0 0, iv a] σ (.inr "java/lang/IndexOutOfBoundsException") σ') : hCt E mL_seal hhL_seal 13 m [rf 0 0, iv a] σ (.inl (some (iv ((-1))))) σ' := by
  refine hCt_of (L := [some (rf 0 0), some (iv a), none]) (by decide +kernel) rfl rfl (Nat.le_of_ble_eq_true rfl) (fun X K hE => ?_)
  refine h_aload_0 K dL_seal_0 ?_
  refine h_iload_1 K dL_seal_1 ?_
  refine h_catV1 K hc mtX6_seal miX6_seal rc0 ⟨by decide, by decide⟩ lkRL_31 ⟨by decide, by omega, by omega⟩ rfl (Nat.le_of_ble_eq_true rfl) dL_seal_2 ⟨[], (0, 5, 6, 21), [(0, 5, 9, 16)], "java/lang/IndexOutOfBoundsException", rfl, (fun q hq => absurd hq List.not_mem_nil), by decide, by decide, (g_mem 570 (by decide +kernel)), (g_mem 438 (by decide +kernel)), rfl⟩ (fun q => ?_)
  refine h_astorec_2 K dL_seal_6 rfl ?_
  refine h_iconst K dL_seal_7 ?_
  exact h_iret K hE rfl dL_seal_8 (by omega) (by omega) rfl rfl
theorem l_seal_2 {E : gE} {σ σ' : gS} (a : Int) (nn m : Nat) (hn : nn ≤ m) (hc : gCt E mX6_seal 12 nn [rf 0 0, iv a] σ (.inr "java/lang/UnsupportedOperationException") σ') : hCt E mL_seal hhL_seal 13 m [rf 0 0, iv a] σ (.inl (some (iv ((-2))))) σ' := by
  refine hCt_of (L := [some (rf 0 0), some (iv a), none]) (by decide +kernel) rfl rfl (Nat.le_of_ble_eq_true rfl) (fun X K hE => ?_)
  refine h_aload_0 K dL_seal_0 ?_
  refine h_iload_1 K dL_seal_1 ?_
  refine h_catV1 K hc mtX6_seal miX6_seal rc0 ⟨by decide, by decide⟩ lkRL_31 ⟨by decide, by omega, by omega⟩ rfl (Nat.le_of_ble_eq_true rfl) dL_seal_2 ⟨[(0, 5, 6, 21)], (0, 5, 9, 16), [], "java/lang/UnsupportedOperationException", rfl, (List.forall_mem_cons.mpr ⟨⟨by decide, "java/lang/IndexOutOfBoundsException", (g_mem 570 (by decide +kernel)), by decide +kernel⟩, fun _ h => absurd h List.not_mem_nil⟩), by decide, by decide, (g_mem 346 (by decide +kernel)), (g_mem 455 (by decide +kernel)), rfl⟩ (fun q => ?_)
  refine h_astorec_2 K dL_seal_9 rfl ?_
  refine h_bipush K dL_seal_10 rfl ?_
  exact h_iret K hE rfl dL_seal_12 (by omega) (by omega) rfl rfl
abbrev mL_copy : gMt := (yL_copy, cL_copy, 3, (Option.some Jvm.ClassFile.FieldType.int))
abbrev hhL_copy : List (Nat × Nat × Nat × Nat) := [(0, 5, 6, 21), (0, 5, 9, 16)]
theorem l_copy {E : gE} {σ σ' : gS} (a : Int) (r : Int) (nn m : Nat) (hn : nn ≤ m) (hc : gCt E mX6_copy 12 nn [rf 0 0, iv a] σ (.inl (some (iv r))) σ') : hCt E mL_copy hhL_copy 13 m [rf 0 0, iv a] σ (.inl (some (iv (r)))) σ' := by
  refine hCt_of (L := [some (rf 0 0), some (iv a), none]) (by decide +kernel) rfl rfl (Nat.le_of_ble_eq_true rfl) (fun X K hE => ?_)
  refine h_aload_0 K dL_copy_0 ?_
  refine h_iload_1 K dL_copy_1 ?_
  refine h_callV1 K hc mtX6_copy miX6_copy rc0 ⟨by decide, by decide⟩ lkRL_35 ⟨by decide, by omega, by omega⟩ rfl (Nat.le_of_ble_eq_true rfl) dL_copy_2 ?_
  exact h_iret K hE rfl dL_copy_5 (by omega) (by omega) rfl rfl
theorem l_copy_1 {E : gE} {σ σ' : gS} (a : Int) (nn m : Nat) (hn : nn ≤ m) (hc : gCt E mX6_copy 12 nn [rf 0 0, iv a] σ (.inr "java/lang/IndexOutOfBoundsException") σ') : hCt E mL_copy hhL_copy 13 m [rf 0 0, iv a] σ (.inl (some (iv ((-1))))) σ' := by
  refine hCt_of (L := [some (rf 0 0), some (iv a), none]) (by decide +kernel) rfl rfl (Nat.le_of_ble_eq_true rfl) (fun X K hE => ?_)
  refine h_aload_0 K dL_copy_0 ?_
  refine h_iload_1 K dL_copy_1 ?_
  refine h_catV1 K hc mtX6_copy miX6_copy rc0 ⟨by decide, by decide⟩ lkRL_35 ⟨by decide, by omega, by omega⟩ rfl (Nat.le_of_ble_eq_true rfl) dL_copy_2 ⟨[], (0, 5, 6, 21), [(0, 5, 9, 16)], "java/lang/IndexOutOfBoundsException", rfl, (fun q hq => absurd hq List.not_mem_nil), by decide, by decide, (g_mem 570 (by decide +kernel)), (g_mem 438 (by decide +kernel)), rfl⟩ (fun q => ?_)
  refine h_astorec_2 K dL_copy_6 rfl ?_
  refine h_iconst K dL_copy_7 ?_
  exact h_iret K hE rfl dL_copy_8 (by omega) (by omega) rfl rfl
theorem l_copy_2 {E : gE} {σ σ' : gS} (a : Int) (nn m : Nat) (hn : nn ≤ m) (hc : gCt E mX6_copy 12 nn [rf 0 0, iv a] σ (.inr "java/lang/UnsupportedOperationException") σ') : hCt E mL_copy hhL_copy 13 m [rf 0 0, iv a] σ (.inl (some (iv ((-2))))) σ' := by
  refine hCt_of (L := [some (rf 0 0), some (iv a), none]) (by decide +kernel) rfl rfl (Nat.le_of_ble_eq_true rfl) (fun X K hE => ?_)
  refine h_aload_0 K dL_copy_0 ?_
  refine h_iload_1 K dL_copy_1 ?_
  refine h_catV1 K hc mtX6_copy miX6_copy rc0 ⟨by decide, by decide⟩ lkRL_35 ⟨by decide, by omega, by omega⟩ rfl (Nat.le_of_ble_eq_true rfl) dL_copy_2 ⟨[(0, 5, 6, 21)], (0, 5, 9, 16), [], "java/lang/UnsupportedOperationException", rfl, (List.forall_mem_cons.mpr ⟨⟨by decide, "java/lang/IndexOutOfBoundsException", (g_mem 570 (by decide +kernel)), by decide +kernel⟩, fun _ h => absurd h List.not_mem_nil⟩), by decide, by decide, (g_mem 346 (by decide +kernel)), (g_mem 455 (by decide +kernel)), rfl⟩ (fun q => ?_)
  refine h_astorec_2 K dL_copy_9 rfl ?_
  refine h_bipush K dL_copy_10 rfl ?_
  exact h_iret K hE rfl dL_copy_12 (by omega) (by omega) rfl rfl
abbrev mL_slip : gMt := (yL_slip, cL_slip, 6, (Option.some Jvm.ClassFile.FieldType.int))
abbrev hhL_slip : List (Nat × Nat × Nat × Nat) := [(0, 9, 10, 21), (0, 9, 14, 14), (0, 9, 19, 16)]
theorem l_slip {E : gE} {σ σ' : gS} (a b c e : Int) (r : Int) (nn m : Nat) (hn : nn ≤ m) (hc : gCt E mX6_slip 12 nn [rf 0 0, iv a, iv b, iv c, iv e] σ (.inl (some (iv r))) σ') : hCt E mL_slip hhL_slip 13 m [rf 0 0, iv a, iv b, iv c, iv e] σ (.inl (some (iv (r)))) σ' := by
  refine hCt_of (L := [some (rf 0 0), some (iv a), some (iv b), some (iv c), some (iv e), none]) (by decide +kernel) rfl rfl (Nat.le_of_ble_eq_true rfl) (fun X K hE => ?_)
  refine h_aload_0 K dL_slip_0 ?_
  refine h_iload_1 K dL_slip_1 ?_
  refine h_iload_2 K dL_slip_2 ?_
  refine h_iload_3 K dL_slip_3 ?_
  refine h_iload_4 K dL_slip_4 ?_
  refine h_callV4 K hc mtX6_slip miX6_slip rc0 ⟨by decide, by decide⟩ lkRL_38 ⟨by decide, by omega, by omega⟩ rfl (Nat.le_of_ble_eq_true rfl) dL_slip_6 ?_
  exact h_iret K hE rfl dL_slip_9 (by omega) (by omega) rfl rfl
theorem l_slip_1 {E : gE} {σ σ' : gS} (a b c e : Int) (nn m : Nat) (hn : nn ≤ m) (hc : gCt E mX6_slip 12 nn [rf 0 0, iv a, iv b, iv c, iv e] σ (.inr "java/lang/IndexOutOfBoundsException") σ') : hCt E mL_slip hhL_slip 13 m [rf 0 0, iv a, iv b, iv c, iv e] σ (.inl (some (iv ((-1))))) σ' := by
  refine hCt_of (L := [some (rf 0 0), some (iv a), some (iv b), some (iv c), some (iv e), none]) (by decide +kernel) rfl rfl (Nat.le_of_ble_eq_true rfl) (fun X K hE => ?_)
  refine h_aload_0 K dL_slip_0 ?_
  refine h_iload_1 K dL_slip_1 ?_
  refine h_iload_2 K dL_slip_2 ?_
  refine h_iload_3 K dL_slip_3 ?_
  refine h_iload_4 K dL_slip_4 ?_
  refine h_catV4 K hc mtX6_slip miX6_slip rc0 ⟨by decide, by decide⟩ lkRL_38 ⟨by decide, by omega, by omega⟩ rfl (Nat.le_of_ble_eq_true rfl) dL_slip_6 ⟨[], (0, 9, 10, 21), [(0, 9, 14, 14), (0, 9, 19, 16)], "java/lang/IndexOutOfBoundsException", rfl, (fun q hq => absurd hq List.not_mem_nil), by decide, by decide, (g_mem 570 (by decide +kernel)), (g_mem 438 (by decide +kernel)), rfl⟩ (fun q => ?_)
  refine h_astorec_5 K dL_slip_10 rfl ?_
  refine h_iconst K dL_slip_12 ?_
  exact h_iret K hE rfl dL_slip_13 (by omega) (by omega) rfl rfl
theorem l_slip_2 {E : gE} {σ σ' : gS} (a b c e : Int) (nn m : Nat) (hn : nn ≤ m) (hc : gCt E mX6_slip 12 nn [rf 0 0, iv a, iv b, iv c, iv e] σ (.inr "java/lang/IllegalArgumentException") σ') : hCt E mL_slip hhL_slip 13 m [rf 0 0, iv a, iv b, iv c, iv e] σ (.inl (some (iv ((-2))))) σ' := by
  refine hCt_of (L := [some (rf 0 0), some (iv a), some (iv b), some (iv c), some (iv e), none]) (by decide +kernel) rfl rfl (Nat.le_of_ble_eq_true rfl) (fun X K hE => ?_)
  refine h_aload_0 K dL_slip_0 ?_
  refine h_iload_1 K dL_slip_1 ?_
  refine h_iload_2 K dL_slip_2 ?_
  refine h_iload_3 K dL_slip_3 ?_
  refine h_iload_4 K dL_slip_4 ?_
  refine h_catV4 K hc mtX6_slip miX6_slip rc0 ⟨by decide, by decide⟩ lkRL_38 ⟨by decide, by omega, by omega⟩ rfl (Nat.le_of_ble_eq_true rfl) dL_slip_6 ⟨[(0, 9, 10, 21)], (0, 9, 14, 14), [(0, 9, 19, 16)], "java/lang/IllegalArgumentException", rfl, (List.forall_mem_cons.mpr ⟨⟨by decide, "java/lang/IndexOutOfBoundsException", (g_mem 570 (by decide +kernel)), by decide +kernel⟩, fun _ h => absurd h List.not_mem_nil⟩), by decide, by decide, (g_mem 345 (by decide +kernel)), (g_mem 41 (by decide +kernel)), rfl⟩ (fun q => ?_)
  refine h_astorec_5 K dL_slip_14 rfl ?_
  refine h_bipush K dL_slip_16 rfl ?_
  exact h_iret K hE rfl dL_slip_18 (by omega) (by omega) rfl rfl
theorem l_slip_3 {E : gE} {σ σ' : gS} (a b c e : Int) (nn m : Nat) (hn : nn ≤ m) (hc : gCt E mX6_slip 12 nn [rf 0 0, iv a, iv b, iv c, iv e] σ (.inr "java/lang/UnsupportedOperationException") σ') : hCt E mL_slip hhL_slip 13 m [rf 0 0, iv a, iv b, iv c, iv e] σ (.inl (some (iv ((-3))))) σ' := by
  refine hCt_of (L := [some (rf 0 0), some (iv a), some (iv b), some (iv c), some (iv e), none]) (by decide +kernel) rfl rfl (Nat.le_of_ble_eq_true rfl) (fun X K hE => ?_)
  refine h_aload_0 K dL_slip_0 ?_
  refine h_iload_1 K dL_slip_1 ?_
  refine h_iload_2 K dL_slip_2 ?_
  refine h_iload_3 K dL_slip_3 ?_
  refine h_iload_4 K dL_slip_4 ?_
  refine h_catV4 K hc mtX6_slip miX6_slip rc0 ⟨by decide, by decide⟩ lkRL_38 ⟨by decide, by omega, by omega⟩ rfl (Nat.le_of_ble_eq_true rfl) dL_slip_6 ⟨[(0, 9, 10, 21), (0, 9, 14, 14)], (0, 9, 19, 16), [], "java/lang/UnsupportedOperationException", rfl, (List.forall_mem_cons.mpr ⟨⟨by decide, "java/lang/IndexOutOfBoundsException", (g_mem 570 (by decide +kernel)), by decide +kernel⟩, List.forall_mem_cons.mpr ⟨⟨by decide, "java/lang/IllegalArgumentException", (g_mem 345 (by decide +kernel)), by decide +kernel⟩, fun _ h => absurd h List.not_mem_nil⟩⟩), by decide, by decide, (g_mem 346 (by decide +kernel)), (g_mem 455 (by decide +kernel)), rfl⟩ (fun q => ?_)
  refine h_astorec_5 K dL_slip_19 rfl ?_
  refine h_bipush K dL_slip_21 rfl ?_
  exact h_iret K hE rfl dL_slip_23 (by omega) (by omega) rfl rfl
abbrev mL_smudge : gMt := (yL_smudge, cL_smudge, 5, (Option.some Jvm.ClassFile.FieldType.int))
abbrev hhL_smudge : List (Nat × Nat × Nat × Nat) := [(0, 7, 8, 21), (0, 7, 12, 16)]
theorem l_smudge {E : gE} {σ σ' : gS} (a b c : Int) (r : Int) (nn m : Nat) (hn : nn ≤ m) (hc : gCt E mX6_smudge 12 nn [rf 0 0, iv a, iv b, iv c] σ (.inl (some (iv r))) σ') : hCt E mL_smudge hhL_smudge 13 m [rf 0 0, iv a, iv b, iv c] σ (.inl (some (iv (r)))) σ' := by
  refine hCt_of (L := [some (rf 0 0), some (iv a), some (iv b), some (iv c), none]) (by decide +kernel) rfl rfl (Nat.le_of_ble_eq_true rfl) (fun X K hE => ?_)
  refine h_aload_0 K dL_smudge_0 ?_
  refine h_iload_1 K dL_smudge_1 ?_
  refine h_iload_2 K dL_smudge_2 ?_
  refine h_iload_3 K dL_smudge_3 ?_
  refine h_callV3 K hc mtX6_smudge miX6_smudge rc0 ⟨by decide, by decide⟩ lkRL_41 ⟨by decide, by omega, by omega⟩ rfl (Nat.le_of_ble_eq_true rfl) dL_smudge_4 ?_
  exact h_iret K hE rfl dL_smudge_7 (by omega) (by omega) rfl rfl
theorem l_smudge_1 {E : gE} {σ σ' : gS} (a b c : Int) (nn m : Nat) (hn : nn ≤ m) (hc : gCt E mX6_smudge 12 nn [rf 0 0, iv a, iv b, iv c] σ (.inr "java/lang/IndexOutOfBoundsException") σ') : hCt E mL_smudge hhL_smudge 13 m [rf 0 0, iv a, iv b, iv c] σ (.inl (some (iv ((-1))))) σ' := by
  refine hCt_of (L := [some (rf 0 0), some (iv a), some (iv b), some (iv c), none]) (by decide +kernel) rfl rfl (Nat.le_of_ble_eq_true rfl) (fun X K hE => ?_)
  refine h_aload_0 K dL_smudge_0 ?_
  refine h_iload_1 K dL_smudge_1 ?_
  refine h_iload_2 K dL_smudge_2 ?_
  refine h_iload_3 K dL_smudge_3 ?_
  refine h_catV3 K hc mtX6_smudge miX6_smudge rc0 ⟨by decide, by decide⟩ lkRL_41 ⟨by decide, by omega, by omega⟩ rfl (Nat.le_of_ble_eq_true rfl) dL_smudge_4 ⟨[], (0, 7, 8, 21), [(0, 7, 12, 16)], "java/lang/IndexOutOfBoundsException", rfl, (fun q hq => absurd hq List.not_mem_nil), by decide, by decide, (g_mem 570 (by decide +kernel)), (g_mem 438 (by decide +kernel)), rfl⟩ (fun q => ?_)
  refine h_astorec_4 K dL_smudge_8 rfl ?_
  refine h_iconst K dL_smudge_10 ?_
  exact h_iret K hE rfl dL_smudge_11 (by omega) (by omega) rfl rfl
theorem l_smudge_2 {E : gE} {σ σ' : gS} (a b c : Int) (nn m : Nat) (hn : nn ≤ m) (hc : gCt E mX6_smudge 12 nn [rf 0 0, iv a, iv b, iv c] σ (.inr "java/lang/UnsupportedOperationException") σ') : hCt E mL_smudge hhL_smudge 13 m [rf 0 0, iv a, iv b, iv c] σ (.inl (some (iv ((-2))))) σ' := by
  refine hCt_of (L := [some (rf 0 0), some (iv a), some (iv b), some (iv c), none]) (by decide +kernel) rfl rfl (Nat.le_of_ble_eq_true rfl) (fun X K hE => ?_)
  refine h_aload_0 K dL_smudge_0 ?_
  refine h_iload_1 K dL_smudge_1 ?_
  refine h_iload_2 K dL_smudge_2 ?_
  refine h_iload_3 K dL_smudge_3 ?_
  refine h_catV3 K hc mtX6_smudge miX6_smudge rc0 ⟨by decide, by decide⟩ lkRL_41 ⟨by decide, by omega, by omega⟩ rfl (Nat.le_of_ble_eq_true rfl) dL_smudge_4 ⟨[(0, 7, 8, 21)], (0, 7, 12, 16), [], "java/lang/UnsupportedOperationException", rfl, (List.forall_mem_cons.mpr ⟨⟨by decide, "java/lang/IndexOutOfBoundsException", (g_mem 570 (by decide +kernel)), by decide +kernel⟩, fun _ h => absurd h List.not_mem_nil⟩), by decide, by decide, (g_mem 346 (by decide +kernel)), (g_mem 455 (by decide +kernel)), rfl⟩ (fun q => ?_)
  refine h_astorec_4 K dL_smudge_12 rfl ?_
  refine h_bipush K dL_smudge_14 rfl ?_
  exact h_iret K hE rfl dL_smudge_16 (by omega) (by omega) rfl rfl
abbrev mL_rowSum : gMt := (yL_rowSum, cL_rowSum, 4, (Option.some Jvm.ClassFile.FieldType.int))
abbrev hhL_rowSum : List (Nat × Nat × Nat × Nat) := [(0, 6, 7, 21), (0, 6, 11, 47)]
theorem l_rowSum {E : gE} {σ σ' : gS} (a b : Int) (r : Int) (nn m : Nat) (hn : nn ≤ m) (hc : gCt E mX6_rowSum 12 nn [rf 0 0, iv a, iv b] σ (.inl (some (iv r))) σ') : hCt E mL_rowSum hhL_rowSum 13 m [rf 0 0, iv a, iv b] σ (.inl (some (iv (r)))) σ' := by
  refine hCt_of (L := [some (rf 0 0), some (iv a), some (iv b), none]) (by decide +kernel) rfl rfl (Nat.le_of_ble_eq_true rfl) (fun X K hE => ?_)
  refine h_aload_0 K dL_rowSum_0 ?_
  refine h_iload_1 K dL_rowSum_1 ?_
  refine h_iload_2 K dL_rowSum_2 ?_
  refine h_callV2 K hc mtX6_rowSum miX6_rowSum rc0 ⟨by decide, by decide⟩ lkRL_44 ⟨by decide, by omega, by omega⟩ rfl (Nat.le_of_ble_eq_true rfl) dL_rowSum_3 ?_
  exact h_iret K hE rfl dL_rowSum_6 (by omega) (by omega) rfl rfl
theorem l_rowSum_1 {E : gE} {σ σ' : gS} (a b : Int) (nn m : Nat) (hn : nn ≤ m) (hc : gCt E mX6_rowSum 12 nn [rf 0 0, iv a, iv b] σ (.inr "java/lang/IndexOutOfBoundsException") σ') : hCt E mL_rowSum hhL_rowSum 13 m [rf 0 0, iv a, iv b] σ (.inl (some (iv ((-11))))) σ' := by
  refine hCt_of (L := [some (rf 0 0), some (iv a), some (iv b), none]) (by decide +kernel) rfl rfl (Nat.le_of_ble_eq_true rfl) (fun X K hE => ?_)
  refine h_aload_0 K dL_rowSum_0 ?_
  refine h_iload_1 K dL_rowSum_1 ?_
  refine h_iload_2 K dL_rowSum_2 ?_
  refine h_catV2 K hc mtX6_rowSum miX6_rowSum rc0 ⟨by decide, by decide⟩ lkRL_44 ⟨by decide, by omega, by omega⟩ rfl (Nat.le_of_ble_eq_true rfl) dL_rowSum_3 ⟨[], (0, 6, 7, 21), [(0, 6, 11, 47)], "java/lang/IndexOutOfBoundsException", rfl, (fun q hq => absurd hq List.not_mem_nil), by decide, by decide, (g_mem 570 (by decide +kernel)), (g_mem 438 (by decide +kernel)), rfl⟩ (fun q => ?_)
  refine h_astorec_3 K dL_rowSum_7 rfl ?_
  refine h_bipush K dL_rowSum_8 rfl ?_
  exact h_iret K hE rfl dL_rowSum_10 (by omega) (by omega) rfl rfl
theorem l_rowSum_2 {E : gE} {σ σ' : gS} (a b : Int) (nn m : Nat) (hn : nn ≤ m) (hc : gCt E mX6_rowSum 12 nn [rf 0 0, iv a, iv b] σ (.inr "java/util/NoSuchElementException") σ') : hCt E mL_rowSum hhL_rowSum 13 m [rf 0 0, iv a, iv b] σ (.inl (some (iv ((-13))))) σ' := by
  refine hCt_of (L := [some (rf 0 0), some (iv a), some (iv b), none]) (by decide +kernel) rfl rfl (Nat.le_of_ble_eq_true rfl) (fun X K hE => ?_)
  refine h_aload_0 K dL_rowSum_0 ?_
  refine h_iload_1 K dL_rowSum_1 ?_
  refine h_iload_2 K dL_rowSum_2 ?_
  refine h_catV2 K hc mtX6_rowSum miX6_rowSum rc0 ⟨by decide, by decide⟩ lkRL_44 ⟨by decide, by omega, by omega⟩ rfl (Nat.le_of_ble_eq_true rfl) dL_rowSum_3 ⟨[(0, 6, 7, 21)], (0, 6, 11, 47), [], "java/util/NoSuchElementException", rfl, (List.forall_mem_cons.mpr ⟨⟨by decide, "java/lang/IndexOutOfBoundsException", (g_mem 570 (by decide +kernel)), by decide +kernel⟩, fun _ h => absurd h List.not_mem_nil⟩), by decide, by decide, (g_mem 669 (by decide +kernel)), (g_mem 676 (by decide +kernel)), rfl⟩ (fun q => ?_)
  refine h_astorec_3 K dL_rowSum_11 rfl ?_
  refine h_bipush K dL_rowSum_12 rfl ?_
  exact h_iret K hE rfl dL_rowSum_14 (by omega) (by omega) rfl rfl
abbrev mL_columnSum : gMt := (yL_columnSum, cL_columnSum, 4, (Option.some Jvm.ClassFile.FieldType.int))
abbrev hhL_columnSum : List (Nat × Nat × Nat × Nat) := [(0, 6, 7, 21), (0, 6, 11, 47)]
theorem l_columnSum {E : gE} {σ σ' : gS} (a b : Int) (r : Int) (nn m : Nat) (hn : nn ≤ m) (hc : gCt E mX6_columnSum 12 nn [rf 0 0, iv a, iv b] σ (.inl (some (iv r))) σ') : hCt E mL_columnSum hhL_columnSum 13 m [rf 0 0, iv a, iv b] σ (.inl (some (iv (r)))) σ' := by
  refine hCt_of (L := [some (rf 0 0), some (iv a), some (iv b), none]) (by decide +kernel) rfl rfl (Nat.le_of_ble_eq_true rfl) (fun X K hE => ?_)
  refine h_aload_0 K dL_columnSum_0 ?_
  refine h_iload_1 K dL_columnSum_1 ?_
  refine h_iload_2 K dL_columnSum_2 ?_
  refine h_callV2 K hc mtX6_columnSum miX6_columnSum rc0 ⟨by decide, by decide⟩ lkRL_49 ⟨by decide, by omega, by omega⟩ rfl (Nat.le_of_ble_eq_true rfl) dL_columnSum_3 ?_
  exact h_iret K hE rfl dL_columnSum_6 (by omega) (by omega) rfl rfl
theorem l_columnSum_1 {E : gE} {σ σ' : gS} (a b : Int) (nn m : Nat) (hn : nn ≤ m) (hc : gCt E mX6_columnSum 12 nn [rf 0 0, iv a, iv b] σ (.inr "java/lang/IndexOutOfBoundsException") σ') : hCt E mL_columnSum hhL_columnSum 13 m [rf 0 0, iv a, iv b] σ (.inl (some (iv ((-11))))) σ' := by
  refine hCt_of (L := [some (rf 0 0), some (iv a), some (iv b), none]) (by decide +kernel) rfl rfl (Nat.le_of_ble_eq_true rfl) (fun X K hE => ?_)
  refine h_aload_0 K dL_columnSum_0 ?_
  refine h_iload_1 K dL_columnSum_1 ?_
  refine h_iload_2 K dL_columnSum_2 ?_
  refine h_catV2 K hc mtX6_columnSum miX6_columnSum rc0 ⟨by decide, by decide⟩ lkRL_49 ⟨by decide, by omega, by omega⟩ rfl (Nat.le_of_ble_eq_true rfl) dL_columnSum_3 ⟨[], (0, 6, 7, 21), [(0, 6, 11, 47)], "java/lang/IndexOutOfBoundsException", rfl, (fun q hq => absurd hq List.not_mem_nil), by decide, by decide, (g_mem 570 (by decide +kernel)), (g_mem 438 (by decide +kernel)), rfl⟩ (fun q => ?_)
  refine h_astorec_3 K dL_columnSum_7 rfl ?_
  refine h_bipush K dL_columnSum_8 rfl ?_
  exact h_iret K hE rfl dL_columnSum_10 (by omega) (by omega) rfl rfl
theorem l_columnSum_2 {E : gE} {σ σ' : gS} (a b : Int) (nn m : Nat) (hn : nn ≤ m) (hc : gCt E mX6_columnSum 12 nn [rf 0 0, iv a, iv b] σ (.inr "java/util/NoSuchElementException") σ') : hCt E mL_columnSum hhL_columnSum 13 m [rf 0 0, iv a, iv b] σ (.inl (some (iv ((-13))))) σ' := by
  refine hCt_of (L := [some (rf 0 0), some (iv a), some (iv b), none]) (by decide +kernel) rfl rfl (Nat.le_of_ble_eq_true rfl) (fun X K hE => ?_)
  refine h_aload_0 K dL_columnSum_0 ?_
  refine h_iload_1 K dL_columnSum_1 ?_
  refine h_iload_2 K dL_columnSum_2 ?_
  refine h_catV2 K hc mtX6_columnSum miX6_columnSum rc0 ⟨by decide, by decide⟩ lkRL_49 ⟨by decide, by omega, by omega⟩ rfl (Nat.le_of_ble_eq_true rfl) dL_columnSum_3 ⟨[(0, 6, 7, 21)], (0, 6, 11, 47), [], "java/util/NoSuchElementException", rfl, (List.forall_mem_cons.mpr ⟨⟨by decide, "java/lang/IndexOutOfBoundsException", (g_mem 570 (by decide +kernel)), by decide +kernel⟩, fun _ h => absurd h List.not_mem_nil⟩), by decide, by decide, (g_mem 669 (by decide +kernel)), (g_mem 676 (by decide +kernel)), rfl⟩ (fun q => ?_)
  refine h_astorec_3 K dL_columnSum_11 rfl ?_
  refine h_bipush K dL_columnSum_12 rfl ?_
  exact h_iret K hE rfl dL_columnSum_14 (by omega) (by omega) rfl rfl
abbrev mL_rowFault : gMt := (yL_rowFault, cL_rowFault, 4, (Option.some Jvm.ClassFile.FieldType.int))
abbrev hhL_rowFault : List (Nat × Nat × Nat × Nat) := [(0, 6, 7, 21), (0, 6, 11, 47)]
theorem l_rowFault {E : gE} {σ σ' : gS} (a b : Int) (r : Int) (nn m : Nat) (hn : nn ≤ m) (hc : gCt E mX6_rowFault 12 nn [rf 0 0, iv a, iv b] σ (.inl (some (iv r))) σ') : hCt E mL_rowFault hhL_rowFault 13 m [rf 0 0, iv a, iv b] σ (.inl (some (iv (r)))) σ' := by
  refine hCt_of (L := [some (rf 0 0), some (iv a), some (iv b), none]) (by decide +kernel) rfl rfl (Nat.le_of_ble_eq_true rfl) (fun X K hE => ?_)
  refine h_aload_0 K dL_rowFault_0 ?_
  refine h_iload_1 K dL_rowFault_1 ?_
  refine h_iload_2 K dL_rowFault_2 ?_
  refine h_callV2 K hc mtX6_rowFault miX6_rowFault rc0 ⟨by decide, by decide⟩ lkRL_52 ⟨by decide, by omega, by omega⟩ rfl (Nat.le_of_ble_eq_true rfl) dL_rowFault_3 ?_
  exact h_iret K hE rfl dL_rowFault_6 (by omega) (by omega) rfl rfl
theorem l_rowFault_1 {E : gE} {σ σ' : gS} (a b : Int) (nn m : Nat) (hn : nn ≤ m) (hc : gCt E mX6_rowFault 12 nn [rf 0 0, iv a, iv b] σ (.inr "java/lang/IndexOutOfBoundsException") σ') : hCt E mL_rowFault hhL_rowFault 13 m [rf 0 0, iv a, iv b] σ (.inl (some (iv ((-11))))) σ' := by
  refine hCt_of (L := [some (rf 0 0), some (iv a), some (iv b), none]) (by decide +kernel) rfl rfl (Nat.le_of_ble_eq_true rfl) (fun X K hE => ?_)
  refine h_aload_0 K dL_rowFault_0 ?_
  refine h_iload_1 K dL_rowFault_1 ?_
  refine h_iload_2 K dL_rowFault_2 ?_
  refine h_catV2 K hc mtX6_rowFault miX6_rowFault rc0 ⟨by decide, by decide⟩ lkRL_52 ⟨by decide, by omega, by omega⟩ rfl (Nat.le_of_ble_eq_true rfl) dL_rowFault_3 ⟨[], (0, 6, 7, 21), [(0, 6, 11, 47)], "java/lang/IndexOutOfBoundsException", rfl, (fun q hq => absurd hq List.not_mem_nil), by decide, by decide, (g_mem 570 (by decide +kernel)), (g_mem 438 (by decide +kernel)), rfl⟩ (fun q => ?_)
  refine h_astorec_3 K dL_rowFault_7 rfl ?_
  refine h_bipush K dL_rowFault_8 rfl ?_
  exact h_iret K hE rfl dL_rowFault_10 (by omega) (by omega) rfl rfl
theorem l_rowFault_2 {E : gE} {σ σ' : gS} (a b : Int) (nn m : Nat) (hn : nn ≤ m) (hc : gCt E mX6_rowFault 12 nn [rf 0 0, iv a, iv b] σ (.inr "java/util/NoSuchElementException") σ') : hCt E mL_rowFault hhL_rowFault 13 m [rf 0 0, iv a, iv b] σ (.inl (some (iv ((-13))))) σ' := by
  refine hCt_of (L := [some (rf 0 0), some (iv a), some (iv b), none]) (by decide +kernel) rfl rfl (Nat.le_of_ble_eq_true rfl) (fun X K hE => ?_)
  refine h_aload_0 K dL_rowFault_0 ?_
  refine h_iload_1 K dL_rowFault_1 ?_
  refine h_iload_2 K dL_rowFault_2 ?_
  refine h_catV2 K hc mtX6_rowFault miX6_rowFault rc0 ⟨by decide, by decide⟩ lkRL_52 ⟨by decide, by omega, by omega⟩ rfl (Nat.le_of_ble_eq_true rfl) dL_rowFault_3 ⟨[(0, 6, 7, 21)], (0, 6, 11, 47), [], "java/util/NoSuchElementException", rfl, (List.forall_mem_cons.mpr ⟨⟨by decide, "java/lang/IndexOutOfBoundsException", (g_mem 570 (by decide +kernel)), by decide +kernel⟩, fun _ h => absurd h List.not_mem_nil⟩), by decide, by decide, (g_mem 669 (by decide +kernel)), (g_mem 676 (by decide +kernel)), rfl⟩ (fun q => ?_)
  refine h_astorec_3 K dL_rowFault_11 rfl ?_
  refine h_bipush K dL_rowFault_12 rfl ?_
  exact h_iret K hE rfl dL_rowFault_14 (by omega) (by omega) rfl rfl
abbrev mL_columnFault : gMt := (yL_columnFault, cL_columnFault, 4, (Option.some Jvm.ClassFile.FieldType.int))
abbrev hhL_columnFault : List (Nat × Nat × Nat × Nat) := [(0, 6, 7, 21), (0, 6, 11, 47)]
theorem l_columnFault {E : gE} {σ σ' : gS} (a b : Int) (r : Int) (nn m : Nat) (hn : nn ≤ m) (hc : gCt E mX6_columnFault 12 nn [rf 0 0, iv a, iv b] σ (.inl (some (iv r))) σ') : hCt E mL_columnFault hhL_columnFault 13 m [rf 0 0, iv a, iv b] σ (.inl (some (iv (r)))) σ' := by
  refine hCt_of (L := [some (rf 0 0), some (iv a), some (iv b), none]) (by decide +kernel) rfl rfl (Nat.le_of_ble_eq_true rfl) (fun X K hE => ?_)
  refine h_aload_0 K dL_columnFault_0 ?_
  refine h_iload_1 K dL_columnFault_1 ?_
  refine h_iload_2 K dL_columnFault_2 ?_
  refine h_callV2 K hc mtX6_columnFault miX6_columnFault rc0 ⟨by decide, by decide⟩ lkRL_55 ⟨by decide, by omega, by omega⟩ rfl (Nat.le_of_ble_eq_true rfl) dL_columnFault_3 ?_
  exact h_iret K hE rfl dL_columnFault_6 (by omega) (by omega) rfl rfl
theorem l_columnFault_1 {E : gE} {σ σ' : gS} (a b : Int) (nn m : Nat) (hn : nn ≤ m) (hc : gCt E mX6_columnFault 12 nn [rf 0 0, iv a, iv b] σ (.inr "java/lang/IndexOutOfBoundsException") σ') : hCt E mL_columnFault hhL_columnFault 13 m [rf 0 0, iv a, iv b] σ (.inl (some (iv ((-11))))) σ' := by
  refine hCt_of (L := [some (rf 0 0), some (iv a), some (iv b), none]) (by decide +kernel) rfl rfl (Nat.le_of_ble_eq_true rfl) (fun X K hE => ?_)
  refine h_aload_0 K dL_columnFault_0 ?_
  refine h_iload_1 K dL_columnFault_1 ?_
  refine h_iload_2 K dL_columnFault_2 ?_
  refine h_catV2 K hc mtX6_columnFault miX6_columnFault rc0 ⟨by decide, by decide⟩ lkRL_55 ⟨by decide, by omega, by omega⟩ rfl (Nat.le_of_ble_eq_true rfl) dL_columnFault_3 ⟨[], (0, 6, 7, 21), [(0, 6, 11, 47)], "java/lang/IndexOutOfBoundsException", rfl, (fun q hq => absurd hq List.not_mem_nil), by decide, by decide, (g_mem 570 (by decide +kernel)), (g_mem 438 (by decide +kernel)), rfl⟩ (fun q => ?_)
  refine h_astorec_3 K dL_columnFault_7 rfl ?_
  refine h_bipush K dL_columnFault_8 rfl ?_
  exact h_iret K hE rfl dL_columnFault_10 (by omega) (by omega) rfl rfl
theorem l_columnFault_2 {E : gE} {σ σ' : gS} (a b : Int) (nn m : Nat) (hn : nn ≤ m) (hc : gCt E mX6_columnFault 12 nn [rf 0 0, iv a, iv b] σ (.inr "java/util/NoSuchElementException") σ') : hCt E mL_columnFault hhL_columnFault 13 m [rf 0 0, iv a, iv b] σ (.inl (some (iv ((-13))))) σ' := by
  refine hCt_of (L := [some (rf 0 0), some (iv a), some (iv b), none]) (by decide +kernel) rfl rfl (Nat.le_of_ble_eq_true rfl) (fun X K hE => ?_)
  refine h_aload_0 K dL_columnFault_0 ?_
  refine h_iload_1 K dL_columnFault_1 ?_
  refine h_iload_2 K dL_columnFault_2 ?_
  refine h_catV2 K hc mtX6_columnFault miX6_columnFault rc0 ⟨by decide, by decide⟩ lkRL_55 ⟨by decide, by omega, by omega⟩ rfl (Nat.le_of_ble_eq_true rfl) dL_columnFault_3 ⟨[(0, 6, 7, 21)], (0, 6, 11, 47), [], "java/util/NoSuchElementException", rfl, (List.forall_mem_cons.mpr ⟨⟨by decide, "java/lang/IndexOutOfBoundsException", (g_mem 570 (by decide +kernel)), by decide +kernel⟩, fun _ h => absurd h List.not_mem_nil⟩), by decide, by decide, (g_mem 669 (by decide +kernel)), (g_mem 676 (by decide +kernel)), rfl⟩ (fun q => ?_)
  refine h_astorec_3 K dL_columnFault_11 rfl ?_
  refine h_bipush K dL_columnFault_12 rfl ?_
  exact h_iret K hE rfl dL_columnFault_14 (by omega) (by omega) rfl rfl
abbrev mL_wrongRows : gMt := (yL_wrongRows, cL_wrongRows, 3, (Option.some Jvm.ClassFile.FieldType.int))
abbrev hhL_wrongRows : List (Nat × Nat × Nat × Nat) := [(0, 5, 6, 21), (0, 5, 10, 47)]
theorem l_wrongRows {E : gE} {σ σ' : gS} (a : Int) (r : Int) (nn m : Nat) (hn : nn ≤ m) (hc : gCt E mX6_wrongRows 12 nn [rf 0 0, iv a] σ (.inl (some (iv r))) σ') : hCt E mL_wrongRows hhL_wrongRows 13 m [rf 0 0, iv a] σ (.inl (some (iv (r)))) σ' := by
  refine hCt_of (L := [some (rf 0 0), some (iv a), none]) (by decide +kernel) rfl rfl (Nat.le_of_ble_eq_true rfl) (fun X K hE => ?_)
  refine h_aload_0 K dL_wrongRows_0 ?_
  refine h_iload_1 K dL_wrongRows_1 ?_
  refine h_callV1 K hc mtX6_wrongRows miX6_wrongRows rc0 ⟨by decide, by decide⟩ lkRL_58 ⟨by decide, by omega, by omega⟩ rfl (Nat.le_of_ble_eq_true rfl) dL_wrongRows_2 ?_
  exact h_iret K hE rfl dL_wrongRows_5 (by omega) (by omega) rfl rfl
theorem l_wrongRows_1 {E : gE} {σ σ' : gS} (a : Int) (nn m : Nat) (hn : nn ≤ m) (hc : gCt E mX6_wrongRows 12 nn [rf 0 0, iv a] σ (.inr "java/lang/IndexOutOfBoundsException") σ') : hCt E mL_wrongRows hhL_wrongRows 13 m [rf 0 0, iv a] σ (.inl (some (iv ((-11))))) σ' := by
  refine hCt_of (L := [some (rf 0 0), some (iv a), none]) (by decide +kernel) rfl rfl (Nat.le_of_ble_eq_true rfl) (fun X K hE => ?_)
  refine h_aload_0 K dL_wrongRows_0 ?_
  refine h_iload_1 K dL_wrongRows_1 ?_
  refine h_catV1 K hc mtX6_wrongRows miX6_wrongRows rc0 ⟨by decide, by decide⟩ lkRL_58 ⟨by decide, by omega, by omega⟩ rfl (Nat.le_of_ble_eq_true rfl) dL_wrongRows_2 ⟨[], (0, 5, 6, 21), [(0, 5, 10, 47)], "java/lang/IndexOutOfBoundsException", rfl, (fun q hq => absurd hq List.not_mem_nil), by decide, by decide, (g_mem 570 (by decide +kernel)), (g_mem 438 (by decide +kernel)), rfl⟩ (fun q => ?_)
  refine h_astorec_2 K dL_wrongRows_6 rfl ?_
  refine h_bipush K dL_wrongRows_7 rfl ?_
  exact h_iret K hE rfl dL_wrongRows_9 (by omega) (by omega) rfl rfl
theorem l_wrongRows_2 {E : gE} {σ σ' : gS} (a : Int) (nn m : Nat) (hn : nn ≤ m) (hc : gCt E mX6_wrongRows 12 nn [rf 0 0, iv a] σ (.inr "java/util/NoSuchElementException") σ') : hCt E mL_wrongRows hhL_wrongRows 13 m [rf 0 0, iv a] σ (.inl (some (iv ((-13))))) σ' := by
  refine hCt_of (L := [some (rf 0 0), some (iv a), none]) (by decide +kernel) rfl rfl (Nat.le_of_ble_eq_true rfl) (fun X K hE => ?_)
  refine h_aload_0 K dL_wrongRows_0 ?_
  refine h_iload_1 K dL_wrongRows_1 ?_
  refine h_catV1 K hc mtX6_wrongRows miX6_wrongRows rc0 ⟨by decide, by decide⟩ lkRL_58 ⟨by decide, by omega, by omega⟩ rfl (Nat.le_of_ble_eq_true rfl) dL_wrongRows_2 ⟨[(0, 5, 6, 21)], (0, 5, 10, 47), [], "java/util/NoSuchElementException", rfl, (List.forall_mem_cons.mpr ⟨⟨by decide, "java/lang/IndexOutOfBoundsException", (g_mem 570 (by decide +kernel)), by decide +kernel⟩, fun _ h => absurd h List.not_mem_nil⟩), by decide, by decide, (g_mem 669 (by decide +kernel)), (g_mem 676 (by decide +kernel)), rfl⟩ (fun q => ?_)
  refine h_astorec_2 K dL_wrongRows_10 rfl ?_
  refine h_bipush K dL_wrongRows_11 rfl ?_
  exact h_iret K hE rfl dL_wrongRows_13 (by omega) (by omega) rfl rfl
abbrev mL_wrongColumns : gMt := (yL_wrongColumns, cL_wrongColumns, 3, (Option.some Jvm.ClassFile.FieldType.int))
abbrev hhL_wrongColumns : List (Nat × Nat × Nat × Nat) := [(0, 5, 6, 21), (0, 5, 10, 47)]
theorem l_wrongColumns {E : gE} {σ σ' : gS} (a : Int) (r : Int) (nn m : Nat) (hn : nn ≤ m) (hc : gCt E mX6_wrongColumns 12 nn [rf 0 0, iv a] σ (.inl (some (iv r))) σ') : hCt E mL_wrongColumns hhL_wrongColumns 13 m [rf 0 0, iv a] σ (.inl (some (iv (r)))) σ' := by
  refine hCt_of (L := [some (rf 0 0), some (iv a), none]) (by decide +kernel) rfl rfl (Nat.le_of_ble_eq_true rfl) (fun X K hE => ?_)
  refine h_aload_0 K dL_wrongColumns_0 ?_
  refine h_iload_1 K dL_wrongColumns_1 ?_
  refine h_callV1 K hc mtX6_wrongColumns miX6_wrongColumns rc0 ⟨by decide, by decide⟩ lkRL_61 ⟨by decide, by omega, by omega⟩ rfl (Nat.le_of_ble_eq_true rfl) dL_wrongColumns_2 ?_
  exact h_iret K hE rfl dL_wrongColumns_5 (by omega) (by omega) rfl rfl
theorem l_wrongColumns_1 {E : gE} {σ σ' : gS} (a : Int) (nn m : Nat) (hn : nn ≤ m) (hc : gCt E mX6_wrongColumns 12 nn [rf 0 0, iv a] σ (.inr "java/lang/IndexOutOfBoundsException") σ') : hCt E mL_wrongColumns hhL_wrongColumns 13 m [rf 0 0, iv a] σ (.inl (some (iv ((-11))))) σ' := by
  refine hCt_of (L := [some (rf 0 0), some (iv a), none]) (by decide +kernel) rfl rfl (Nat.le_of_ble_eq_true rfl) (fun X K hE => ?_)
  refine h_aload_0 K dL_wrongColumns_0 ?_
  refine h_iload_1 K dL_wrongColumns_1 ?_
  refine h_catV1 K hc mtX6_wrongColumns miX6_wrongColumns rc0 ⟨by decide, by decide⟩ lkRL_61 ⟨by decide, by omega, by omega⟩ rfl (Nat.le_of_ble_eq_true rfl) dL_wrongColumns_2 ⟨[], (0, 5, 6, 21), [(0, 5, 10, 47)], "java/lang/IndexOutOfBoundsException", rfl, (fun q hq => absurd hq List.not_mem_nil), by decide, by decide, (g_mem 570 (by decide +kernel)), (g_mem 438 (by decide +kernel)), rfl⟩ (fun q => ?_)
  refine h_astorec_2 K dL_wrongColumns_6 rfl ?_
  refine h_bipush K dL_wrongColumns_7 rfl ?_
  exact h_iret K hE rfl dL_wrongColumns_9 (by omega) (by omega) rfl rfl
theorem l_wrongColumns_2 {E : gE} {σ σ' : gS} (a : Int) (nn m : Nat) (hn : nn ≤ m) (hc : gCt E mX6_wrongColumns 12 nn [rf 0 0, iv a] σ (.inr "java/util/NoSuchElementException") σ') : hCt E mL_wrongColumns hhL_wrongColumns 13 m [rf 0 0, iv a] σ (.inl (some (iv ((-13))))) σ' := by
  refine hCt_of (L := [some (rf 0 0), some (iv a), none]) (by decide +kernel) rfl rfl (Nat.le_of_ble_eq_true rfl) (fun X K hE => ?_)
  refine h_aload_0 K dL_wrongColumns_0 ?_
  refine h_iload_1 K dL_wrongColumns_1 ?_
  refine h_catV1 K hc mtX6_wrongColumns miX6_wrongColumns rc0 ⟨by decide, by decide⟩ lkRL_61 ⟨by decide, by omega, by omega⟩ rfl (Nat.le_of_ble_eq_true rfl) dL_wrongColumns_2 ⟨[(0, 5, 6, 21)], (0, 5, 10, 47), [], "java/util/NoSuchElementException", rfl, (List.forall_mem_cons.mpr ⟨⟨by decide, "java/lang/IndexOutOfBoundsException", (g_mem 570 (by decide +kernel)), by decide +kernel⟩, fun _ h => absurd h List.not_mem_nil⟩), by decide, by decide, (g_mem 669 (by decide +kernel)), (g_mem 676 (by decide +kernel)), rfl⟩ (fun q => ?_)
  refine h_astorec_2 K dL_wrongColumns_10 rfl ?_
  refine h_bipush K dL_wrongColumns_11 rfl ?_
  exact h_iret K hE rfl dL_wrongColumns_13 (by omega) (by omega) rfl rfl
abbrev mL_doubt : gMt := (yL_doubt, cL_doubt, 5, (Option.some Jvm.ClassFile.FieldType.int))
abbrev hhL_doubt : List (Nat × Nat × Nat × Nat) := [(0, 15, 16, 21)]
theorem l_doubt {E : gE} {σ σ' : gS} (a b c : Int) (r : Int) (h01 : r = 0 ∨ r = 1) (nn m : Nat) (hn : nn ≤ m) (hc : gCt E mX6_isInDoubt 12 nn [rf 0 0, iv a, iv b, iv c] σ (.inl (some (iv r))) σ') : hCt E mL_doubt hhL_doubt 13 m [rf 0 0, iv a, iv b, iv c] σ (.inl (some (iv (r)))) σ' := by
  refine hCt_of (L := [some (rf 0 0), some (iv a), some (iv b), some (iv c), none]) (by decide +kernel) rfl rfl (Nat.le_of_ble_eq_true rfl) (fun X K hE => ?_)
  refine h_aload_0 K dL_doubt_0 ?_
  refine h_iload_1 K dL_doubt_1 ?_
  refine h_iload_2 K dL_doubt_2 ?_
  refine h_iload_3 K dL_doubt_3 ?_
  refine h_callV3 K hc mtX6_isInDoubt miX6_isInDoubt rc0 ⟨by decide, by decide⟩ lkRL_64 ⟨by decide, by omega, by omega⟩ rfl (Nat.le_of_ble_eq_true rfl) dL_doubt_4 ?_
  rcases h01 with rfl | rfl
  · refine h_if_eq (tgt := 14) K (by omega) dL_doubt_7 (by decide) (fun h => ?_) (fun h => absurd rfl h)
    refine h_iconst K dL_doubt_14 ?_
    exact h_iret K hE rfl dL_doubt_15 (by omega) (by omega) rfl rfl
  · refine h_if_eq (tgt := 14) K (by omega) dL_doubt_7 (by decide) (fun h => absurd h (by omega)) (fun h => ?_)
    refine h_iconst K dL_doubt_10 ?_
    refine h_goto (tgt := 15) K dL_doubt_11 (by decide) ?_
    exact h_iret K hE rfl dL_doubt_15 (by omega) (by omega) rfl rfl
theorem l_doubt_1 {E : gE} {σ σ' : gS} (a b c : Int) (nn m : Nat) (hn : nn ≤ m) (hc : gCt E mX6_isInDoubt 12 nn [rf 0 0, iv a, iv b, iv c] σ (.inr "java/lang/IndexOutOfBoundsException") σ') : hCt E mL_doubt hhL_doubt 13 m [rf 0 0, iv a, iv b, iv c] σ (.inl (some (iv ((-11))))) σ' := by
  refine hCt_of (L := [some (rf 0 0), some (iv a), some (iv b), some (iv c), none]) (by decide +kernel) rfl rfl (Nat.le_of_ble_eq_true rfl) (fun X K hE => ?_)
  refine h_aload_0 K dL_doubt_0 ?_
  refine h_iload_1 K dL_doubt_1 ?_
  refine h_iload_2 K dL_doubt_2 ?_
  refine h_iload_3 K dL_doubt_3 ?_
  refine h_catV3 K hc mtX6_isInDoubt miX6_isInDoubt rc0 ⟨by decide, by decide⟩ lkRL_64 ⟨by decide, by omega, by omega⟩ rfl (Nat.le_of_ble_eq_true rfl) dL_doubt_4 ⟨[], (0, 15, 16, 21), [], "java/lang/IndexOutOfBoundsException", rfl, (fun q hq => absurd hq List.not_mem_nil), by decide, by decide, (g_mem 570 (by decide +kernel)), (g_mem 438 (by decide +kernel)), rfl⟩ (fun q => ?_)
  refine h_astorec_4 K dL_doubt_16 rfl ?_
  refine h_bipush K dL_doubt_18 rfl ?_
  exact h_iret K hE rfl dL_doubt_20 (by omega) (by omega) rfl rfl
abbrev mL_doubts : gMt := (yL_doubts, cL_doubts, 3, (Option.some Jvm.ClassFile.FieldType.int))
abbrev hhL_doubts : List (Nat × Nat × Nat × Nat) := [(0, 5, 6, 21)]
theorem l_doubts {E : gE} {σ σ' : gS} (a : Int) (r : Int) (nn m : Nat) (hn : nn ≤ m) (hc : gCt E mX6_doubts 12 nn [rf 0 0, iv a] σ (.inl (some (iv r))) σ') : hCt E mL_doubts hhL_doubts 13 m [rf 0 0, iv a] σ (.inl (some (iv (r)))) σ' := by
  refine hCt_of (L := [some (rf 0 0), some (iv a), none]) (by decide +kernel) rfl rfl (Nat.le_of_ble_eq_true rfl) (fun X K hE => ?_)
  refine h_aload_0 K dL_doubts_0 ?_
  refine h_iload_1 K dL_doubts_1 ?_
  refine h_callV1 K hc mtX6_doubts miX6_doubts rc0 ⟨by decide, by decide⟩ lkRL_68 ⟨by decide, by omega, by omega⟩ rfl (Nat.le_of_ble_eq_true rfl) dL_doubts_2 ?_
  exact h_iret K hE rfl dL_doubts_5 (by omega) (by omega) rfl rfl
theorem l_doubts_1 {E : gE} {σ σ' : gS} (a : Int) (nn m : Nat) (hn : nn ≤ m) (hc : gCt E mX6_doubts 12 nn [rf 0 0, iv a] σ (.inr "java/lang/IndexOutOfBoundsException") σ') : hCt E mL_doubts hhL_doubts 13 m [rf 0 0, iv a] σ (.inl (some (iv ((-11))))) σ' := by
  refine hCt_of (L := [some (rf 0 0), some (iv a), none]) (by decide +kernel) rfl rfl (Nat.le_of_ble_eq_true rfl) (fun X K hE => ?_)
  refine h_aload_0 K dL_doubts_0 ?_
  refine h_iload_1 K dL_doubts_1 ?_
  refine h_catV1 K hc mtX6_doubts miX6_doubts rc0 ⟨by decide, by decide⟩ lkRL_68 ⟨by decide, by omega, by omega⟩ rfl (Nat.le_of_ble_eq_true rfl) dL_doubts_2 ⟨[], (0, 5, 6, 21), [], "java/lang/IndexOutOfBoundsException", rfl, (fun q hq => absurd hq List.not_mem_nil), by decide, by decide, (g_mem 570 (by decide +kernel)), (g_mem 438 (by decide +kernel)), rfl⟩ (fun q => ?_)
  refine h_astorec_2 K dL_doubts_6 rfl ?_
  refine h_bipush K dL_doubts_7 rfl ?_
  exact h_iret K hE rfl dL_doubts_9 (by omega) (by omega) rfl rfl
abbrev mL_doubtsAgain : gMt := (yL_doubtsAgain, cL_doubtsAgain, 3, (Option.some Jvm.ClassFile.FieldType.int))
abbrev hhL_doubtsAgain : List (Nat × Nat × Nat × Nat) := [(0, 5, 6, 21)]
theorem l_doubtsAgain {E : gE} {σ σ' : gS} (a : Int) (r : Int) (nn m : Nat) (hn : nn ≤ m) (hc : gCt E mX6_doubtsAgain 12 nn [rf 0 0, iv a] σ (.inl (some (iv r))) σ') : hCt E mL_doubtsAgain hhL_doubtsAgain 13 m [rf 0 0, iv a] σ (.inl (some (iv (r)))) σ' := by
  refine hCt_of (L := [some (rf 0 0), some (iv a), none]) (by decide +kernel) rfl rfl (Nat.le_of_ble_eq_true rfl) (fun X K hE => ?_)
  refine h_aload_0 K dL_doubtsAgain_0 ?_
  refine h_iload_1 K dL_doubtsAgain_1 ?_
  refine h_callV1 K hc mtX6_doubtsAgain miX6_doubtsAgain rc0 ⟨by decide, by decide⟩ lkRL_71 ⟨by decide, by omega, by omega⟩ rfl (Nat.le_of_ble_eq_true rfl) dL_doubtsAgain_2 ?_
  exact h_iret K hE rfl dL_doubtsAgain_5 (by omega) (by omega) rfl rfl
theorem l_doubtsAgain_1 {E : gE} {σ σ' : gS} (a : Int) (nn m : Nat) (hn : nn ≤ m) (hc : gCt E mX6_doubtsAgain 12 nn [rf 0 0, iv a] σ (.inr "java/lang/IndexOutOfBoundsException") σ') : hCt E mL_doubtsAgain hhL_doubtsAgain 13 m [rf 0 0, iv a] σ (.inl (some (iv ((-11))))) σ' := by
  refine hCt_of (L := [some (rf 0 0), some (iv a), none]) (by decide +kernel) rfl rfl (Nat.le_of_ble_eq_true rfl) (fun X K hE => ?_)
  refine h_aload_0 K dL_doubtsAgain_0 ?_
  refine h_iload_1 K dL_doubtsAgain_1 ?_
  refine h_catV1 K hc mtX6_doubtsAgain miX6_doubtsAgain rc0 ⟨by decide, by decide⟩ lkRL_71 ⟨by decide, by omega, by omega⟩ rfl (Nat.le_of_ble_eq_true rfl) dL_doubtsAgain_2 ⟨[], (0, 5, 6, 21), [], "java/lang/IndexOutOfBoundsException", rfl, (fun q hq => absurd hq List.not_mem_nil), by decide, by decide, (g_mem 570 (by decide +kernel)), (g_mem 438 (by decide +kernel)), rfl⟩ (fun q => ?_)
  refine h_astorec_2 K dL_doubtsAgain_6 rfl ?_
  refine h_bipush K dL_doubtsAgain_7 rfl ?_
  exact h_iret K hE rfl dL_doubtsAgain_9 (by omega) (by omega) rfl rfl
abbrev mL_mend : gMt := (yL_mend, cL_mend, 3, (Option.some Jvm.ClassFile.FieldType.int))
abbrev hhL_mend : List (Nat × Nat × Nat × Nat) := [(0, 5, 6, 21), (0, 5, 9, 16)]
theorem l_mend {E : gE} {σ σ' : gS} (a : Int) (r : Int) (nn m : Nat) (hn : nn ≤ m) (hc : gCt E mX6_mend 12 nn [rf 0 0, iv a] σ (.inl (some (iv r))) σ') : hCt E mL_mend hhL_mend 13 m [rf 0 0, iv a] σ (.inl (some (iv (r)))) σ' := by
  refine hCt_of (L := [some (rf 0 0), some (iv a), none]) (by decide +kernel) rfl rfl (Nat.le_of_ble_eq_true rfl) (fun X K hE => ?_)
  refine h_aload_0 K dL_mend_0 ?_
  refine h_iload_1 K dL_mend_1 ?_
  refine h_callV1 K hc mtX6_mend miX6_mend rc0 ⟨by decide, by decide⟩ lkRL_74 ⟨by decide, by omega, by omega⟩ rfl (Nat.le_of_ble_eq_true rfl) dL_mend_2 ?_
  exact h_iret K hE rfl dL_mend_5 (by omega) (by omega) rfl rfl
theorem l_mend_1 {E : gE} {σ σ' : gS} (a : Int) (nn m : Nat) (hn : nn ≤ m) (hc : gCt E mX6_mend 12 nn [rf 0 0, iv a] σ (.inr "java/lang/IndexOutOfBoundsException") σ') : hCt E mL_mend hhL_mend 13 m [rf 0 0, iv a] σ (.inl (some (iv ((-1))))) σ' := by
  refine hCt_of (L := [some (rf 0 0), some (iv a), none]) (by decide +kernel) rfl rfl (Nat.le_of_ble_eq_true rfl) (fun X K hE => ?_)
  refine h_aload_0 K dL_mend_0 ?_
  refine h_iload_1 K dL_mend_1 ?_
  refine h_catV1 K hc mtX6_mend miX6_mend rc0 ⟨by decide, by decide⟩ lkRL_74 ⟨by decide, by omega, by omega⟩ rfl (Nat.le_of_ble_eq_true rfl) dL_mend_2 ⟨[], (0, 5, 6, 21), [(0, 5, 9, 16)], "java/lang/IndexOutOfBoundsException", rfl, (fun q hq => absurd hq List.not_mem_nil), by decide, by decide, (g_mem 570 (by decide +kernel)), (g_mem 438 (by decide +kernel)), rfl⟩ (fun q => ?_)
  refine h_astorec_2 K dL_mend_6 rfl ?_
  refine h_iconst K dL_mend_7 ?_
  exact h_iret K hE rfl dL_mend_8 (by omega) (by omega) rfl rfl
theorem l_mend_2 {E : gE} {σ σ' : gS} (a : Int) (nn m : Nat) (hn : nn ≤ m) (hc : gCt E mX6_mend 12 nn [rf 0 0, iv a] σ (.inr "java/lang/UnsupportedOperationException") σ') : hCt E mL_mend hhL_mend 13 m [rf 0 0, iv a] σ (.inl (some (iv ((-2))))) σ' := by
  refine hCt_of (L := [some (rf 0 0), some (iv a), none]) (by decide +kernel) rfl rfl (Nat.le_of_ble_eq_true rfl) (fun X K hE => ?_)
  refine h_aload_0 K dL_mend_0 ?_
  refine h_iload_1 K dL_mend_1 ?_
  refine h_catV1 K hc mtX6_mend miX6_mend rc0 ⟨by decide, by decide⟩ lkRL_74 ⟨by decide, by omega, by omega⟩ rfl (Nat.le_of_ble_eq_true rfl) dL_mend_2 ⟨[(0, 5, 6, 21)], (0, 5, 9, 16), [], "java/lang/UnsupportedOperationException", rfl, (List.forall_mem_cons.mpr ⟨⟨by decide, "java/lang/IndexOutOfBoundsException", (g_mem 570 (by decide +kernel)), by decide +kernel⟩, fun _ h => absurd h List.not_mem_nil⟩), by decide, by decide, (g_mem 346 (by decide +kernel)), (g_mem 455 (by decide +kernel)), rfl⟩ (fun q => ?_)
  refine h_astorec_2 K dL_mend_9 rfl ?_
  refine h_bipush K dL_mend_10 rfl ?_
  exact h_iret K hE rfl dL_mend_12 (by omega) (by omega) rfl rfl
abbrev mL_wouldMend : gMt := (yL_wouldMend, cL_wouldMend, 3, (Option.some Jvm.ClassFile.FieldType.int))
abbrev hhL_wouldMend : List (Nat × Nat × Nat × Nat) := [(0, 5, 6, 21), (0, 5, 10, 47)]
theorem l_wouldMend {E : gE} {σ σ' : gS} (a : Int) (r : Int) (nn m : Nat) (hn : nn ≤ m) (hc : gCt E mX6_wouldMend 12 nn [rf 0 0, iv a] σ (.inl (some (iv r))) σ') : hCt E mL_wouldMend hhL_wouldMend 13 m [rf 0 0, iv a] σ (.inl (some (iv (r)))) σ' := by
  refine hCt_of (L := [some (rf 0 0), some (iv a), none]) (by decide +kernel) rfl rfl (Nat.le_of_ble_eq_true rfl) (fun X K hE => ?_)
  refine h_aload_0 K dL_wouldMend_0 ?_
  refine h_iload_1 K dL_wouldMend_1 ?_
  refine h_callV1 K hc mtX6_wouldMend miX6_wouldMend rc0 ⟨by decide, by decide⟩ lkRL_77 ⟨by decide, by omega, by omega⟩ rfl (Nat.le_of_ble_eq_true rfl) dL_wouldMend_2 ?_
  exact h_iret K hE rfl dL_wouldMend_5 (by omega) (by omega) rfl rfl
theorem l_wouldMend_1 {E : gE} {σ σ' : gS} (a : Int) (nn m : Nat) (hn : nn ≤ m) (hc : gCt E mX6_wouldMend 12 nn [rf 0 0, iv a] σ (.inr "java/lang/IndexOutOfBoundsException") σ') : hCt E mL_wouldMend hhL_wouldMend 13 m [rf 0 0, iv a] σ (.inl (some (iv ((-11))))) σ' := by
  refine hCt_of (L := [some (rf 0 0), some (iv a), none]) (by decide +kernel) rfl rfl (Nat.le_of_ble_eq_true rfl) (fun X K hE => ?_)
  refine h_aload_0 K dL_wouldMend_0 ?_
  refine h_iload_1 K dL_wouldMend_1 ?_
  refine h_catV1 K hc mtX6_wouldMend miX6_wouldMend rc0 ⟨by decide, by decide⟩ lkRL_77 ⟨by decide, by omega, by omega⟩ rfl (Nat.le_of_ble_eq_true rfl) dL_wouldMend_2 ⟨[], (0, 5, 6, 21), [(0, 5, 10, 47)], "java/lang/IndexOutOfBoundsException", rfl, (fun q hq => absurd hq List.not_mem_nil), by decide, by decide, (g_mem 570 (by decide +kernel)), (g_mem 438 (by decide +kernel)), rfl⟩ (fun q => ?_)
  refine h_astorec_2 K dL_wouldMend_6 rfl ?_
  refine h_bipush K dL_wouldMend_7 rfl ?_
  exact h_iret K hE rfl dL_wouldMend_9 (by omega) (by omega) rfl rfl
theorem l_wouldMend_2 {E : gE} {σ σ' : gS} (a : Int) (nn m : Nat) (hn : nn ≤ m) (hc : gCt E mX6_wouldMend 12 nn [rf 0 0, iv a] σ (.inr "java/util/NoSuchElementException") σ') : hCt E mL_wouldMend hhL_wouldMend 13 m [rf 0 0, iv a] σ (.inl (some (iv ((-13))))) σ' := by
  refine hCt_of (L := [some (rf 0 0), some (iv a), none]) (by decide +kernel) rfl rfl (Nat.le_of_ble_eq_true rfl) (fun X K hE => ?_)
  refine h_aload_0 K dL_wouldMend_0 ?_
  refine h_iload_1 K dL_wouldMend_1 ?_
  refine h_catV1 K hc mtX6_wouldMend miX6_wouldMend rc0 ⟨by decide, by decide⟩ lkRL_77 ⟨by decide, by omega, by omega⟩ rfl (Nat.le_of_ble_eq_true rfl) dL_wouldMend_2 ⟨[(0, 5, 6, 21)], (0, 5, 10, 47), [], "java/util/NoSuchElementException", rfl, (List.forall_mem_cons.mpr ⟨⟨by decide, "java/lang/IndexOutOfBoundsException", (g_mem 570 (by decide +kernel)), by decide +kernel⟩, fun _ h => absurd h List.not_mem_nil⟩), by decide, by decide, (g_mem 669 (by decide +kernel)), (g_mem 676 (by decide +kernel)), rfl⟩ (fun q => ?_)
  refine h_astorec_2 K dL_wouldMend_10 rfl ?_
  refine h_bipush K dL_wouldMend_11 rfl ?_
  exact h_iret K hE rfl dL_wouldMend_13 (by omega) (by omega) rfl rfl
abbrev mL_mendAgain : gMt := (yL_mendAgain, cL_mendAgain, 3, (Option.some Jvm.ClassFile.FieldType.int))
abbrev hhL_mendAgain : List (Nat × Nat × Nat × Nat) := [(0, 5, 6, 21), (0, 5, 10, 47)]
theorem l_mendAgain {E : gE} {σ σ' : gS} (a : Int) (r : Int) (nn m : Nat) (hn : nn ≤ m) (hc : gCt E mX6_mendAgain 12 nn [rf 0 0, iv a] σ (.inl (some (iv r))) σ') : hCt E mL_mendAgain hhL_mendAgain 13 m [rf 0 0, iv a] σ (.inl (some (iv (r)))) σ' := by
  refine hCt_of (L := [some (rf 0 0), some (iv a), none]) (by decide +kernel) rfl rfl (Nat.le_of_ble_eq_true rfl) (fun X K hE => ?_)
  refine h_aload_0 K dL_mendAgain_0 ?_
  refine h_iload_1 K dL_mendAgain_1 ?_
  refine h_callV1 K hc mtX6_mendAgain miX6_mendAgain rc0 ⟨by decide, by decide⟩ lkRL_80 ⟨by decide, by omega, by omega⟩ rfl (Nat.le_of_ble_eq_true rfl) dL_mendAgain_2 ?_
  exact h_iret K hE rfl dL_mendAgain_5 (by omega) (by omega) rfl rfl
theorem l_mendAgain_1 {E : gE} {σ σ' : gS} (a : Int) (nn m : Nat) (hn : nn ≤ m) (hc : gCt E mX6_mendAgain 12 nn [rf 0 0, iv a] σ (.inr "java/lang/IndexOutOfBoundsException") σ') : hCt E mL_mendAgain hhL_mendAgain 13 m [rf 0 0, iv a] σ (.inl (some (iv ((-11))))) σ' := by
  refine hCt_of (L := [some (rf 0 0), some (iv a), none]) (by decide +kernel) rfl rfl (Nat.le_of_ble_eq_true rfl) (fun X K hE => ?_)
  refine h_aload_0 K dL_mendAgain_0 ?_
  refine h_iload_1 K dL_mendAgain_1 ?_
  refine h_catV1 K hc mtX6_mendAgain miX6_mendAgain rc0 ⟨by decide, by decide⟩ lkRL_80 ⟨by decide, by omega, by omega⟩ rfl (Nat.le_of_ble_eq_true rfl) dL_mendAgain_2 ⟨[], (0, 5, 6, 21), [(0, 5, 10, 47)], "java/lang/IndexOutOfBoundsException", rfl, (fun q hq => absurd hq List.not_mem_nil), by decide, by decide, (g_mem 570 (by decide +kernel)), (g_mem 438 (by decide +kernel)), rfl⟩ (fun q => ?_)
  refine h_astorec_2 K dL_mendAgain_6 rfl ?_
  refine h_bipush K dL_mendAgain_7 rfl ?_
  exact h_iret K hE rfl dL_mendAgain_9 (by omega) (by omega) rfl rfl
theorem l_mendAgain_2 {E : gE} {σ σ' : gS} (a : Int) (nn m : Nat) (hn : nn ≤ m) (hc : gCt E mX6_mendAgain 12 nn [rf 0 0, iv a] σ (.inr "java/util/NoSuchElementException") σ') : hCt E mL_mendAgain hhL_mendAgain 13 m [rf 0 0, iv a] σ (.inl (some (iv ((-13))))) σ' := by
  refine hCt_of (L := [some (rf 0 0), some (iv a), none]) (by decide +kernel) rfl rfl (Nat.le_of_ble_eq_true rfl) (fun X K hE => ?_)
  refine h_aload_0 K dL_mendAgain_0 ?_
  refine h_iload_1 K dL_mendAgain_1 ?_
  refine h_catV1 K hc mtX6_mendAgain miX6_mendAgain rc0 ⟨by decide, by decide⟩ lkRL_80 ⟨by decide, by omega, by omega⟩ rfl (Nat.le_of_ble_eq_true rfl) dL_mendAgain_2 ⟨[(0, 5, 6, 21)], (0, 5, 10, 47), [], "java/util/NoSuchElementException", rfl, (List.forall_mem_cons.mpr ⟨⟨by decide, "java/lang/IndexOutOfBoundsException", (g_mem 570 (by decide +kernel)), by decide +kernel⟩, fun _ h => absurd h List.not_mem_nil⟩), by decide, by decide, (g_mem 669 (by decide +kernel)), (g_mem 676 (by decide +kernel)), rfl⟩ (fun q => ?_)
  refine h_astorec_2 K dL_mendAgain_10 rfl ?_
  refine h_bipush K dL_mendAgain_11 rfl ?_
  exact h_iret K hE rfl dL_mendAgain_13 (by omega) (by omega) rfl rfl
abbrev mL_fill : gMt := (yL_fill, cL_fill, 3, (Option.some Jvm.ClassFile.FieldType.int))
abbrev hhL_fill : List (Nat × Nat × Nat × Nat) := [(0, 5, 6, 21), (0, 5, 9, 16)]
theorem l_fill {E : gE} {σ σ' : gS} (a : Int) (r : Int) (nn m : Nat) (hn : nn ≤ m) (hc : gCt E mX6_fill 12 nn [rf 0 0, iv a] σ (.inl (some (iv r))) σ') : hCt E mL_fill hhL_fill 13 m [rf 0 0, iv a] σ (.inl (some (iv (r)))) σ' := by
  refine hCt_of (L := [some (rf 0 0), some (iv a), none]) (by decide +kernel) rfl rfl (Nat.le_of_ble_eq_true rfl) (fun X K hE => ?_)
  refine h_aload_0 K dL_fill_0 ?_
  refine h_iload_1 K dL_fill_1 ?_
  refine h_callV1 K hc mtX6_fill miX6_fill rc0 ⟨by decide, by decide⟩ lkRL_83 ⟨by decide, by omega, by omega⟩ rfl (Nat.le_of_ble_eq_true rfl) dL_fill_2 ?_
  exact h_iret K hE rfl dL_fill_5 (by omega) (by omega) rfl rfl
theorem l_fill_1 {E : gE} {σ σ' : gS} (a : Int) (nn m : Nat) (hn : nn ≤ m) (hc : gCt E mX6_fill 12 nn [rf 0 0, iv a] σ (.inr "java/lang/IndexOutOfBoundsException") σ') : hCt E mL_fill hhL_fill 13 m [rf 0 0, iv a] σ (.inl (some (iv ((-1))))) σ' := by
  refine hCt_of (L := [some (rf 0 0), some (iv a), none]) (by decide +kernel) rfl rfl (Nat.le_of_ble_eq_true rfl) (fun X K hE => ?_)
  refine h_aload_0 K dL_fill_0 ?_
  refine h_iload_1 K dL_fill_1 ?_
  refine h_catV1 K hc mtX6_fill miX6_fill rc0 ⟨by decide, by decide⟩ lkRL_83 ⟨by decide, by omega, by omega⟩ rfl (Nat.le_of_ble_eq_true rfl) dL_fill_2 ⟨[], (0, 5, 6, 21), [(0, 5, 9, 16)], "java/lang/IndexOutOfBoundsException", rfl, (fun q hq => absurd hq List.not_mem_nil), by decide, by decide, (g_mem 570 (by decide +kernel)), (g_mem 438 (by decide +kernel)), rfl⟩ (fun q => ?_)
  refine h_astorec_2 K dL_fill_6 rfl ?_
  refine h_iconst K dL_fill_7 ?_
  exact h_iret K hE rfl dL_fill_8 (by omega) (by omega) rfl rfl
theorem l_fill_2 {E : gE} {σ σ' : gS} (a : Int) (nn m : Nat) (hn : nn ≤ m) (hc : gCt E mX6_fill 12 nn [rf 0 0, iv a] σ (.inr "java/lang/UnsupportedOperationException") σ') : hCt E mL_fill hhL_fill 13 m [rf 0 0, iv a] σ (.inl (some (iv ((-2))))) σ' := by
  refine hCt_of (L := [some (rf 0 0), some (iv a), none]) (by decide +kernel) rfl rfl (Nat.le_of_ble_eq_true rfl) (fun X K hE => ?_)
  refine h_aload_0 K dL_fill_0 ?_
  refine h_iload_1 K dL_fill_1 ?_
  refine h_catV1 K hc mtX6_fill miX6_fill rc0 ⟨by decide, by decide⟩ lkRL_83 ⟨by decide, by omega, by omega⟩ rfl (Nat.le_of_ble_eq_true rfl) dL_fill_2 ⟨[(0, 5, 6, 21)], (0, 5, 9, 16), [], "java/lang/UnsupportedOperationException", rfl, (List.forall_mem_cons.mpr ⟨⟨by decide, "java/lang/IndexOutOfBoundsException", (g_mem 570 (by decide +kernel)), by decide +kernel⟩, fun _ h => absurd h List.not_mem_nil⟩), by decide, by decide, (g_mem 346 (by decide +kernel)), (g_mem 455 (by decide +kernel)), rfl⟩ (fun q => ?_)
  refine h_astorec_2 K dL_fill_9 rfl ?_
  refine h_bipush K dL_fill_10 rfl ?_
  exact h_iret K hE rfl dL_fill_12 (by omega) (by omega) rfl rfl
abbrev mL_wouldFill : gMt := (yL_wouldFill, cL_wouldFill, 5, (Option.some Jvm.ClassFile.FieldType.int))
abbrev hhL_wouldFill : List (Nat × Nat × Nat × Nat) := [(0, 7, 8, 21), (0, 7, 13, 47)]
theorem l_wouldFill {E : gE} {σ σ' : gS} (a b c : Int) (r : Int) (nn m : Nat) (hn : nn ≤ m) (hc : gCt E mX6_wouldFill 12 nn [rf 0 0, iv a, iv b, iv c] σ (.inl (some (iv r))) σ') : hCt E mL_wouldFill hhL_wouldFill 13 m [rf 0 0, iv a, iv b, iv c] σ (.inl (some (iv (r)))) σ' := by
  refine hCt_of (L := [some (rf 0 0), some (iv a), some (iv b), some (iv c), none]) (by decide +kernel) rfl rfl (Nat.le_of_ble_eq_true rfl) (fun X K hE => ?_)
  refine h_aload_0 K dL_wouldFill_0 ?_
  refine h_iload_1 K dL_wouldFill_1 ?_
  refine h_iload_2 K dL_wouldFill_2 ?_
  refine h_iload_3 K dL_wouldFill_3 ?_
  refine h_callV3 K hc mtX6_wouldFill miX6_wouldFill rc0 ⟨by decide, by decide⟩ lkRL_86 ⟨by decide, by omega, by omega⟩ rfl (Nat.le_of_ble_eq_true rfl) dL_wouldFill_4 ?_
  exact h_iret K hE rfl dL_wouldFill_7 (by omega) (by omega) rfl rfl
theorem l_wouldFill_1 {E : gE} {σ σ' : gS} (a b c : Int) (nn m : Nat) (hn : nn ≤ m) (hc : gCt E mX6_wouldFill 12 nn [rf 0 0, iv a, iv b, iv c] σ (.inr "java/lang/IndexOutOfBoundsException") σ') : hCt E mL_wouldFill hhL_wouldFill 13 m [rf 0 0, iv a, iv b, iv c] σ (.inl (some (iv ((-11))))) σ' := by
  refine hCt_of (L := [some (rf 0 0), some (iv a), some (iv b), some (iv c), none]) (by decide +kernel) rfl rfl (Nat.le_of_ble_eq_true rfl) (fun X K hE => ?_)
  refine h_aload_0 K dL_wouldFill_0 ?_
  refine h_iload_1 K dL_wouldFill_1 ?_
  refine h_iload_2 K dL_wouldFill_2 ?_
  refine h_iload_3 K dL_wouldFill_3 ?_
  refine h_catV3 K hc mtX6_wouldFill miX6_wouldFill rc0 ⟨by decide, by decide⟩ lkRL_86 ⟨by decide, by omega, by omega⟩ rfl (Nat.le_of_ble_eq_true rfl) dL_wouldFill_4 ⟨[], (0, 7, 8, 21), [(0, 7, 13, 47)], "java/lang/IndexOutOfBoundsException", rfl, (fun q hq => absurd hq List.not_mem_nil), by decide, by decide, (g_mem 570 (by decide +kernel)), (g_mem 438 (by decide +kernel)), rfl⟩ (fun q => ?_)
  refine h_astorec_4 K dL_wouldFill_8 rfl ?_
  refine h_bipush K dL_wouldFill_10 rfl ?_
  exact h_iret K hE rfl dL_wouldFill_12 (by omega) (by omega) rfl rfl
theorem l_wouldFill_2 {E : gE} {σ σ' : gS} (a b c : Int) (nn m : Nat) (hn : nn ≤ m) (hc : gCt E mX6_wouldFill 12 nn [rf 0 0, iv a, iv b, iv c] σ (.inr "java/util/NoSuchElementException") σ') : hCt E mL_wouldFill hhL_wouldFill 13 m [rf 0 0, iv a, iv b, iv c] σ (.inl (some (iv ((-13))))) σ' := by
  refine hCt_of (L := [some (rf 0 0), some (iv a), some (iv b), some (iv c), none]) (by decide +kernel) rfl rfl (Nat.le_of_ble_eq_true rfl) (fun X K hE => ?_)
  refine h_aload_0 K dL_wouldFill_0 ?_
  refine h_iload_1 K dL_wouldFill_1 ?_
  refine h_iload_2 K dL_wouldFill_2 ?_
  refine h_iload_3 K dL_wouldFill_3 ?_
  refine h_catV3 K hc mtX6_wouldFill miX6_wouldFill rc0 ⟨by decide, by decide⟩ lkRL_86 ⟨by decide, by omega, by omega⟩ rfl (Nat.le_of_ble_eq_true rfl) dL_wouldFill_4 ⟨[(0, 7, 8, 21)], (0, 7, 13, 47), [], "java/util/NoSuchElementException", rfl, (List.forall_mem_cons.mpr ⟨⟨by decide, "java/lang/IndexOutOfBoundsException", (g_mem 570 (by decide +kernel)), by decide +kernel⟩, fun _ h => absurd h List.not_mem_nil⟩), by decide, by decide, (g_mem 669 (by decide +kernel)), (g_mem 676 (by decide +kernel)), rfl⟩ (fun q => ?_)
  refine h_astorec_4 K dL_wouldFill_13 rfl ?_
  refine h_bipush K dL_wouldFill_15 rfl ?_
  exact h_iret K hE rfl dL_wouldFill_17 (by omega) (by omega) rfl rfl
abbrev mL_differ : gMt := (yL_differ, cL_differ, 4, (Option.some Jvm.ClassFile.FieldType.int))
abbrev hhL_differ : List (Nat × Nat × Nat × Nat) := [(0, 6, 7, 21), (0, 6, 11, 14)]
theorem l_differ {E : gE} {σ σ' : gS} (a b : Int) (r : Int) (nn m : Nat) (hn : nn ≤ m) (hc : gCt E mX6_differ 12 nn [rf 0 0, iv a, iv b] σ (.inl (some (iv r))) σ') : hCt E mL_differ hhL_differ 13 m [rf 0 0, iv a, iv b] σ (.inl (some (iv (r)))) σ' := by
  refine hCt_of (L := [some (rf 0 0), some (iv a), some (iv b), none]) (by decide +kernel) rfl rfl (Nat.le_of_ble_eq_true rfl) (fun X K hE => ?_)
  refine h_aload_0 K dL_differ_0 ?_
  refine h_iload_1 K dL_differ_1 ?_
  refine h_iload_2 K dL_differ_2 ?_
  refine h_callV2 K hc mtX6_differ miX6_differ rc0 ⟨by decide, by decide⟩ lkRL_89 ⟨by decide, by omega, by omega⟩ rfl (Nat.le_of_ble_eq_true rfl) dL_differ_3 ?_
  exact h_iret K hE rfl dL_differ_6 (by omega) (by omega) rfl rfl
theorem l_differ_1 {E : gE} {σ σ' : gS} (a b : Int) (nn m : Nat) (hn : nn ≤ m) (hc : gCt E mX6_differ 12 nn [rf 0 0, iv a, iv b] σ (.inr "java/lang/IndexOutOfBoundsException") σ') : hCt E mL_differ hhL_differ 13 m [rf 0 0, iv a, iv b] σ (.inl (some (iv ((-11))))) σ' := by
  refine hCt_of (L := [some (rf 0 0), some (iv a), some (iv b), none]) (by decide +kernel) rfl rfl (Nat.le_of_ble_eq_true rfl) (fun X K hE => ?_)
  refine h_aload_0 K dL_differ_0 ?_
  refine h_iload_1 K dL_differ_1 ?_
  refine h_iload_2 K dL_differ_2 ?_
  refine h_catV2 K hc mtX6_differ miX6_differ rc0 ⟨by decide, by decide⟩ lkRL_89 ⟨by decide, by omega, by omega⟩ rfl (Nat.le_of_ble_eq_true rfl) dL_differ_3 ⟨[], (0, 6, 7, 21), [(0, 6, 11, 14)], "java/lang/IndexOutOfBoundsException", rfl, (fun q hq => absurd hq List.not_mem_nil), by decide, by decide, (g_mem 570 (by decide +kernel)), (g_mem 438 (by decide +kernel)), rfl⟩ (fun q => ?_)
  refine h_astorec_3 K dL_differ_7 rfl ?_
  refine h_bipush K dL_differ_8 rfl ?_
  exact h_iret K hE rfl dL_differ_10 (by omega) (by omega) rfl rfl
theorem l_differ_2 {E : gE} {σ σ' : gS} (a b : Int) (nn m : Nat) (hn : nn ≤ m) (hc : gCt E mX6_differ 12 nn [rf 0 0, iv a, iv b] σ (.inr "java/lang/IllegalArgumentException") σ') : hCt E mL_differ hhL_differ 13 m [rf 0 0, iv a, iv b] σ (.inl (some (iv ((-12))))) σ' := by
  refine hCt_of (L := [some (rf 0 0), some (iv a), some (iv b), none]) (by decide +kernel) rfl rfl (Nat.le_of_ble_eq_true rfl) (fun X K hE => ?_)
  refine h_aload_0 K dL_differ_0 ?_
  refine h_iload_1 K dL_differ_1 ?_
  refine h_iload_2 K dL_differ_2 ?_
  refine h_catV2 K hc mtX6_differ miX6_differ rc0 ⟨by decide, by decide⟩ lkRL_89 ⟨by decide, by omega, by omega⟩ rfl (Nat.le_of_ble_eq_true rfl) dL_differ_3 ⟨[(0, 6, 7, 21)], (0, 6, 11, 14), [], "java/lang/IllegalArgumentException", rfl, (List.forall_mem_cons.mpr ⟨⟨by decide, "java/lang/IndexOutOfBoundsException", (g_mem 570 (by decide +kernel)), by decide +kernel⟩, fun _ h => absurd h List.not_mem_nil⟩), by decide, by decide, (g_mem 345 (by decide +kernel)), (g_mem 41 (by decide +kernel)), rfl⟩ (fun q => ?_)
  refine h_astorec_3 K dL_differ_11 rfl ?_
  refine h_bipush K dL_differ_12 rfl ?_
  exact h_iret K hE rfl dL_differ_14 (by omega) (by omega) rfl rfl
abbrev mL_ranked : gMt := (yL_ranked, cL_ranked, 3, (Option.some Jvm.ClassFile.FieldType.int))
abbrev hhL_ranked : List (Nat × Nat × Nat × Nat) := [(0, 5, 6, 47)]
theorem l_ranked {E : gE} {σ σ' : gS} (a : Int) (r : Int) (nn m : Nat) (hn : nn ≤ m) (hc : gCt E mX6_ranked 12 nn [rf 0 0, iv a] σ (.inl (some (iv r))) σ') : hCt E mL_ranked hhL_ranked 13 m [rf 0 0, iv a] σ (.inl (some (iv (r)))) σ' := by
  refine hCt_of (L := [some (rf 0 0), some (iv a), none]) (by decide +kernel) rfl rfl (Nat.le_of_ble_eq_true rfl) (fun X K hE => ?_)
  refine h_aload_0 K dL_ranked_0 ?_
  refine h_iload_1 K dL_ranked_1 ?_
  refine h_callV1 K hc mtX6_ranked miX6_ranked rc0 ⟨by decide, by decide⟩ lkRL_92 ⟨by decide, by omega, by omega⟩ rfl (Nat.le_of_ble_eq_true rfl) dL_ranked_2 ?_
  exact h_iret K hE rfl dL_ranked_5 (by omega) (by omega) rfl rfl
theorem l_ranked_1 {E : gE} {σ σ' : gS} (a : Int) (nn m : Nat) (hn : nn ≤ m) (hc : gCt E mX6_ranked 12 nn [rf 0 0, iv a] σ (.inr "java/util/NoSuchElementException") σ') : hCt E mL_ranked hhL_ranked 13 m [rf 0 0, iv a] σ (.inl (some (iv ((-13))))) σ' := by
  refine hCt_of (L := [some (rf 0 0), some (iv a), none]) (by decide +kernel) rfl rfl (Nat.le_of_ble_eq_true rfl) (fun X K hE => ?_)
  refine h_aload_0 K dL_ranked_0 ?_
  refine h_iload_1 K dL_ranked_1 ?_
  refine h_catV1 K hc mtX6_ranked miX6_ranked rc0 ⟨by decide, by decide⟩ lkRL_92 ⟨by decide, by omega, by omega⟩ rfl (Nat.le_of_ble_eq_true rfl) dL_ranked_2 ⟨[], (0, 5, 6, 47), [], "java/util/NoSuchElementException", rfl, (fun q hq => absurd hq List.not_mem_nil), by decide, by decide, (g_mem 669 (by decide +kernel)), (g_mem 676 (by decide +kernel)), rfl⟩ (fun q => ?_)
  refine h_astorec_2 K dL_ranked_6 rfl ?_
  refine h_bipush K dL_ranked_7 rfl ?_
  exact h_iret K hE rfl dL_ranked_9 (by omega) (by omega) rfl rfl
abbrev mL_count : gMt := (yL_count, cL_count, 4, (Option.some Jvm.ClassFile.FieldType.int))
abbrev hhL_count : List (Nat × Nat × Nat × Nat) := [(0, 6, 7, 21), (0, 6, 11, 14)]
theorem l_count {E : gE} {σ σ' : gS} (a b : Int) (r : Int) (nn m : Nat) (hn : nn ≤ m) (hc : gCt E mX6_count 12 nn [rf 0 0, iv a, iv b] σ (.inl (some (iv r))) σ') : hCt E mL_count hhL_count 13 m [rf 0 0, iv a, iv b] σ (.inl (some (iv (r)))) σ' := by
  refine hCt_of (L := [some (rf 0 0), some (iv a), some (iv b), none]) (by decide +kernel) rfl rfl (Nat.le_of_ble_eq_true rfl) (fun X K hE => ?_)
  refine h_aload_0 K dL_count_0 ?_
  refine h_iload_1 K dL_count_1 ?_
  refine h_iload_2 K dL_count_2 ?_
  refine h_callV2 K hc mtX6_count miX6_count rc0 ⟨by decide, by decide⟩ lkRL_95 ⟨by decide, by omega, by omega⟩ rfl (Nat.le_of_ble_eq_true rfl) dL_count_3 ?_
  exact h_iret K hE rfl dL_count_6 (by omega) (by omega) rfl rfl
theorem l_count_1 {E : gE} {σ σ' : gS} (a b : Int) (nn m : Nat) (hn : nn ≤ m) (hc : gCt E mX6_count 12 nn [rf 0 0, iv a, iv b] σ (.inr "java/lang/IndexOutOfBoundsException") σ') : hCt E mL_count hhL_count 13 m [rf 0 0, iv a, iv b] σ (.inl (some (iv ((-11))))) σ' := by
  refine hCt_of (L := [some (rf 0 0), some (iv a), some (iv b), none]) (by decide +kernel) rfl rfl (Nat.le_of_ble_eq_true rfl) (fun X K hE => ?_)
  refine h_aload_0 K dL_count_0 ?_
  refine h_iload_1 K dL_count_1 ?_
  refine h_iload_2 K dL_count_2 ?_
  refine h_catV2 K hc mtX6_count miX6_count rc0 ⟨by decide, by decide⟩ lkRL_95 ⟨by decide, by omega, by omega⟩ rfl (Nat.le_of_ble_eq_true rfl) dL_count_3 ⟨[], (0, 6, 7, 21), [(0, 6, 11, 14)], "java/lang/IndexOutOfBoundsException", rfl, (fun q hq => absurd hq List.not_mem_nil), by decide, by decide, (g_mem 570 (by decide +kernel)), (g_mem 438 (by decide +kernel)), rfl⟩ (fun q => ?_)
  refine h_astorec_3 K dL_count_7 rfl ?_
  refine h_bipush K dL_count_8 rfl ?_
  exact h_iret K hE rfl dL_count_10 (by omega) (by omega) rfl rfl
theorem l_count_2 {E : gE} {σ σ' : gS} (a b : Int) (nn m : Nat) (hn : nn ≤ m) (hc : gCt E mX6_count 12 nn [rf 0 0, iv a, iv b] σ (.inr "java/lang/IllegalArgumentException") σ') : hCt E mL_count hhL_count 13 m [rf 0 0, iv a, iv b] σ (.inl (some (iv ((-12))))) σ' := by
  refine hCt_of (L := [some (rf 0 0), some (iv a), some (iv b), none]) (by decide +kernel) rfl rfl (Nat.le_of_ble_eq_true rfl) (fun X K hE => ?_)
  refine h_aload_0 K dL_count_0 ?_
  refine h_iload_1 K dL_count_1 ?_
  refine h_iload_2 K dL_count_2 ?_
  refine h_catV2 K hc mtX6_count miX6_count rc0 ⟨by decide, by decide⟩ lkRL_95 ⟨by decide, by omega, by omega⟩ rfl (Nat.le_of_ble_eq_true rfl) dL_count_3 ⟨[(0, 6, 7, 21)], (0, 6, 11, 14), [], "java/lang/IllegalArgumentException", rfl, (List.forall_mem_cons.mpr ⟨⟨by decide, "java/lang/IndexOutOfBoundsException", (g_mem 570 (by decide +kernel)), by decide +kernel⟩, fun _ h => absurd h List.not_mem_nil⟩), by decide, by decide, (g_mem 345 (by decide +kernel)), (g_mem 41 (by decide +kernel)), rfl⟩ (fun q => ?_)
  refine h_astorec_3 K dL_count_11 rfl ?_
  refine h_bipush K dL_count_12 rfl ?_
  exact h_iret K hE rfl dL_count_14 (by omega) (by omega) rfl rfl
abbrev mL_line : gMt := (yL_line, cL_line, 4, (Option.some Jvm.ClassFile.FieldType.int))
abbrev hhL_line : List (Nat × Nat × Nat × Nat) := [(0, 6, 7, 21)]
theorem l_line {E : gE} {σ σ' : gS} (a b : Int) (r : Int) (nn m : Nat) (hn : nn ≤ m) (hc : gCt E mX6_line 12 nn [rf 0 0, iv a, iv b] σ (.inl (some (iv r))) σ') : hCt E mL_line hhL_line 13 m [rf 0 0, iv a, iv b] σ (.inl (some (iv (r)))) σ' := by
  refine hCt_of (L := [some (rf 0 0), some (iv a), some (iv b), none]) (by decide +kernel) rfl rfl (Nat.le_of_ble_eq_true rfl) (fun X K hE => ?_)
  refine h_aload_0 K dL_line_0 ?_
  refine h_iload_1 K dL_line_1 ?_
  refine h_iload_2 K dL_line_2 ?_
  refine h_callV2 K hc mtX6_line miX6_line rc0 ⟨by decide, by decide⟩ lkRL_98 ⟨by decide, by omega, by omega⟩ rfl (Nat.le_of_ble_eq_true rfl) dL_line_3 ?_
  exact h_iret K hE rfl dL_line_6 (by omega) (by omega) rfl rfl
theorem l_line_1 {E : gE} {σ σ' : gS} (a b : Int) (nn m : Nat) (hn : nn ≤ m) (hc : gCt E mX6_line 12 nn [rf 0 0, iv a, iv b] σ (.inr "java/lang/IndexOutOfBoundsException") σ') : hCt E mL_line hhL_line 13 m [rf 0 0, iv a, iv b] σ (.inl (some (iv ((-11))))) σ' := by
  refine hCt_of (L := [some (rf 0 0), some (iv a), some (iv b), none]) (by decide +kernel) rfl rfl (Nat.le_of_ble_eq_true rfl) (fun X K hE => ?_)
  refine h_aload_0 K dL_line_0 ?_
  refine h_iload_1 K dL_line_1 ?_
  refine h_iload_2 K dL_line_2 ?_
  refine h_catV2 K hc mtX6_line miX6_line rc0 ⟨by decide, by decide⟩ lkRL_98 ⟨by decide, by omega, by omega⟩ rfl (Nat.le_of_ble_eq_true rfl) dL_line_3 ⟨[], (0, 6, 7, 21), [], "java/lang/IndexOutOfBoundsException", rfl, (fun q hq => absurd hq List.not_mem_nil), by decide, by decide, (g_mem 570 (by decide +kernel)), (g_mem 438 (by decide +kernel)), rfl⟩ (fun q => ?_)
  refine h_astorec_3 K dL_line_7 rfl ?_
  refine h_bipush K dL_line_8 rfl ?_
  exact h_iret K hE rfl dL_line_10 (by omega) (by omega) rfl rfl
abbrev mL_append : gMt := (yL_append, cL_append, 3, (Option.some Jvm.ClassFile.FieldType.int))
abbrev hhL_append : List (Nat × Nat × Nat × Nat) := [(0, 5, 6, 105)]
theorem l_append {E : gE} {σ σ' : gS} (a : Int) (r : Int) (nn m : Nat) (hn : nn ≤ m) (hc : gCt E mX6_append 12 nn [rf 0 0, iv a] σ (.inl (some (iv r))) σ') : hCt E mL_append hhL_append 13 m [rf 0 0, iv a] σ (.inl (some (iv (r)))) σ' := by
  refine hCt_of (L := [some (rf 0 0), some (iv a), none]) (by decide +kernel) rfl rfl (Nat.le_of_ble_eq_true rfl) (fun X K hE => ?_)
  refine h_aload_0 K dL_append_0 ?_
  refine h_iload_1 K dL_append_1 ?_
  refine h_callV1 K hc mtX6_append miX6_append rc0 ⟨by decide, by decide⟩ lkRL_101 ⟨by decide, by omega, by omega⟩ rfl (Nat.le_of_ble_eq_true rfl) dL_append_2 ?_
  exact h_iret K hE rfl dL_append_5 (by omega) (by omega) rfl rfl
theorem l_append_1 {E : gE} {σ σ' : gS} (a : Int) (nn m : Nat) (hn : nn ≤ m) (hc : gCt E mX6_append 12 nn [rf 0 0, iv a] σ (.inr "java/lang/IllegalStateException") σ') : hCt E mL_append hhL_append 13 m [rf 0 0, iv a] σ (.inl (some (iv ((-1))))) σ' := by
  refine hCt_of (L := [some (rf 0 0), some (iv a), none]) (by decide +kernel) rfl rfl (Nat.le_of_ble_eq_true rfl) (fun X K hE => ?_)
  refine h_aload_0 K dL_append_0 ?_
  refine h_iload_1 K dL_append_1 ?_
  refine h_catV1 K hc mtX6_append miX6_append rc0 ⟨by decide, by decide⟩ lkRL_101 ⟨by decide, by omega, by omega⟩ rfl (Nat.le_of_ble_eq_true rfl) dL_append_2 ⟨[], (0, 5, 6, 105), [], "java/lang/IllegalStateException", rfl, (fun q hq => absurd hq List.not_mem_nil), by decide, by decide, (g_mem 1230 (by decide +kernel)), (g_mem 1241 (by decide +kernel)), rfl⟩ (fun q => ?_)
  refine h_astorec_2 K dL_append_6 rfl ?_
  refine h_iconst K dL_append_7 ?_
  exact h_iret K hE rfl dL_append_8 (by omega) (by omega) rfl rfl
abbrev mL_reads : gMt := (yL_reads, cL_reads, 2, (Option.some Jvm.ClassFile.FieldType.int))
abbrev hhL_reads : List (Nat × Nat × Nat × Nat) := [(0, 4, 5, 14), (0, 4, 8, 16)]
theorem l_reads {E : gE} {σ σ' : gS} (r : Int) (nn m : Nat) (hn : nn ≤ m) (hc : gCt E mX6_read 12 nn [rf 0 0] σ (.inl (some (iv r))) σ') : hCt E mL_reads hhL_reads 13 m [rf 0 0] σ (.inl (some (iv (r)))) σ' := by
  refine hCt_of (L := [some (rf 0 0), none]) (by decide +kernel) rfl rfl (Nat.le_of_ble_eq_true rfl) (fun X K hE => ?_)
  refine h_aload_0 K dL_reads_0 ?_
  refine h_callV0 K hc mtX6_read miX6_read rc0 ⟨by decide, by decide⟩ lkRL_107 ⟨by decide, by omega, by omega⟩ rfl (Nat.le_of_ble_eq_true rfl) dL_reads_1 ?_
  exact h_iret K hE rfl dL_reads_4 (by omega) (by omega) rfl rfl
theorem l_reads_1 {E : gE} {σ σ' : gS} (nn m : Nat) (hn : nn ≤ m) (hc : gCt E mX6_read 12 nn [rf 0 0] σ (.inr "java/lang/IllegalArgumentException") σ') : hCt E mL_reads hhL_reads 13 m [rf 0 0] σ (.inl (some (iv ((-1))))) σ' := by
  refine hCt_of (L := [some (rf 0 0), none]) (by decide +kernel) rfl rfl (Nat.le_of_ble_eq_true rfl) (fun X K hE => ?_)
  refine h_aload_0 K dL_reads_0 ?_
  refine h_catV0 K hc mtX6_read miX6_read rc0 ⟨by decide, by decide⟩ lkRL_107 ⟨by decide, by omega, by omega⟩ rfl (Nat.le_of_ble_eq_true rfl) dL_reads_1 ⟨[], (0, 4, 5, 14), [(0, 4, 8, 16)], "java/lang/IllegalArgumentException", rfl, (fun q hq => absurd hq List.not_mem_nil), by decide, by decide, (g_mem 345 (by decide +kernel)), (g_mem 41 (by decide +kernel)), rfl⟩ (fun q => ?_)
  refine h_astorec_1 K dL_reads_5 rfl ?_
  refine h_iconst K dL_reads_6 ?_
  exact h_iret K hE rfl dL_reads_7 (by omega) (by omega) rfl rfl
theorem l_reads_2 {E : gE} {σ σ' : gS} (nn m : Nat) (hn : nn ≤ m) (hc : gCt E mX6_read 12 nn [rf 0 0] σ (.inr "java/lang/UnsupportedOperationException") σ') : hCt E mL_reads hhL_reads 13 m [rf 0 0] σ (.inl (some (iv ((-2))))) σ' := by
  refine hCt_of (L := [some (rf 0 0), none]) (by decide +kernel) rfl rfl (Nat.le_of_ble_eq_true rfl) (fun X K hE => ?_)
  refine h_aload_0 K dL_reads_0 ?_
  refine h_catV0 K hc mtX6_read miX6_read rc0 ⟨by decide, by decide⟩ lkRL_107 ⟨by decide, by omega, by omega⟩ rfl (Nat.le_of_ble_eq_true rfl) dL_reads_1 ⟨[(0, 4, 5, 14)], (0, 4, 8, 16), [], "java/lang/UnsupportedOperationException", rfl, (List.forall_mem_cons.mpr ⟨⟨by decide, "java/lang/IllegalArgumentException", (g_mem 345 (by decide +kernel)), by decide +kernel⟩, fun _ h => absurd h List.not_mem_nil⟩), by decide, by decide, (g_mem 346 (by decide +kernel)), (g_mem 455 (by decide +kernel)), rfl⟩ (fun q => ?_)
  refine h_astorec_1 K dL_reads_8 rfl ?_
  refine h_bipush K dL_reads_9 rfl ?_
  exact h_iret K hE rfl dL_reads_11 (by omega) (by omega) rfl rfl
abbrev mL_refusal : gMt := (yL_refusal, cL_refusal, 3, (Option.some Jvm.ClassFile.FieldType.int))
abbrev hhL_refusal : List (Nat × Nat × Nat × Nat) := [(0, 5, 6, 47)]
theorem l_refusal {E : gE} {σ σ' : gS} (a : Int) (r : Int) (nn m : Nat) (hn : nn ≤ m) (hc : gCt E mX6_refusal 12 nn [rf 0 0, iv a] σ (.inl (some (iv r))) σ') : hCt E mL_refusal hhL_refusal 13 m [rf 0 0, iv a] σ (.inl (some (iv (r)))) σ' := by
  refine hCt_of (L := [some (rf 0 0), some (iv a), none]) (by decide +kernel) rfl rfl (Nat.le_of_ble_eq_true rfl) (fun X K hE => ?_)
  refine h_aload_0 K dL_refusal_0 ?_
  refine h_iload_1 K dL_refusal_1 ?_
  refine h_callV1 K hc mtX6_refusal miX6_refusal rc0 ⟨by decide, by decide⟩ lkRL_129 ⟨by decide, by omega, by omega⟩ rfl (Nat.le_of_ble_eq_true rfl) dL_refusal_2 ?_
  exact h_iret K hE rfl dL_refusal_5 (by omega) (by omega) rfl rfl
theorem l_refusal_1 {E : gE} {σ σ' : gS} (a : Int) (nn m : Nat) (hn : nn ≤ m) (hc : gCt E mX6_refusal 12 nn [rf 0 0, iv a] σ (.inr "java/util/NoSuchElementException") σ') : hCt E mL_refusal hhL_refusal 13 m [rf 0 0, iv a] σ (.inl (some (iv ((-101))))) σ' := by
  refine hCt_of (L := [some (rf 0 0), some (iv a), none]) (by decide +kernel) rfl rfl (Nat.le_of_ble_eq_true rfl) (fun X K hE => ?_)
  refine h_aload_0 K dL_refusal_0 ?_
  refine h_iload_1 K dL_refusal_1 ?_
  refine h_catV1 K hc mtX6_refusal miX6_refusal rc0 ⟨by decide, by decide⟩ lkRL_129 ⟨by decide, by omega, by omega⟩ rfl (Nat.le_of_ble_eq_true rfl) dL_refusal_2 ⟨[], (0, 5, 6, 47), [], "java/util/NoSuchElementException", rfl, (fun q hq => absurd hq List.not_mem_nil), by decide, by decide, (g_mem 669 (by decide +kernel)), (g_mem 676 (by decide +kernel)), rfl⟩ (fun q => ?_)
  refine h_astorec_2 K dL_refusal_6 rfl ?_
  refine h_bipush K dL_refusal_7 rfl ?_
  exact h_iret K hE rfl dL_refusal_9 (by omega) (by omega) rfl rfl
abbrev mL_undo : gMt := (yL_undo, cL_undo, 2, (Option.some Jvm.ClassFile.FieldType.int))
abbrev hhL_undo : List (Nat × Nat × Nat × Nat) := [(0, 4, 5, 105)]
theorem l_undo {E : gE} {σ σ' : gS} (r : Int) (nn m : Nat) (hn : nn ≤ m) (hc : gCt E mX6_undo 12 nn [rf 0 0] σ (.inl (some (iv r))) σ') : hCt E mL_undo hhL_undo 13 m [rf 0 0] σ (.inl (some (iv (r)))) σ' := by
  refine hCt_of (L := [some (rf 0 0), none]) (by decide +kernel) rfl rfl (Nat.le_of_ble_eq_true rfl) (fun X K hE => ?_)
  refine h_aload_0 K dL_undo_0 ?_
  refine h_callV0 K hc mtX6_undo miX6_undo rc0 ⟨by decide, by decide⟩ lkRL_133 ⟨by decide, by omega, by omega⟩ rfl (Nat.le_of_ble_eq_true rfl) dL_undo_1 ?_
  exact h_iret K hE rfl dL_undo_4 (by omega) (by omega) rfl rfl
theorem l_undo_1 {E : gE} {σ σ' : gS} (nn m : Nat) (hn : nn ≤ m) (hc : gCt E mX6_undo 12 nn [rf 0 0] σ (.inr "java/lang/IllegalStateException") σ') : hCt E mL_undo hhL_undo 13 m [rf 0 0] σ (.inl (some (iv ((-1))))) σ' := by
  refine hCt_of (L := [some (rf 0 0), none]) (by decide +kernel) rfl rfl (Nat.le_of_ble_eq_true rfl) (fun X K hE => ?_)
  refine h_aload_0 K dL_undo_0 ?_
  refine h_catV0 K hc mtX6_undo miX6_undo rc0 ⟨by decide, by decide⟩ lkRL_133 ⟨by decide, by omega, by omega⟩ rfl (Nat.le_of_ble_eq_true rfl) dL_undo_1 ⟨[], (0, 4, 5, 105), [], "java/lang/IllegalStateException", rfl, (fun q hq => absurd hq List.not_mem_nil), by decide, by decide, (g_mem 1230 (by decide +kernel)), (g_mem 1241 (by decide +kernel)), rfl⟩ (fun q => ?_)
  refine h_astorec_1 K dL_undo_5 rfl ?_
  refine h_iconst K dL_undo_6 ?_
  exact h_iret K hE rfl dL_undo_7 (by omega) (by omega) rfl rfl
