/-! ===== new builders, constant strings of the law ===== -/
/-- a builder b that is new since E0, with so many letters -/
def gNB (E0 : gE) (σ0 : gS) (E : gE) (σ : gS) (b i v w m n : Nat) (f : Nat → Int) : Prop := gMore E0 E ∧ gFr E0 σ0 σ [] ∧ gSB E σ b i v w m n f ∧ (∀ x ∈ gX E0, x.2.2.1 ≠ i) ∧ ∀ x ∈ gX E0, x.2.2.1 ≠ w
section NB
variable {E0 E E2 E3 : gE} {σ0 σ σ2 σ3 : gS} {b i v w m n : Nat} {f : Nat → Int}
theorem nb_init {v2 w2 : Nat} (hm : gMore E0 E) (hX : gX E = gX E0 ++ [(b, 33, i, 0)]) (hi : ∀ x ∈ gX E0, x.2.2.1 ≠ i) (hm2 : gMore E E2) (h : gSB E2 σ2 b i v2 w2 16 0 f) (hf : gFr E (gNw0 σ0 33 i) σ2 [i]) (hw : ∀ x ∈ gX E, x.2.2.1 ≠ w2) : gNB E0 σ0 E2 σ2 b i v2 w2 16 0 f :=
  ⟨hm.tr hm2, (gFr_n (by omega) hi).tr hm hf (fun c hc => Or.inr (by rw [List.mem_singleton.mp hc]; exact hi)), h, hi, fun x hx => hw x (gMem_more hm hx)⟩
theorem nb_n0 : (gNw0 σ 33 i).1 33 i 3 = 0 := (if_pos ⟨rfl, rfl⟩).trans (if_neg (by omega))
theorem nb_app {v2 w2 m2 n2 : Nat} {g : Nat → Int} (h : gNB E0 σ0 E σ b i v w m n f) (hm : gMore E E2) (h2 : gSB E2 σ2 b i v2 w2 m2 n2 g) (hw : w2 = w ∨ ∀ x ∈ gX E, x.2.2.1 ≠ w2) (hf : gFr E σ σ2 [i, w]) : gNB E0 σ0 E2 σ2 b i v2 w2 m2 n2 g := by
  obtain ⟨a1, a2, a3, a4, a5⟩ := h
  refine ⟨a1.tr hm, a2.tr a1 hf (fun c hc => Or.inr ?_), h2, a4, ?_⟩
  · rcases List.mem_cons.mp hc with rfl | hc
    · exact a4
    · rw [List.mem_singleton.mp hc]; exact a5
  · rcases hw with rfl | hw
    · exact a5
    · exact fun x hx => hw x (gMem_more a1 hx)
theorem gNB.kept (h : gNB E0 σ0 E σ b i v w m n f) (hm : gMore E E2) (hf : gFr E σ σ2 []) : gNB E0 σ0 E2 σ2 b i v w m n f :=
  ⟨h.1.tr hm, h.2.1.tr h.1 hf (fun c hc => absurd hc List.not_mem_nil), h.2.2.1.kept hm hf List.not_mem_nil List.not_mem_nil, h.2.2.2⟩
theorem gSB_cong {g : Nat → Int} {n2 : Nat} (h : gSB E σ b i v w m n f) (hn : n = n2) (hg : ∀ j, j < n → f j = g j) : gSB E σ b i v w m n2 g := by
  subst hn
  exact ⟨h.1, h.2.1, h.2.2.1, h.2.2.2.1, h.2.2.2.2.1, h.2.2.2.2.2.1, h.2.2.2.2.2.2.1, fun j hj => (h.2.2.2.2.2.2.2.1 j hj).trans (hg j hj), h.2.2.2.2.2.2.2.2⟩
theorem gNB.cong {g : Nat → Int} {n2 : Nat} (h : gNB E0 σ0 E σ b i v w m n f) (hn : n = n2) (hg : ∀ j, j < n → f j = g j) : gNB E0 σ0 E σ b i v w m n2 g := ⟨h.1, h.2.1, gSB_cong h.2.2.1 hn hg, h.2.2.2⟩
theorem gStr_cong {z : Nat} {g : Nat → Int} (h : gStr E z n f) (hg : ∀ j, j < n → f j = g j) : gStr E z n g := by
  obtain ⟨v, s1, s2, ⟨cell, t1, t2, t3, t4, t5, t6, t7⟩, s4⟩ := h
  exact ⟨v, s1, s2, ⟨cell, t1, t2, t3, t4, t5, fun j hj => by rw [t6 j hj]; show some (Value.int (Int32.ofInt (f j))) = _; rw [hg j hj], t7⟩, s4⟩
theorem gSt.cong {z n2 : Nat} {g : Nat → Int} {l : List Nat} (h : gSt E σ z n f l) (hn : n = n2) (hg : ∀ j, j < n → f j = g j) : gSt E σ z n2 g l := by
  subst hn
  rcases h with h | ⟨i, v, w, h1, h2, h3, h4, h5, h6, h7⟩
  · exact Or.inl (gStr_cong h hg)
  · exact Or.inr ⟨i, v, w, h1, h2, h3, h4, h5, h6, fun j hj => (h7 j hj).trans (hg j hj)⟩
theorem gSB.hi (h : gSB E σ b i v w m n f) (hh : gHi σ σ2) : gSB E σ2 b i v w m n f := by
  obtain ⟨h1, h2, h3, h4, h5, h6, h7, h8, h9⟩ := h
  exact ⟨h1, h2, (hh _ _ _ (by omega)).trans h3, (hh _ _ _ (by omega)).trans h4, (hh _ _ _ (by omega)).trans h5, h6, h7, fun j hj => (hh _ _ _ (by omega)).trans (h8 j hj), fun j hj => by rw [hh 32 w j (by omega)]; exact h9 j hj⟩
theorem gJv_fr {Y : Nat → Int} {pm : Nat} {P : Nat → Nat → Int} {l : List Nat} (hf : gFr E σ σ2 l) (h : gJv σ Y pm P) : gJv σ2 Y pm P :=
  gJv_lo ⟨fun a b c q => hf.1 a (by omega) b c, by rw [hf.2.1]⟩ h
end NB
section GX
variable {X : gM} {E : gE} {M : gMt} {D n cells slots pc : Nat} {L : List (Option gV)} {st : List gV} {σ : gS}
theorem x_ldcSw (K : gK X E M D n) {own tx : String} {idx : Nat} (ho : M.1.cls = own) (hs : Cond.stringRef own idx tx ∈ lw_tbl) (hx : Cond.exactly (.string own idx) "java/lang/String" ∈ flatC gNar) (d : decode M.2.1 pc = .ok (.ldc_w idx, 3)) (k : gWX X E cells slots (pc + 3) L (.inl (.ref (gTa E (.string own idx))) :: st) σ) : gWX X E cells slots pc L st σ := by
  subst ho
  intro H locs ls hP hS hl T hT Z
  have hZ := gVkA K.2.2.2.2.1 hs hx
  obtain ⟨t, a1, b1⟩ := k H locs ls hP hS hl T hT Z
  exact ⟨t, Z.ldcStringW K.1 K.2.2.2.1 (text := tx) hZ.1 hZ.2 (g := F0 X.2.2.2.2.2.1 pc ls (st.map (gc E))) rfl (by rw [K.2.1]; exact d) t a1, b1⟩
end GX
def lt245 : Nat → Int := fun j => ([63] : List Int).getD j 0
theorem lw245_x : Cond.exactly (Term.string "ScrollChecksLaw" 245) "java/lang/String" ∈ flatC gNar := by decide +kernel
theorem lw245_s : gStW (Term.string "ScrollChecksLaw" 245) 1 lt245 := ⟨lw245_x, by decide +kernel, by decide +kernel, by decide +kernel, by decide +kernel⟩
theorem ls245 {E : gE} {U : State} {H : Heap} (h : gN E U H) : gStr E (gTa E (Term.string "ScrollChecksLaw" 245)) 1 lt245 := (gStr_of h (by decide) lw245_s).2
theorem lb245 : ∀ j, j < 1 → 0 ≤ lt245 j ∧ lt245 j < 128 := by decide +kernel
def lt247 : Nat → Int := fun j => ([] : List Int).getD j 0
theorem lw247_x : Cond.exactly (Term.string "ScrollChecksLaw" 247) "java/lang/String" ∈ flatC gNar := by decide +kernel
theorem lw247_s : gStW (Term.string "ScrollChecksLaw" 247) 0 lt247 := ⟨lw247_x, by decide +kernel, by decide +kernel, by decide +kernel, by decide +kernel⟩
theorem ls247 {E : gE} {U : State} {H : Heap} (h : gN E U H) : gStr E (gTa E (Term.string "ScrollChecksLaw" 247)) 0 lt247 := (gStr_of h (by decide) lw247_s).2
theorem lb247 : ∀ j, j < 0 → 0 ≤ lt247 j ∧ lt247 j < 128 := by decide +kernel
def lt259 : Nat → Int := fun j => ([124] : List Int).getD j 0
theorem lw259_x : Cond.exactly (Term.string "ScrollChecksLaw" 259) "java/lang/String" ∈ flatC gNar := by decide +kernel
theorem lw259_s : gStW (Term.string "ScrollChecksLaw" 259) 1 lt259 := ⟨lw259_x, by decide +kernel, by decide +kernel, by decide +kernel, by decide +kernel⟩
theorem ls259 {E : gE} {U : State} {H : Heap} (h : gN E U H) : gStr E (gTa E (Term.string "ScrollChecksLaw" 259)) 1 lt259 := (gStr_of h (by decide) lw259_s).2
theorem lb259 : ∀ j, j < 1 → 0 ≤ lt259 j ∧ lt259 j < 128 := by decide +kernel
def lt261 : Nat → Int := fun j => ([33] : List Int).getD j 0
theorem lw261_x : Cond.exactly (Term.string "ScrollChecksLaw" 261) "java/lang/String" ∈ flatC gNar := by decide +kernel
theorem lw261_s : gStW (Term.string "ScrollChecksLaw" 261) 1 lt261 := ⟨lw261_x, by decide +kernel, by decide +kernel, by decide +kernel, by decide +kernel⟩
theorem ls261 {E : gE} {U : State} {H : Heap} (h : gN E U H) : gStr E (gTa E (Term.string "ScrollChecksLaw" 261)) 1 lt261 := (gStr_of h (by decide) lw261_s).2
theorem lb261 : ∀ j, j < 1 → 0 ≤ lt261 j ∧ lt261 j < 128 := by decide +kernel
def lt298 : Nat → Int := fun j => ([119, 48, 58, 48, 44, 48, 61] : List Int).getD j 0
theorem lw298_x : Cond.exactly (Term.string "ScrollChecksLaw" 298) "java/lang/String" ∈ flatC gNar := by decide +kernel
theorem lw298_s : gStW (Term.string "ScrollChecksLaw" 298) 7 lt298 := ⟨lw298_x, by decide +kernel, by decide +kernel, by decide +kernel, by decide +kernel⟩
theorem ls298 {E : gE} {U : State} {H : Heap} (h : gN E U H) : gStr E (gTa E (Term.string "ScrollChecksLaw" 298)) 7 lt298 := (gStr_of h (by decide) lw298_s).2
theorem lb298 : ∀ j, j < 7 → 0 ≤ lt298 j ∧ lt298 j < 128 := by decide +kernel
def lt300 : Nat → Int := fun j => ([59, 115, 48, 59, 101, 48, 58, 48, 44, 48, 43] : List Int).getD j 0
theorem lw300_x : Cond.exactly (Term.string "ScrollChecksLaw" 300) "java/lang/String" ∈ flatC gNar := by decide +kernel
theorem lw300_s : gStW (Term.string "ScrollChecksLaw" 300) 11 lt300 := ⟨lw300_x, by decide +kernel, by decide +kernel, by decide +kernel, by decide +kernel⟩
theorem ls300 {E : gE} {U : State} {H : Heap} (h : gN E U H) : gStr E (gTa E (Term.string "ScrollChecksLaw" 300)) 11 lt300 := (gStr_of h (by decide) lw300_s).2
theorem lb300 : ∀ j, j < 11 → 0 ≤ lt300 j ∧ lt300 j < 128 := by decide +kernel
def lt302 : Nat → Int := fun j => ([59, 120, 48, 58, 48, 44, 48, 59, 102, 48, 59, 109] : List Int).getD j 0
theorem lw302_x : Cond.exactly (Term.string "ScrollChecksLaw" 302) "java/lang/String" ∈ flatC gNar := by decide +kernel
theorem lw302_s : gStW (Term.string "ScrollChecksLaw" 302) 12 lt302 := ⟨lw302_x, by decide +kernel, by decide +kernel, by decide +kernel, by decide +kernel⟩
theorem ls302 {E : gE} {U : State} {H : Heap} (h : gN E U H) : gStr E (gTa E (Term.string "ScrollChecksLaw" 302)) 12 lt302 := (gStr_of h (by decide) lw302_s).2
theorem lb302 : ∀ j, j < 12 → 0 ≤ lt302 j ∧ lt302 j < 128 := by decide +kernel
/-- the letters of a row written -/
def tl (z : Nat → Int) (r : Nat) : Nat → Int := fun j => (gLn z r).getD j 0
def tlN (z : Nat → Int) : Nat := (z 1).toNat + (if z 2 = 1 then 2 else 0)
theorem gLn_len (z : Nat → Int) (r : Nat) : (gLn z r).length = tlN z + (if s_w z r = true then 1 else 0) := by
  unfold gLn tlN
  rw [List.length_append, List.length_append, gLnC_len]
  split <;> split <;> rfl
theorem tl_c {z : Nat → Int} {r c : Nat} (hc : c < (z 1).toNat) : tl z r c = gCh z r c := by
  unfold tl gLn
  rw [List.getD_eq_getElem?_getD, List.append_assoc, List.getElem?_append_left (by rw [gLnC_len]; exact hc)]
  unfold gLnC
  rw [List.getElem?_map, List.getElem?_range hc]
  rfl
theorem tl_s {z : Nat → Int} {r j : Nat} (h2 : z 2 = 1) (hj : j < 2) : tl z r ((z 1).toNat + j) = ([124, 48 + z (6 + r)] : List Int).getD j 0 := by
  unfold tl gLn
  rw [if_pos h2, List.getD_eq_getElem?_getD, List.append_assoc, List.getElem?_append_right (by rw [gLnC_len]; omega), gLnC_len, show (z 1).toNat + j - (z 1).toNat = j by omega, List.getElem?_append_left (by simpa using hj), List.getD_eq_getElem?_getD]
theorem tl_w {z : Nat → Int} {r : Nat} (hw : s_w z r = true) : tl z r (tlN z) = 33 := by
  unfold tl gLn
  rw [if_pos hw, List.getD_eq_getElem?_getD, List.getElem?_append_right ?_]
  · have e : tlN z - (gLnC z r (z 1).toNat ++ if z 2 = 1 then [124, 48 + z (6 + r)] else []).length = 0 := by
      rw [List.length_append, gLnC_len]
      unfold tlN
      split <;> simp
    rw [e]
    rfl
  · rw [List.length_append, gLnC_len]
    unfold tlN
    split <;> simp
