/-! ===== words at hand; fields, arrays, copies ===== -/
theorem g_mem {w : Cond} (i : Nat) (h : tables_1[i]? = some w) : w ∈ lw_tbl := List.mem_append_right _ (List.mem_of_getElem? h)
theorem g_memP {w : Cond} (i : Nat) (h : (k2_sels lw_privs)[i]? = some w) : w ∈ lw_tbl := List.mem_append_left _ (List.mem_of_getElem? h)
/-- words that stay through a run -/
def gMv (w : Cond) : Bool := goodWord w || (match w with
  | .castable _ _ => true
  | .declares _ => true
  | .fieldLinkNest _ _ _ _ _ _ => true
  | .methodLinkNest _ _ _ _ => true
  | _ => false)
theorem gN_any {E : gE} {U : State} {H : Heap} (h : gN E U H) {w : Cond} (hw : w ∈ lw_tbl) (g : gMv w = true) (a : Array Value) : w.before a U = true := by
  by_cases hg : goodWord w = true
  · exact gN_word h hw hg a
  · have h0 := h.1.1 w hw
    cases w with
    | declares x => exact va_Nw.use rfl (va_Nw.warmD h.2.1 (va_Nw.of rfl h0))
    | castable C T => exact va_Nw.use rfl (va_Nw.warmC h.2.1 (va_Nw.of rfl h0))
    | fieldLinkNest a1 i b n d h1 => exact va_Nw.use rfl (va_Nw.warmF h.2.1 (va_Nw.of rfl h0))
    | methodLinkNest a1 i x h1 => exact va_Nw.use rfl (va_Nw.warmM h.2.1 (va_Nw.of rfl h0))
    | _ => simp [gMv, hg] at g
/-- the classes' own words, types and names -/
def gClOk (q : vw_C) : Prop := (∀ w ∈ u_ws q.1 q.2.1 q.2.2, w ∈ lw_tbl ∧ goodWord w = true) ∧ (∀ a, a < q.2.2 → ∀ b, b < q.2.2 → a ≠ b → (q.2.1 a).2.1 ≠ (q.2.1 b).2.1) ∧ ∃ ty : Nat → FieldType, ∀ k, k < q.2.2 → parseFieldDescriptor (q.2.1 k).2.2.1 = some (ty k)
theorem gClOk_0 : gClOk (RX2, TX2, 2) := ⟨by decide +kernel, nmX2, tyX2, tyX2_ok⟩
theorem gClOk_1 : gClOk (RX3, TX3, 2) := ⟨by decide +kernel, nmX3, tyX3, tyX3_ok⟩
theorem gClOk_2 : gClOk (RX4, TX4, 10) := ⟨by decide +kernel, nmX4, tyX4, tyX4_ok⟩
theorem gClOk_3 : gClOk (RX5, TX5, 6) := ⟨by decide +kernel, nmX5, tyX5, tyX5_ok⟩
theorem gClOk_4 : gClOk (RX6, TX6, 11) := ⟨by decide +kernel, nmX6, tyX6, tyX6_ok⟩
theorem gClOk_5 : gClOk (RJ4, TJ4, 4) := ⟨by decide +kernel, nmJ4, tyJ4, tyJ4_ok⟩
theorem gClOk_6 : gClOk (RJ0, TJ0, 4) := ⟨by decide +kernel, nmJ0, tyJ0, tyJ0_ok⟩
theorem gCl_ok {ci : Nat} {q : vw_C} (h : gCl[ci]? = some q) : gClOk q := by
  match ci, h with
  | 0, h => cases h; exact gClOk_0
  | 1, h => cases h; exact gClOk_1
  | 2, h => cases h; exact gClOk_2
  | 3, h => cases h; exact gClOk_3
  | 4, h => cases h; exact gClOk_4
  | 5, h => cases h; exact gClOk_5
  | 6, h => cases h; exact gClOk_6
  | n + 7, h => simp [gCl] at h
/-- a field of a kind: by which place of the pool the method's own class names it -/
def gF (own : String) (idx k slot : Nat) (d : gFd) : Prop := ∃ (ci : Nat) (q : vw_C), gIA k = none ∧ gCI k = some ci ∧ gCl[ci]? = some q ∧ slot < q.2.2 ∧ (gOF k)[slot]? = some d ∧ ((Cond.fieldLink own idx (q.2.1 slot).1 (q.2.1 slot).2.1 (q.2.1 slot).2.2.1 ∈ lw_tbl) ∨ ∃ host : String, Cond.fieldLinkNest own idx (q.2.1 slot).1 (q.2.1 slot).2.1 (q.2.1 slot).2.2.1 host ∈ lw_tbl)
def gP (own : String) (idx k slot : Nat) (ty : FieldType) : Prop := ∃ (ci : Nat) (q : vw_C), gIA k = none ∧ gCI k = some ci ∧ gCl[ci]? = some q ∧ slot < q.2.2 ∧ (gOF k)[slot]? = some none ∧ (q.2.1 slot).2.2.2 = false ∧ parseFieldDescriptor (q.2.1 slot).2.2.1 = some ty ∧ ((Cond.fieldLink own idx (q.2.1 slot).1 (q.2.1 slot).2.1 (q.2.1 slot).2.2.1 ∈ lw_tbl) ∨ ∃ host : String, Cond.fieldLinkNest own idx (q.2.1 slot).1 (q.2.1 slot).2.1 (q.2.1 slot).2.2.1 host ∈ lw_tbl)
def gVd (k i : Nat) (d : gFd) (σ : gS) (slot : Nat) : gV := match d with
  | none => iv (σ.1 k i slot)
  | some (k', none) => rf k' i
  | some (k', some n) => rf k' n
section GH
variable {X : gM} {E : gE} {M : gMt} {D n cells slots pc : Nat} {L : List (Option gV)} {st : List gV} {σ : gS}
theorem x_get0 (K : gK X E M D n) {k i slot idx : Nat} {d0 : gFd} (hf : gF M.1.cls idx k slot d0) (ho : gOk k i) (d : decode M.2.1 pc = .ok (.getfield idx, 3)) (kk : gWX X E cells slots (pc + 3) L (gVd k i d0 σ slot :: st) σ) : gWX X E cells slots pc L (.inr (k, i) :: st) σ := by
  obtain ⟨ci, q, h0, h1, h2, h3, h4, h5⟩ := hf
  have hok := gCl_ok h2
  have hN := K.2.2.2.2.1
  intro H locs ls hP hS hl
  have he : (gW E σ)[gOff k i]? = some (gB E + gOff k i, .inr (ci, gFs E σ k i)) := by rw [gW_at ho, gEnt_obj h0 h1]
  have hv : (gFs E σ k i)[slot]? = some (gc E (gVd k i d0 σ slot)) := by
    rw [gFs_get h4]
    cases d0 with
    | none => rfl
    | some p =>
      obtain ⟨k', z⟩ := p
      cases z <;> rfl
  rcases h5 with h5 | ⟨host, h5⟩
  · exact va_get (C := q.1) (T := q.2.1) (N := q.2.2) K.1 K.2.1 (fun w hw => gN_word hN (hok.1 w hw).1 (hok.1 w hw).2 _) (fun w hw => hw) K.2.2.2.1 (gN_K hN) hP (gOff k i) he h2 slot h3 (gN_word hN h5 rfl _) (fun x h => h) hv d (kk H locs ls hP hS hl)
  · exact va_getN (C := q.1) (T := q.2.1) (N := q.2.2) K.1 K.2.1 (fun w hw => gN_word hN (hok.1 w hw).1 (hok.1 w hw).2 _) (fun w hw => hw) K.2.2.2.1 (gN_K hN) hP (gOff k i) he h2 slot h3 (gN_any hN h5 rfl _) (fun x h => h) hv d (kk H locs ls hP hS hl)
theorem x_getI (K : gK X E M D n) {k i slot idx : Nat} (hf : gF M.1.cls idx k slot none) (ho : gOk k i) (d : decode M.2.1 pc = .ok (.getfield idx, 3)) (kk : gWX X E cells slots (pc + 3) L (iv (σ.1 k i slot) :: st) σ) : gWX X E cells slots pc L (.inr (k, i) :: st) σ := x_get0 K hf ho d kk
theorem x_getR (K : gK X E M D n) {k i slot idx k' : Nat} (hf : gF M.1.cls idx k slot (some (k', none))) (ho : gOk k i) (d : decode M.2.1 pc = .ok (.getfield idx, 3)) (kk : gWX X E cells slots (pc + 3) L (rf k' i :: st) σ) : gWX X E cells slots pc L (.inr (k, i) :: st) σ := x_get0 K hf ho d kk
theorem x_getC (K : gK X E M D n) {k i slot idx k' c : Nat} (hf : gF M.1.cls idx k slot (some (k', some c))) (ho : gOk k i) (d : decode M.2.1 pc = .ok (.getfield idx, 3)) (kk : gWX X E cells slots (pc + 3) L (rf k' c :: st) σ) : gWX X E cells slots pc L (.inr (k, i) :: st) σ := x_get0 K hf ho d kk
theorem x_put0 (K : gK X E M D n) {k i slot idx : Nat} {ty : FieldType} {z : Int} (hf : gP M.1.cls idx k slot ty) (ho : gOk k i) (hn : narrow ty (.int (Int32.ofInt z)) = .int (Int32.ofInt z)) (hfit : fits ty (.int (Int32.ofInt z)) = true) (d : decode M.2.1 pc = .ok (.putfield idx, 3)) (kk : gWX X E cells slots (pc + 3) L st (gU σ k i slot z)) : gWX X E cells slots pc L (iv z :: .inr (k, i) :: st) σ := by
  obtain ⟨ci, q, h0, h1, h2, h3, h4, h6, h7, h5⟩ := hf
  have hok := gCl_ok h2
  obtain ⟨ty0, hty⟩ := hok.2.2
  have hN := K.2.2.2.2.1
  intro H locs ls hP hS hl
  have he : (gW E σ)[gOff k i]? = some (gB E + gOff k i, .inr (ci, gFs E σ k i)) := by rw [gW_at ho, gEnt_obj h0 h1]
  have hlen : slot < (gFs E σ k i).length := by rw [gFs_len]; exact (List.getElem?_eq_some_iff.mp h4).1
  have hset : (gW E σ).set (gOff k i) (gB E + gOff k i, .inr (ci, (gFs E σ k i).set slot (.int (Int32.ofInt z)))) = gW E (gU σ k i slot z) := gW_set ho gU_off (gU_offX ho) (by rw [gEnt_obj h0 h1, gFs_set h4])
  rcases h5 with h5 | ⟨host, h5⟩
  · exact va_put (C := q.1) (T := q.2.1) (N := q.2.2) K.1 K.2.1 (fun w hw => gN_word hN (hok.1 w hw).1 (hok.1 w hw).2 _) (fun w hw => hw) ty0 hty hok.2.1 K.2.2.2.1 (gN_K hN) hP (gD_ok (gN_x K.2.2.2.2.1) σ) hS (gOff k i) he h2 slot h3 (gN_word hN h5 rfl _) (fun x h => h) h6 h7 hn hfit hlen d (fun H1 locs1 hP1 _ hS1 => kk H1 locs1 ls (hset ▸ hP1) hS1 hl)
  · exact va_putN (C := q.1) (T := q.2.1) (N := q.2.2) K.1 K.2.1 (fun w hw => gN_word hN (hok.1 w hw).1 (hok.1 w hw).2 _) (fun w hw => hw) ty0 hty hok.2.1 K.2.2.2.1 (gN_K hN) hP (gD_ok (gN_x K.2.2.2.2.1) σ) hS (gOff k i) he h2 slot h3 (gN_any hN h5 rfl _) (fun x h => h) h6 h7 hn hfit hlen d (fun H1 locs1 hP1 _ hS1 => kk H1 locs1 ls (hset ▸ hP1) hS1 hl)
theorem x_putI (K : gK X E M D n) {k i slot idx : Nat} {z : Int} (hf : gP M.1.cls idx k slot .int) (ho : gOk k i) (d : decode M.2.1 pc = .ok (.putfield idx, 3)) (kk : gWX X E cells slots (pc + 3) L st (gU σ k i slot z)) : gWX X E cells slots pc L (iv z :: .inr (k, i) :: st) σ := x_put0 K hf ho rfl rfl d kk
theorem x_putZ (K : gK X E M D n) {k i slot idx : Nat} {z : Int} (hf : gP M.1.cls idx k slot .boolean) (ho : gOk k i) (hz : z = 0 ∨ z = 1) (d : decode M.2.1 pc = .ok (.putfield idx, 3)) (kk : gWX X E cells slots (pc + 3) L st (gU σ k i slot z)) : gWX X E cells slots pc L (iv z :: .inr (k, i) :: st) σ :=
  x_put0 K hf ho (by rcases hz with rfl | rfl <;> rfl) (by rcases hz with rfl | rfl <;> rfl) d kk
/-- indices -/
theorem g_cl {j : Nat} (h : j < 2147483648) : (Int32.ofInt (j : Int)).toNatClampNeg = j := by rw [Int32.ofInt_eq_ofNat]; exact nI_clamp h
theorem g_in {j N : Nat} (h : j < N) (hN : N < 2147483648) : vp_in (Int32.ofInt (j : Int)) N := by rw [Int32.ofInt_eq_ofNat]; exact vp_in_nI h hN
theorem gTys_at {E : gE} {t : Nat} {ty : FieldType} (h : gTy[t]? = some ty) : (gTys E)[t]? = some (gcA E t, ty) := by
  rw [gTys, List.getElem?_mapIdx, h]
  rfl
theorem gIA_lt {k t N : Nat} (h : gIA k = some (t, N)) : N < 2147483648 := by
  unfold gIA at h
  split at h <;> cases h <;> decide

theorem x_iald (K : gK X E M D n) {k i N : Nat} {z : Int} (j : Nat) (hz : z = (j : Int)) (ha : gIA k = some (0, N)) (ho : gOk k i) (hj : j < N) (d : decode M.2.1 pc = .ok (.iaload, 1)) (kk : gWX X E cells slots (pc + 1) L (iv (σ.1 k i j) :: st) σ) : gWX X E cells slots pc L (iv z :: .inr (k, i) :: st) σ := by
  intro H locs ls hP hS hl
  subst hz
  have hN := gIA_lt ha
  refine va_iald K.1 K.2.1 (gN_K K.2.2.2.2.1) hP (gOff k i) 0 (by rw [gW_at ho, gEnt_arr ha]) (gTys_at rfl) (g_in hj hN) d ?_
  rw [g_cl (by omega)]
  exact kk H locs ls hP hS hl
theorem x_cald (K : gK X E M D n) {k i N : Nat} {z : Int} (j : Nat) (hz : z = (j : Int)) (ha : gIA k = some (1, N)) (ho : gOk k i) (hj : j < N) (d : decode M.2.1 pc = .ok (.caload, 1)) (kk : gWX X E cells slots (pc + 1) L (iv (σ.1 k i j) :: st) σ) : gWX X E cells slots pc L (iv z :: .inr (k, i) :: st) σ := by
  intro H locs ls hP hS hl
  subst hz
  have hN := gIA_lt ha
  refine va_cald K.1 K.2.1 (gN_K K.2.2.2.2.1) hP (gOff k i) 1 (by rw [gW_at ho, gEnt_arr ha]) (gTys_at rfl) (g_in hj hN) d ?_
  rw [g_cl (by omega)]
  exact kk H locs ls hP hS hl
theorem x_bald (K : gK X E M D n) {k i N : Nat} {z : Int} (j : Nat) (hz : z = (j : Int)) (ha : gIA k = some (2, N)) (ho : gOk k i) (hj : j < N) (d : decode M.2.1 pc = .ok (.baload, 1)) (kk : gWX X E cells slots (pc + 1) L (iv (σ.1 k i j) :: st) σ) : gWX X E cells slots pc L (iv z :: .inr (k, i) :: st) σ := by
  intro H locs ls hP hS hl
  subst hz
  have hN := gIA_lt ha
  refine va_bald K.1 K.2.1 (gN_K K.2.2.2.2.1) hP (gOff k i) 2 (by rw [gW_at ho, gEnt_arr ha]) (gTys_at rfl) (g_in hj hN) d ?_
  rw [g_cl (by omega)]
  exact kk H locs ls hP hS hl
theorem gU_arr {k i j t N : Nat} {z : Int} (ha : gIA k = some (t, N)) : gEnt E (gU σ k i j z) (k, i) = .inl (gcA E t, N, .inl (upd (fun c => Int32.ofInt (σ.1 k i c)) j (Int32.ofInt z))) := by
  rw [gEnt_arr ha]
  refine congrArg (fun f : Nat → Int32 => (Sum.inl (gcA E t, N, Sum.inl f) : va_E)) (funext fun c => ?_)
  show Int32.ofInt (if k = k ∧ i = i ∧ c = j then z else σ.1 k i c) = if c = j then Int32.ofInt z else Int32.ofInt (σ.1 k i c)
  by_cases h : c = j
  · rw [if_pos ⟨rfl, rfl, h⟩, if_pos h]
  · rw [if_neg (fun q => h q.2.2), if_neg h]
theorem x_iast (K : gK X E M D n) {k i N : Nat} {z x : Int} (j : Nat) (hz : z = (j : Int)) (ha : gIA k = some (0, N)) (ho : gOk k i) (hj : j < N) (d : decode M.2.1 pc = .ok (.iastore, 1)) (kk : gWX X E cells slots (pc + 1) L st (gU σ k i j x)) : gWX X E cells slots pc L (iv x :: iv z :: .inr (k, i) :: st) σ := by
  intro H locs ls hP hS hl
  subst hz
  have hN := gIA_lt ha
  refine va_iast K.1 K.2.1 (gN_K K.2.2.2.2.1) hP (gD_ok (gN_x K.2.2.2.2.1) σ) hS (gOff k i) 0 (by rw [gW_at ho, gEnt_arr ha]) (gTys_at rfl) (g_in hj hN) d (fun H1 locs1 hP1 _ hS1 => ?_)
  rw [g_cl (by omega), gW_set (σ' := gU σ k i j x) ho gU_off (gU_offX ho) (gU_arr ha)] at hP1
  exact kk H1 locs1 ls hP1 hS1 hl
theorem g_char {x : Int} (h : 0 ≤ x ∧ x < 65536) : vp_nar .char (Int32.ofInt x) = Int32.ofInt x := by
  obtain ⟨m, rfl⟩ := g_nat h.1
  have h1 := (pk_charN (q := m) (by omega)).1
  rw [Int32.ofInt_eq_ofNat]
  unfold vp_nar
  rw [show (Int32.ofNat m) = nI m from rfl, h1]
theorem x_cast (K : gK X E M D n) {k i N : Nat} {z x : Int} (j : Nat) (hz : z = (j : Int)) (ha : gIA k = some (1, N)) (ho : gOk k i) (hj : j < N) (hx : 0 ≤ x ∧ x < 65536) (d : decode M.2.1 pc = .ok (.castore, 1)) (kk : gWX X E cells slots (pc + 1) L st (gU σ k i j x)) : gWX X E cells slots pc L (iv x :: iv z :: .inr (k, i) :: st) σ := by
  intro H locs ls hP hS hl
  subst hz
  have hN := gIA_lt ha
  refine va_cast K.1 K.2.1 (gN_K K.2.2.2.2.1) hP (gD_ok (gN_x K.2.2.2.2.1) σ) hS (gOff k i) 1 (by rw [gW_at ho, gEnt_arr ha]) (gTys_at rfl) (g_in hj hN) d (fun H1 locs1 hP1 _ hS1 => ?_)
  rw [g_cl (by omega), g_char hx, gW_set (σ' := gU σ k i j x) ho gU_off (gU_offX ho) (gU_arr ha)] at hP1
  exact kk H1 locs1 ls hP1 hS1 hl
/-- the scrolls of a shelf, the shelves of the history -/
theorem gEnt_2 {i : Nat} : gEnt E σ (2, i) = .inl (gcA E 3, 5, .inr (.inr (.inr (.inr (fun j => some (gB E + gOff 3 (5 * i + j))))))) := rfl
theorem gEnt_9 : gEnt E σ (9, 0) = .inl (gcA E 4, 8, .inr (.inr (.inr (.inr (fun j => some (gB E + gOff 1 (σ.2.1 j))))))) := rfl
theorem x_aald2 (K : gK X E M D n) {i : Nat} {z : Int} (j : Nat) (hz : z = (j : Int)) (hi : i < 11) (hj : j < 5) (d : decode M.2.1 pc = .ok (.aaload, 1)) (kk : gWX X E cells slots (pc + 1) L (rf 3 (5 * i + j) :: st) σ) : gWX X E cells slots pc L (iv z :: .inr (2, i) :: st) σ := by
  intro H locs ls hP hS hl
  subst hz
  refine va_aldq K.1 K.2.1 (gN_K K.2.2.2.2.1) hP (gOff 2 i) 3 (by rw [gW_at ⟨by omega, hi⟩, gEnt_2]) (gTys_at rfl) (g_in hj (by omega)) d ?_
  rw [g_cl (by omega)]
  exact kk H locs ls hP hS hl
theorem x_aald9 (K : gK X E M D n) {z : Int} (j : Nat) (hz : z = (j : Int)) (hj : j < 8) (d : decode M.2.1 pc = .ok (.aaload, 1)) (kk : gWX X E cells slots (pc + 1) L (rf 1 (σ.2.1 j) :: st) σ) : gWX X E cells slots pc L (iv z :: .inr (9, 0) :: st) σ := by
  intro H locs ls hP hS hl
  subst hz
  refine va_aldq K.1 K.2.1 (gN_K K.2.2.2.2.1) hP (gOff 9 0) 4 (by rw [gW_at ⟨by omega, by decide⟩, gEnt_9]) (gTys_at rfl) (g_in hj (by omega)) d ?_
  rw [g_cl (by omega)]
  exact kk H locs ls hP hS hl
theorem gPm_off {f : Nat → Nat} (q : Nat × Nat) (h : q.1 ≠ 9) : gEnt E (gPm σ f) q = gEnt E σ q := by
  unfold gEnt
  cases h1 : gIA q.1 with
  | some t => rfl
  | none =>
    cases h2 : gCI q.1 with
    | some c => rfl
    | none =>
      dsimp only
      split <;> first | rfl | (rename_i hq; exact absurd hq h)
theorem gPm_at {v j : Nat} : gEnt E (gPm σ (fun c => if c = j then v else σ.2.1 c)) (9, 0) = .inl (gcA E 4, 8, .inr (.inr (.inr (.inr (va_up (fun j => some (gB E + gOff 1 (σ.2.1 j))) j (some (gB E + gOff 1 v))))))) := by
  rw [gEnt_9]
  refine congrArg (fun f : Nat → Option Nat => (Sum.inl (gcA E 4, 8, Sum.inr (Sum.inr (Sum.inr (Sum.inr f)))) : va_E)) (funext fun c => ?_)
  show some (gB E + gOff 1 (if c = j then v else σ.2.1 c)) = if c = j then _ else _
  by_cases h : c = j
  · rw [if_pos h, if_pos h]
  · rw [if_neg h, if_neg h]
theorem x_aast9 (K : gK X E M D n) {z : Int} {v : Nat} (j : Nat) (hz : z = (j : Int)) (hj : j < 8) (hv : v < 11) (d : decode M.2.1 pc = .ok (.aastore, 1)) (kk : gWX X E cells slots (pc + 1) L st (gPm σ (fun c => if c = j then v else σ.2.1 c))) : gWX X E cells slots pc L (.inr (1, v) :: iv z :: .inr (9, 0) :: st) σ := by
  intro H locs ls hP hS hl
  subst hz
  refine va_astq (r := (RX5, TX5, 6)) K.1 K.2.1 (gN_K K.2.2.2.2.1) hP (gD_ok (gN_x K.2.2.2.2.1) σ) hS (gOff 9 0) 4 (gOff 1 v) 3 (by rw [gW_at ⟨by omega, by decide⟩, gEnt_9]) (gTys_at rfl) (by rw [gW_at ⟨by omega, hv⟩, gEnt_obj (ci := 3) rfl rfl]) rfl (g_in hj (by omega)) d (fun H1 locs1 hP1 _ hS1 => ?_)
  rw [g_cl (by omega), gW_set (σ' := gPm σ (fun c => if c = j then v else σ.2.1 c)) ⟨by omega, by decide⟩ (fun q hm hq => gPm_off q (fun h9 => hq (gAll_9 q hm h9))) (fun x => gPm_offX x) (gPm_at (v := v))] at hP1
  exact kk H1 locs1 ls hP1 hS1 hl
theorem x_alen (K : gK X E M D n) {k i t N : Nat} (ha : gIA k = some (t, N)) (ho : gOk k i) (d : decode M.2.1 pc = .ok (.arraylength, 1)) (kk : gWX X E cells slots (pc + 1) L (iv (N : Int) :: st) σ) : gWX X E cells slots pc L (.inr (k, i) :: st) σ := by
  intro H locs ls hP hS hl
  have ht : ∃ ty, gTy[t]? = some ty := by
    unfold gIA at ha
    split at ha <;> cases ha <;> exact ⟨_, rfl⟩
  obtain ⟨ty, ht⟩ := ht
  exact va_alen K.1 K.2.1 (gN_K K.2.2.2.2.1) hP (gOff k i) t (by rw [gW_at ho, gEnt_arr ha]) (gTys_at ht) (by rw [← Int32.ofInt_eq_ofNat]) d (kk H locs ls hP hS hl)
theorem x_alen2 (K : gK X E M D n) {i : Nat} (hi : i < 11) (d : decode M.2.1 pc = .ok (.arraylength, 1)) (kk : gWX X E cells slots (pc + 1) L (iv 5 :: st) σ) : gWX X E cells slots pc L (.inr (2, i) :: st) σ := by
  intro H locs ls hP hS hl
  exact va_alen K.1 K.2.1 (gN_K K.2.2.2.2.1) hP (gOff 2 i) 3 (cA := gcA E 3) (x := (5, .inr (.inr (.inr (.inr (fun j => some (gB E + gOff 3 (5 * i + j)))))))) (by rw [gW_at ⟨by omega, hi⟩, gEnt_2]) (gTys_at rfl) rfl d (kk H locs ls hP hS hl)
theorem x_alen9 (K : gK X E M D n) (d : decode M.2.1 pc = .ok (.arraylength, 1)) (kk : gWX X E cells slots (pc + 1) L (iv 8 :: st) σ) : gWX X E cells slots pc L (.inr (9, 0) :: st) σ := by
  intro H locs ls hP hS hl
  exact va_alen K.1 K.2.1 (gN_K K.2.2.2.2.1) hP (gOff 9 0) 4 (cA := gcA E 4) (x := (8, .inr (.inr (.inr (.inr (fun j => some (gB E + gOff 1 (σ.2.1 j)))))))) (by rw [gW_at ⟨by omega, by decide⟩, gEnt_9]) (gTys_at rfl) rfl d (kk H locs ls hP hS hl)
/-- what a call in the JDK wants -/
def gCats (st : List gV) : Nat := st.length * 2
theorem gCats_le (st : List gV) : ((st.map (gc E)).map fun v => v.category).sum ≤ gCats st := by
  induction st with
  | nil => exact Nat.le_refl _
  | cons v t ih =>
    have h : (gc E v).category ≤ 2 := by rcases lv_cat (gc E v) with h | h <;> omega
    simp only [List.map_cons, List.sum_cons, gCats, List.length_cons] at ih ⊢
    omega
theorem x_mmax (K : gK X E M D n) {idx : Nat} {a b : Int} (hL : L.length = M.2.2.1) (h : (-2147483648 ≤ a ∧ a < 2147483648) ∧ -2147483648 ≤ b ∧ b < 2147483648) (hl : Cond.methodLink M.1.cls idx Lib.Math.max.name ∈ lw_tbl) (hw : Cond.static Lib.Math.max.name ∈ lw_tbl ∧ Cond.initialized "java/lang/Math" ∈ lw_tbl ∧ Cond.code Lib.Math.max.name Lib.Math.max.code 2 (some .int) ∈ lw_tbl) (hD : 1 ≤ D ∧ gCats st + 13 ≤ 64 * D) (hc : cells ≤ n ∧ slots ≤ 6 * n) (d : decode M.2.1 pc = .ok (.invokestatic idx, 3)) (kk : gWX X E cells slots (pc + 3) L (iv (max a b) :: st) σ) : gWX X E cells slots pc L (iv b :: iv a :: st) σ := by
  intro H locs ls hP hS hlv
  have hN := K.2.2.2.2.1
  have hR := K.2.2.2.2.2.2.2.2.2
  refine va_mmax K.1 K.2.1 (by rw [K.2.2.1, hlv.1, hL]) K.2.2.2.1 (gN_word hN hl rfl _) (gN_word hN hw.1 rfl _) (gN_word hN hw.2.1 rfl _) (gN_word hN hw.2.2 rfl _) (by rw [hR]; exact hD.1) (by rw [hR]; exact Nat.le_trans (Nat.add_le_add_right (gCats_le st) 13) hD.2) (by rw [hR]; exact hc.1) (by rw [hR]; exact hc.2) d ?_
  have e : (if Int32.ofInt a < Int32.ofInt b then Int32.ofInt b else Int32.ofInt a) = Int32.ofInt (max a b) := by
    by_cases q : a < b
    · rw [if_pos ((g_lt h).mpr q), Int.max_eq_right (Int.le_of_lt q)]
    · rw [if_neg (fun z => q ((g_lt h).mp z)), Int.max_eq_left (by omega)]
  rw [e]
  exact kk H locs ls hP hS hlv
theorem x_mmin (K : gK X E M D n) {idx : Nat} {a b : Int} (hL : L.length = M.2.2.1) (h : (-2147483648 ≤ a ∧ a < 2147483648) ∧ -2147483648 ≤ b ∧ b < 2147483648) (hl : Cond.methodLink M.1.cls idx Lib.Math.min.name ∈ lw_tbl) (hw : Cond.static Lib.Math.min.name ∈ lw_tbl ∧ Cond.initialized "java/lang/Math" ∈ lw_tbl ∧ Cond.code Lib.Math.min.name Lib.Math.min.code 2 (some .int) ∈ lw_tbl) (hD : 1 ≤ D ∧ gCats st + 13 ≤ 64 * D) (hc : cells ≤ n ∧ slots ≤ 6 * n) (d : decode M.2.1 pc = .ok (.invokestatic idx, 3)) (kk : gWX X E cells slots (pc + 3) L (iv (min a b) :: st) σ) : gWX X E cells slots pc L (iv b :: iv a :: st) σ := by
  intro H locs ls hP hS hlv
  have hN := K.2.2.2.2.1
  have hR := K.2.2.2.2.2.2.2.2.2
  refine va_mmin K.1 K.2.1 (by rw [K.2.2.1, hlv.1, hL]) K.2.2.2.1 (gN_word hN hl rfl _) (gN_word hN hw.1 rfl _) (gN_word hN hw.2.1 rfl _) (gN_word hN hw.2.2 rfl _) (by rw [hR]; exact hD.1) (by rw [hR]; exact Nat.le_trans (Nat.add_le_add_right (gCats_le st) 13) hD.2) (by rw [hR]; exact hc.1) (by rw [hR]; exact hc.2) d ?_
  have e : (if Int32.ofInt b < Int32.ofInt a then Int32.ofInt b else Int32.ofInt a) = Int32.ofInt (min a b) := by
    by_cases q : b < a
    · rw [if_pos ((g_lt ⟨h.2, h.1⟩).mpr q), Int.min_eq_right (Int.le_of_lt q)]
    · rw [if_neg (fun z => q ((g_lt ⟨h.2, h.1⟩).mp z)), Int.min_eq_left (by omega)]
  rw [e]
  exact kk H locs ls hP hS hlv
theorem gCp_arr {k0 i0 k i sp dp m t N : Nat} (ha : gIA k = some (t, N)) : gEnt E (gCp σ k0 i0 k i sp dp m) (k, i) = .inl (gcA E t, N, .inl (va_cpy (fun c => Int32.ofInt (σ.1 k0 i0 c)) (fun c => Int32.ofInt (σ.1 k i c)) sp dp m)) := by
  rw [gEnt_arr ha]
  refine congrArg (fun f : Nat → Int32 => (Sum.inl (gcA E t, N, Sum.inl f) : va_E)) (funext fun c => ?_)
  show Int32.ofInt (if k = k ∧ i = i ∧ dp ≤ c ∧ c < dp + m then _ else σ.1 k i c) = if dp ≤ c ∧ c < dp + m then _ else _
  by_cases h : dp ≤ c ∧ c < dp + m
  · rw [if_pos ⟨rfl, rfl, h⟩, if_pos h]
  · rw [if_neg (fun q => h q.2.2), if_neg h]
theorem x_copy (K : gK X E M D n) {idx k0 i0 k i n0 n1 : Nat} {a b c : Int} (sp dp m : Nat) (ea : a = (sp : Int)) (eb : b = (dp : Int)) (ec : c = (m : Int)) (hL : L.length = M.2.2.1) (h0 : gIA k0 = some (0, n0)) (h1 : gIA k = some (0, n1)) (ho0 : gOk k0 i0) (ho : gOk k i) (hb0 : sp + m ≤ n0) (hb1 : dp + m ≤ n1) (hl : Cond.methodLink M.1.cls idx arraycopyName ∈ lw_tbl) (hw : Cond.native arraycopyName ∈ lw_tbl ∧ Cond.static arraycopyName ∈ lw_tbl ∧ Cond.initialized "java/lang/System" ∈ lw_tbl) (hD : 1 ≤ D ∧ gCats st + (nativeFrameWords "java/lang/System" "arraycopy" 5 + 11) ≤ 64 * D) (d : decode M.2.1 pc = .ok (.invokestatic idx, 3)) (kk : gWX X E cells slots (pc + 3) L st (gCp σ k0 i0 k i sp dp m)) : gWX X E cells slots pc L (iv c :: iv b :: .inr (k, i) :: iv a :: .inr (k0, i0) :: st) σ := by
  intro H locs ls hP hS hlv
  subst ea; subst eb; subst ec
  have hN := K.2.2.2.2.1
  have hR := K.2.2.2.2.2.2.2.2.2
  have q0 := gIA_lt h0
  have q1 := gIA_lt h1
  have hneg : ∀ j : Nat, j < 2147483648 → ¬ Int32.ofInt (j : Int) < 0 := fun j hj => by rw [Int32.ofInt_eq_ofNat]; exact nI_pos hj
  refine va_copyi K.1 K.2.1 (by rw [K.2.2.1, hlv.1, hL]) K.2.2.2.1 (gN_word hN hl rfl _) (gN_word hN hw.1 rfl _) (gN_word hN hw.2.1 rfl _) (gN_word hN hw.2.2 rfl _) (gN_K hN) hP (gD_ok (gN_x K.2.2.2.2.1) σ) hS (gOff k0 i0) (gOff k i) 0 0 (by rw [gW_at ho0, gEnt_arr h0]) (by rw [gW_at ho, gEnt_arr h1]) (gTys_at rfl) (gTys_at rfl) rfl (hneg _ (by omega)) (hneg _ (by omega)) (hneg _ (by omega)) (by rw [g_cl (by omega), g_cl (by omega)]; exact hb0) (by rw [g_cl (by omega), g_cl (by omega)]; exact hb1) (fun _ _ => rfl) (by rw [hR]; exact hD.1) (by rw [hR]; exact Nat.le_trans (Nat.add_le_add_right (gCats_le st) _) hD.2) d (fun H1 locs1 hP1 _ hS1 => ?_)
  rw [g_cl (by omega), g_cl (by omega), g_cl (by omega), gW_set (σ' := gCp σ k0 i0 k i sp dp m) ho gCp_off (gCp_offX ho) (gCp_arr h1)] at hP1
  exact kk H1 locs1 ls hP1 hS1 hlv
end GH
