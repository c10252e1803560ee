/-! ===== the constructors: the world as it is built ===== -/
def gZ0 : gS := (fun k _ j => if k = 3 ∧ j = 7 then -1 else if (k = 0 ∧ j = 8) ∨ (k = 14 ∧ j = 17) then -1 else 0, fun j => 3 + j, 0, 0)
def bScL (E : gE) (i : Nat) : List va_E := (gSc i).map (gEnt E gZ0)
def bShL (E : gE) (sh : Nat) : List va_E := (gShl sh).map (gEnt E gZ0)
def bFl (f : Nat → List va_E) (m : Nat) : List va_E := (List.range m).flatMap f
theorem bFl_s {f : Nat → List va_E} {m : Nat} : bFl f (m + 1) = bFl f m ++ f m := by
  unfold bFl
  rw [List.range_succ, List.flatMap_append]
  simp
theorem bFl_len {f : Nat → List va_E} {c : Nat} (h : ∀ n, (f n).length = c) : ∀ m, (bFl f m).length = c * m
  | 0 => rfl
  | m + 1 => by rw [bFl_s, List.length_append, bFl_len h m, h, Nat.mul_succ]
theorem bScL_len {E : gE} {i : Nat} : (bScL E i).length = 5 := rfl
theorem bShL_eq {E : gE} {sh : Nat} : bShL E sh = gEnt E gZ0 (1, sh) :: gEnt E gZ0 (2, sh) :: bFl (fun n => bScL E (5 * sh + n)) 5 := by
  unfold bShL gShl bFl bScL
  simp only [List.map_cons, List.map_flatMap]
theorem bShL_len {E : gE} {sh : Nat} : (bShL E sh).length = 27 := by
  rw [bShL_eq, List.length_cons, List.length_cons, bFl_len (c := 5) (fun n => bScL_len)]
theorem bAtJ {α : Type} {l r : List α} (j : Nat) : (l ++ r)[l.length + j]? = r[j]? := by
  rw [List.getElem?_append_right (Nat.le_add_right _ _), Nat.add_sub_cancel_left]
theorem bAt0 {α : Type} {l r : List α} : (l ++ r)[l.length]? = r[0]? := bAtJ (l := l) (r := r) 0
theorem bSetJ {α : Type} {l r : List α} (j : Nat) (e : α) : (l ++ r).set (l.length + j) e = l ++ r.set j e := by
  rw [List.set_append_right _ _ (Nat.le_add_right _ _), Nat.add_sub_cancel_left]
theorem bSet0 {α : Type} {l r : List α} (e : α) : (l ++ r).set l.length e = l ++ r.set 0 e := bSetJ (l := l) (r := r) 0 e
theorem bOff3 {sh n : Nat} (h : sh < 11) (hn : n < 5) : gOff 3 (5 * sh + n) = gSo sh + 2 + 5 * n := by
  show (if 5 * sh + n < 55 then gSo ((5 * sh + n) / 5) + 2 + 5 * ((5 * sh + n) % 5) else 300) = _
  rw [if_pos (by omega), show (5 * sh + n) / 5 = sh by omega, show (5 * sh + n) % 5 = n by omega]
theorem bOffS {i : Nat} : gOff 4 i = gOff 3 i + 1 ∧ gOff 5 i = gOff 3 i + 2 ∧ gOff 6 i = gOff 3 i + 3 ∧ gOff 7 i = gOff 3 i + 4 := by
  show (if i < 55 then gSo (i / 5) + 3 + 5 * (i % 5) else 301) = (if i < 55 then gSo (i / 5) + 2 + 5 * (i % 5) else 300) + 1 ∧ (if i < 55 then gSo (i / 5) + 4 + 5 * (i % 5) else 302) = (if i < 55 then gSo (i / 5) + 2 + 5 * (i % 5) else 300) + 2 ∧ (if i < 55 then gSo (i / 5) + 5 + 5 * (i % 5) else 303) = (if i < 55 then gSo (i / 5) + 2 + 5 * (i % 5) else 300) + 3 ∧ (if i < 55 then gSo (i / 5) + 6 + 5 * (i % 5) else 304) = (if i < 55 then gSo (i / 5) + 2 + 5 * (i % 5) else 300) + 4
  split <;> omega
/-- an array of references is told by the places below its length -/
theorem arrV_cg {cI : ClassId} {n : Nat} {f g : Nat → Value} (h : ∀ j, j < n → f j = g j) : arrV cI n f = arrV cI n g := by
  have e : (fun j : Fin n => f j.val) = fun j : Fin n => g j.val := funext fun j => h j.val j.isLt
  unfold arrV
  rw [e]
theorem bP_cg {E : gE} {l : List va_E} {H : Heap} {c : ClassId} {n j : Nat} {f g : Nat → Option Nat} (hj : l[j]? = some (.inl (c, n, .inr (.inr (.inr (.inr f)))))) (h : ∀ i, i < n → f i = g i) (hP : va_P (gD E) gCl (bW E l) H) : va_P (gD E) gCl (bW E (l.set j (.inl (c, n, .inr (.inr (.inr (.inr g))))))) H := by
  rw [← bW_set]
  have hl : j < (bW E l).length := by rw [bW_len]; exact (List.getElem?_eq_some_iff.mp hj).1
  refine g_Pset (e := (gB E + j, .inl (c, n, .inr (.inr (.inr (.inr f)))))) ?_ hl ?_
  · rw [bW_set]
    have e : l.set j (.inl (c, n, .inr (.inr (.inr (.inr f))))) = l := by
      apply List.ext_getElem?
      intro i
      by_cases hi : j = i
      · subst hi
        rw [List.getElem?_set_self (List.getElem?_eq_some_iff.mp hj).1, hj]
      · rw [List.getElem?_set_ne hi]
    rw [e]
    exact hP
  · intro hat
    have h1 : H[gB E + j]? = some (arrV c n (fun i => va_rf (f i))) := hat
    show H[gB E + j]? = some (arrV c n (fun i => va_rf (g i)))
    rw [h1, arrV_cg (fun i hi => congrArg va_rf (h i hi))]
section GB
variable {X : gM} {E : gE} {M : gMt} {D mc ms b0 cells slots pc : Nat} {L : List (Option gV)} {st : List gV} {l l' : List va_E}
theorem b_retC (K : bK X E M D mc ms b0) (hE : bEnd X E mc ms l') (hr : M.2.2.2 = none) (d : decode M.2.1 pc = .ok (.return_, 1)) (hc : cells ≤ mc) (hs : slots ≤ ms) (hl9 : ∀ H, va_P (gD E) gCl (bW E l) H → va_P (gD E) gCl (bW E l') H) : bWX X E cells slots pc L [] l := by
  intro H locs ls hP hS hl
  exact b_ret K hE hr d hc hs rfl H locs ls (hl9 H hP) hS hl
theorem b_getsV (K : bK X E M D mc ms b0) {C nm dd : String} {v : Value} {idx : Nat} (hl : Cond.laysStatic C nm dd ∈ lw_tbl) (hi : Cond.initialized C ∈ lw_tbl) (hk : Cond.fieldLink M.1.cls idx C nm dd ∈ lw_tbl) (he : (Term.static C nm dd).eval (ga0 E) (gs0 E) none [] (gs0 E) = some v) (d : decode M.2.1 pc = .ok (.getstatic idx, 3)) (k : bWX X E cells slots (pc + 3) L (.inl v :: st) l) : bWX X E cells slots pc L st l :=
  fun H locs ls hP hS hl' => va_gets K.1 K.2.1 (gZ_atV K.2.2.2.2.1 hl hi he) hS K.2.2.2.1 (gN_any K.2.2.2.2.1 hk rfl _) (fun x h => h) d (k H locs ls hP hS hl')
theorem b_call0 (K : bK X E M D mc ms b0) {N : gMt} {d9 mc' ms' idx k i : Nat} (hc : bCt E N d9 mc' ms' [.inr (k, i)] l l') (hm : gMth N 0) (hi : Cond.instanceMethod N.1 ∈ lw_tbl) (hin : N.1.name = "<init>" ∧ N.2.2.2 = none) (hl : gLk M.1.cls idx N.1) (hf : d9 < D ∧ cells + mc' ≤ mc ∧ slots + ms' ≤ ms) (hx : b0 + cells = l.length) (h0 : 0 < l.length) (hL : L.length = M.2.2.1) (hst : gCats st ≤ 8) (dd : decode M.2.1 pc = .ok (.invokespecial idx, 3)) (kk : bWX X E (cells + mc') (slots + ms') (pc + 3) L st l') : bWX X E cells slots pc L (.inr (k, i) :: st) l :=
  b_callI (as := []) K hc hm hi hin hl hf hx h0 hL hst dd kk
theorem b_call1 (K : bK X E M D mc ms b0) {N : gMt} {d9 mc' ms' idx k i : Nat} {a : gV} (hc : bCt E N d9 mc' ms' [.inr (k, i), a] l l') (hm : gMth N 1) (hi : Cond.instanceMethod N.1 ∈ lw_tbl) (hin : N.1.name = "<init>" ∧ N.2.2.2 = none) (hl : gLk M.1.cls idx N.1) (hf : d9 < D ∧ cells + mc' ≤ mc ∧ slots + ms' ≤ ms) (hx : b0 + cells = l.length) (h0 : 0 < l.length) (hL : L.length = M.2.2.1) (hst : gCats st ≤ 8) (dd : decode M.2.1 pc = .ok (.invokespecial idx, 3)) (kk : bWX X E (cells + mc') (slots + ms') (pc + 3) L st l') : bWX X E cells slots pc L (a :: .inr (k, i) :: st) l :=
  b_callI (as := [a]) K hc hm hi hin hl hf hx h0 hL hst dd kk
end GB
def dfvX2 : List Value := [.null, .int 0]
theorem dfoX2 : ∀ j, j < 2 → defaultValue (tyX2 j) = vp_V dfvX2 j
  | 0, _ => rfl
  | 1, _ => rfl
  | j + 2, h => absurd h (by omega)
def dfvX3 : List Value := [.null, .int 0]
theorem dfoX3 : ∀ j, j < 2 → defaultValue (tyX3 j) = vp_V dfvX3 j
  | 0, _ => rfl
  | 1, _ => rfl
  | j + 2, h => absurd h (by omega)
def dfvX4 : List Value := [.null, .null, .null, .null, .int 0, .int 0, .int 0, .int 0, .int 0, .int 0]
theorem dfoX4 : ∀ j, j < 10 → defaultValue (tyX4 j) = vp_V dfvX4 j
  | 0, _ => rfl
  | 1, _ => rfl
  | 2, _ => rfl
  | 3, _ => rfl
  | 4, _ => rfl
  | 5, _ => rfl
  | 6, _ => rfl
  | 7, _ => rfl
  | 8, _ => rfl
  | 9, _ => rfl
  | j + 10, h => absurd h (by omega)
def dfvX5 : List Value := [.null, .int 0, .int 0, .int 0, .int 0, .int 0]
theorem dfoX5 : ∀ j, j < 6 → defaultValue (tyX5 j) = vp_V dfvX5 j
  | 0, _ => rfl
  | 1, _ => rfl
  | 2, _ => rfl
  | 3, _ => rfl
  | 4, _ => rfl
  | 5, _ => rfl
  | j + 6, h => absurd h (by omega)
def dfvX6 : List Value := [.null, .null, .null, .null, .null, .null, .null, .int 0, .int 0, .int 0, .int 0]
theorem dfoX6 : ∀ j, j < 11 → defaultValue (tyX6 j) = vp_V dfvX6 j
  | 0, _ => rfl
  | 1, _ => rfl
  | 2, _ => rfl
  | 3, _ => rfl
  | 4, _ => rfl
  | 5, _ => rfl
  | 6, _ => rfl
  | 7, _ => rfl
  | 8, _ => rfl
  | 9, _ => rfl
  | 10, _ => rfl
  | j + 11, h => absurd h (by omega)
def dfvJ4 : List Value := [.null, .int 0, .int 0, .int 0]
theorem dfoJ4 : ∀ j, j < 4 → defaultValue (tyJ4 j) = vp_V dfvJ4 j
  | 0, _ => rfl
  | 1, _ => rfl
  | 2, _ => rfl
  | 3, _ => rfl
  | j + 4, h => absurd h (by omega)
theorem iX4_init_end {E : gE} {i : Nat} : ([.inr (2, [.ref (gB E + gOff 4 i), .ref (gB E + gOff 5 i), .ref (gB E + gOff 6 i), .ref (gB E + gOff 7 i), .int 0, .int 0, .int 0, .int (Int32.ofInt (-1)), .int 0, .int 0]), .inl (gcA E 0, 48, .inl (fun _ => 0)), .inl (gcA E 0, 14, .inl (fun _ => 0)), .inl (gcA E 0, 14, .inl (fun _ => 0)), .inl (gcA E 0, 14, .inl (fun _ => 0))] : List va_E) = bScL E i := rfl
theorem iX4_init {E : gE} (l : List va_E) (i : Nat) (hl : l.length = gOff 3 i) : bCt E mX4_init 1 4 90 [.inr (3, i)] (l ++ [.inr (2, dfvX4)]) (l ++ bScL E i) := by
  refine bCt_of (b0 := l.length + 1) (by simp) [some (.inr (3, i))] (by rfl) rfl rfl (Nat.le_of_ble_eq_true rfl) ?_
  intro X K hn hE
  refine bWX.eq (l' := l ++ [.inr (2, [.null, .null, .null, .null, .int 0, .int 0, .int 0, .int 0, .int 0, .int 0])]) rfl ?_
  refine b_aload_0 K dX4_init_0 ?_
  refine b_objInit K (g_mem 173 (by decide +kernel)) rfl ⟨by decide, by decide⟩ dX4_init_1 ?_
  refine b_aload_0 K dX4_init_4 ?_
  refine b_bipush K dX4_init_5 rfl ?_
  refine b_newa (t := 0) (N := 48) (k := 4) (i := i) (ty := .int) K rfl rfl (g_mem 215 (by decide +kernel)) rfl (by decide) (48, .inl (fun _ => 0)) (fun _ => rfl) (by decide) (by simp) (by simp only [List.length_append, List.length_cons, List.length_nil]; have := (bOffS (i := i)).1; omega) (by decide) (by decide) dX4_init_7 ?_
  refine bWX.eq (l' := l ++ [.inr (2, [.null, .null, .null, .null, .int 0, .int 0, .int 0, .int 0, .int 0, .int 0]), .inl (gcA E 0, 48, .inl (fun _ => 0))]) (by rw [List.append_assoc]; rfl) ?_
  refine b_put (k := 3) (i := i) K (⟨_, rfl, by decide, rfl, fun h => by first | rfl | exact absurd h (by decide), rfl, (g_mem 174 (by decide +kernel))⟩ : bF RX4 9 2 0 (.array .int) true) (fun _ => hn) l.length hl.symm bAt0 rfl rfl (Nat.le_of_ble_eq_true rfl) dX4_init_9 ?_
  refine bWX.eq (l' := l ++ [.inr (2, [.ref (gB E + gOff 4 i), .null, .null, .null, .int 0, .int 0, .int 0, .int 0, .int 0, .int 0]), .inl (gcA E 0, 48, .inl (fun _ => 0))]) (bSet0 _) ?_
  refine b_aload_0 K dX4_init_12 ?_
  refine b_bipush K dX4_init_13 rfl ?_
  refine b_newa (t := 0) (N := 14) (k := 5) (i := i) (ty := .int) K rfl rfl (g_mem 215 (by decide +kernel)) rfl (by decide) (14, .inl (fun _ => 0)) (fun _ => rfl) (by decide) (by simp) (by simp only [List.length_append, List.length_cons, List.length_nil]; have := (bOffS (i := i)).2.1; omega) (by decide) (by decide) dX4_init_15 ?_
  refine bWX.eq (l' := l ++ [.inr (2, [.ref (gB E + gOff 4 i), .null, .null, .null, .int 0, .int 0, .int 0, .int 0, .int 0, .int 0]), .inl (gcA E 0, 48, .inl (fun _ => 0)), .inl (gcA E 0, 14, .inl (fun _ => 0))]) (by rw [List.append_assoc]; rfl) ?_
  refine b_put (k := 3) (i := i) K (⟨_, rfl, by decide, rfl, fun h => by first | rfl | exact absurd h (by decide), rfl, (g_mem 175 (by decide +kernel))⟩ : bF RX4 15 2 1 (.array .int) true) (fun _ => hn) l.length hl.symm bAt0 rfl rfl (Nat.le_of_ble_eq_true rfl) dX4_init_17 ?_
  refine bWX.eq (l' := l ++ [.inr (2, [.ref (gB E + gOff 4 i), .ref (gB E + gOff 5 i), .null, .null, .int 0, .int 0, .int 0, .int 0, .int 0, .int 0]), .inl (gcA E 0, 48, .inl (fun _ => 0)), .inl (gcA E 0, 14, .inl (fun _ => 0))]) (bSet0 _) ?_
  refine b_aload_0 K dX4_init_20 ?_
  refine b_bipush K dX4_init_21 rfl ?_
  refine b_newa (t := 0) (N := 14) (k := 6) (i := i) (ty := .int) K rfl rfl (g_mem 215 (by decide +kernel)) rfl (by decide) (14, .inl (fun _ => 0)) (fun _ => rfl) (by decide) (by simp) (by simp only [List.length_append, List.length_cons, List.length_nil]; have := (bOffS (i := i)).2.2.1; omega) (by decide) (by decide) dX4_init_23 ?_
  refine bWX.eq (l' := l ++ [.inr (2, [.ref (gB E + gOff 4 i), .ref (gB E + gOff 5 i), .null, .null, .int 0, .int 0, .int 0, .int 0, .int 0, .int 0]), .inl (gcA E 0, 48, .inl (fun _ => 0)), .inl (gcA E 0, 14, .inl (fun _ => 0)), .inl (gcA E 0, 14, .inl (fun _ => 0))]) (by rw [List.append_assoc]; rfl) ?_
  refine b_put (k := 3) (i := i) K (⟨_, rfl, by decide, rfl, fun h => by first | rfl | exact absurd h (by decide), rfl, (g_mem 176 (by decide +kernel))⟩ : bF RX4 18 2 2 (.array .int) true) (fun _ => hn) l.length hl.symm bAt0 rfl rfl (Nat.le_of_ble_eq_true rfl) dX4_init_25 ?_
  refine bWX.eq (l' := l ++ [.inr (2, [.ref (gB E + gOff 4 i), .ref (gB E + gOff 5 i), .ref (gB E + gOff 6 i), .null, .int 0, .int 0, .int 0, .int 0, .int 0, .int 0]), .inl (gcA E 0, 48, .inl (fun _ => 0)), .inl (gcA E 0, 14, .inl (fun _ => 0)), .inl (gcA E 0, 14, .inl (fun _ => 0))]) (bSet0 _) ?_
  refine b_aload_0 K dX4_init_28 ?_
  refine b_bipush K dX4_init_29 rfl ?_
  refine b_newa (t := 0) (N := 14) (k := 7) (i := i) (ty := .int) K rfl rfl (g_mem 215 (by decide +kernel)) rfl (by decide) (14, .inl (fun _ => 0)) (fun _ => rfl) (by decide) (by simp) (by simp only [List.length_append, List.length_cons, List.length_nil]; have := (bOffS (i := i)).2.2.2; omega) (by decide) (by decide) dX4_init_31 ?_
  refine bWX.eq (l' := l ++ [.inr (2, [.ref (gB E + gOff 4 i), .ref (gB E + gOff 5 i), .ref (gB E + gOff 6 i), .null, .int 0, .int 0, .int 0, .int 0, .int 0, .int 0]), .inl (gcA E 0, 48, .inl (fun _ => 0)), .inl (gcA E 0, 14, .inl (fun _ => 0)), .inl (gcA E 0, 14, .inl (fun _ => 0)), .inl (gcA E 0, 14, .inl (fun _ => 0))]) (by rw [List.append_assoc]; rfl) ?_
  refine b_put (k := 3) (i := i) K (⟨_, rfl, by decide, rfl, fun h => by first | rfl | exact absurd h (by decide), rfl, (g_mem 177 (by decide +kernel))⟩ : bF RX4 21 2 3 (.array .int) true) (fun _ => hn) l.length hl.symm bAt0 rfl rfl (Nat.le_of_ble_eq_true rfl) dX4_init_33 ?_
  refine bWX.eq (l' := l ++ [.inr (2, [.ref (gB E + gOff 4 i), .ref (gB E + gOff 5 i), .ref (gB E + gOff 6 i), .ref (gB E + gOff 7 i), .int 0, .int 0, .int 0, .int 0, .int 0, .int 0]), .inl (gcA E 0, 48, .inl (fun _ => 0)), .inl (gcA E 0, 14, .inl (fun _ => 0)), .inl (gcA E 0, 14, .inl (fun _ => 0)), .inl (gcA E 0, 14, .inl (fun _ => 0))]) (bSet0 _) ?_
  refine b_aload_0 K dX4_init_36 ?_
  refine b_iconst K dX4_init_37 ?_
  refine b_put (k := 3) (i := i) K (⟨_, rfl, by decide, rfl, fun h => by first | rfl | exact absurd h (by decide), rfl, (g_mem 185 (by decide +kernel))⟩ : bF RX4 24 2 7 (.int) false) (fun _ => hn) l.length hl.symm bAt0 rfl rfl (Nat.le_of_ble_eq_true rfl) dX4_init_38 ?_
  refine bWX.eq (l' := l ++ [.inr (2, [.ref (gB E + gOff 4 i), .ref (gB E + gOff 5 i), .ref (gB E + gOff 6 i), .ref (gB E + gOff 7 i), .int 0, .int 0, .int 0, .int (Int32.ofInt (-1)), .int 0, .int 0]), .inl (gcA E 0, 48, .inl (fun _ => 0)), .inl (gcA E 0, 14, .inl (fun _ => 0)), .inl (gcA E 0, 14, .inl (fun _ => 0)), .inl (gcA E 0, 14, .inl (fun _ => 0))]) (bSet0 _) ?_
  exact b_ret K hE rfl dX4_init_41 (by decide) (by decide) (congrArg (l ++ ·) iX4_init_end)
theorem iX3_init_end {E : gE} : ([.inr (1, [.ref (gB E + gOff 11 0), .int 0]), .inl (gcA E 1, 60, .inl (fun _ => 0))] : List va_E) = [gEnt E gZ0 (10, 0), gEnt E gZ0 (11, 0)] := rfl
theorem iX3_init {E : gE} (l : List va_E) (hl : l.length = gOff 10 0) : bCt E mX3_init 1 1 60 [.inr (10, 0)] (l ++ [.inr (1, dfvX3)]) (l ++ [gEnt E gZ0 (10, 0), gEnt E gZ0 (11, 0)]) := by
  refine bCt_of (b0 := l.length + 1) (by simp) [some (.inr (10, 0))] (by rfl) rfl rfl (Nat.le_of_ble_eq_true rfl) ?_
  intro X K hn hE
  refine bWX.eq (l' := l ++ [.inr (1, [.null, .int 0])]) rfl ?_
  refine b_aload_0 K dX3_init_0 ?_
  refine b_objInit K (g_mem 263 (by decide +kernel)) rfl ⟨by decide, by decide⟩ dX3_init_1 ?_
  refine b_aload_0 K dX3_init_4 ?_
  refine b_bipush K dX3_init_5 rfl ?_
  refine b_newa (t := 1) (N := 60) (k := 11) (i := 0) (ty := .char) K rfl rfl (g_mem 272 (by decide +kernel)) rfl (by decide) (60, .inl (fun _ => 0)) (fun _ => rfl) (by decide) (by simp) (by simp only [List.length_append, List.length_cons, List.length_nil]; rw [hl]; rfl) (by decide) (by decide) dX3_init_7 ?_
  refine bWX.eq (l' := l ++ [.inr (1, [.null, .int 0]), .inl (gcA E 1, 60, .inl (fun _ => 0))]) (by rw [List.append_assoc]; rfl) ?_
  refine b_put (k := 10) (i := 0) K (⟨_, rfl, by decide, rfl, fun h => by first | rfl | exact absurd h (by decide), rfl, (g_mem 264 (by decide +kernel))⟩ : bF RX3 9 1 0 (.array .char) true) (fun _ => hn) l.length hl.symm bAt0 rfl rfl (Nat.le_of_ble_eq_true rfl) dX3_init_9 ?_
  refine bWX.eq (l' := l ++ [.inr (1, [.ref (gB E + gOff 11 0), .int 0]), .inl (gcA E 1, 60, .inl (fun _ => 0))]) (bSet0 _) ?_
  exact b_ret K hE rfl dX3_init_12 (by decide) (by decide) (congrArg (l ++ ·) iX3_init_end)
theorem iJ5_init {E : gE} (l : List va_E) (hl : l.length = gOff 12 0) : bCt E mJ5_init_d00df 1 1 16 [.inr (12, 0), iv 16] (l ++ [.inr (5, dfvJ4)]) (l ++ [gEnt E gZ0 (12, 0), gEnt E gZ0 (13, 0)]) := by
  refine bCt_of (b0 := l.length + 1) (by simp) [some (.inr (12, 0)), some (iv 16)] (by rfl) rfl rfl (Nat.le_of_ble_eq_true rfl) ?_
  intro X K hn hE
  refine bWX.eq (l' := l ++ [.inr (5, [.null, .int 0, .int 0, .int 0])]) rfl ?_
  refine b_aload_0 K dJ5_init_d00df_0 ?_
  refine b_objInit K (g_mem 281 (by decide +kernel)) rfl ⟨by decide, by decide⟩ dJ5_init_d00df_1 ?_
  refine b_getsV (C := "java/lang/String") (nm := "COMPACT_STRINGS") (dd := "Z") K (g_mem 283 (by decide +kernel)) (g_mem 8 (by decide +kernel)) (g_mem 282 (by decide +kernel)) (gCS K.2.2.2.2.1) dJ5_init_d00df_4 ?_
  refine b_if_eq (a := 1) (tgt := 25) K (by omega) dJ5_init_d00df_7 (by decide) (fun h => absurd h (by decide)) (fun _ => ?_)
  refine b_aload_0 K dJ5_init_d00df_10 ?_
  refine b_iload_1 K dJ5_init_d00df_11 ?_
  refine b_newa (t := 2) (N := 16) (k := 13) (i := 0) (ty := .byte) K rfl rfl (g_mem 113 (by decide +kernel)) rfl (by decide) (16, .inl (fun _ => 0)) (fun _ => rfl) (by decide) (by simp) (by simp only [List.length_append, List.length_cons, List.length_nil]; rw [hl]; rfl) (by decide) (by decide) dJ5_init_d00df_12 ?_
  refine bWX.eq (l' := l ++ [.inr (5, [.null, .int 0, .int 0, .int 0]), .inl (gcA E 2, 16, .inl (fun _ => 0))]) (by rw [List.append_assoc]; rfl) ?_
  refine b_put (k := 12) (i := 0) K (⟨_, rfl, by decide, rfl, fun h => by first | rfl | exact absurd h (by decide), rfl, (g_mem 291 (by decide +kernel))⟩ : bF RJ5 15 5 0 (.array .byte) false) (fun _ => hn) l.length hl.symm bAt0 rfl rfl (Nat.le_of_ble_eq_true rfl) dJ5_init_d00df_14 ?_
  refine bWX.eq (l' := l ++ [.inr (5, [.ref (gB E + gOff 13 0), .int 0, .int 0, .int 0]), .inl (gcA E 2, 16, .inl (fun _ => 0))]) (bSet0 _) ?_
  refine b_aload_0 K dJ5_init_d00df_17 ?_
  refine b_iconst K dJ5_init_d00df_18 ?_
  refine b_put (k := 12) (i := 0) K (⟨_, rfl, by decide, rfl, fun h => by first | rfl | exact absurd h (by decide), rfl, (g_mem 292 (by decide +kernel))⟩ : bF RJ5 22 5 1 (.byte) false) (fun _ => hn) l.length hl.symm bAt0 rfl rfl (Nat.le_of_ble_eq_true rfl) dJ5_init_d00df_19 ?_
  refine bWX.eq (l' := l ++ [.inr (5, [.ref (gB E + gOff 13 0), .int (Int32.ofInt 0), .int 0, .int 0]), .inl (gcA E 2, 16, .inl (fun _ => 0))]) (bSet0 _) ?_
  refine b_goto (tgt := 38) K dJ5_init_d00df_22 (by decide) ?_
  exact b_ret K hE rfl dJ5_init_d00df_38 (by decide) (by decide) rfl
theorem iJ4_init {E : gE} (l : List va_E) (hl : l.length = gOff 12 0) : bCt E mJ4_init_da8c8 2 1 16 [.inr (12, 0)] (l ++ [.inr (5, dfvJ4)]) (l ++ [gEnt E gZ0 (12, 0), gEnt E gZ0 (13, 0)]) := by
  refine bCt_of (b0 := l.length + 1) (by simp) [some (.inr (12, 0))] (by rfl) rfl rfl (Nat.le_of_ble_eq_true rfl) ?_
  intro X K hn hE
  refine b_aload_0 K dJ4_init_da8c8_0 ?_
  refine b_bipush K dJ4_init_da8c8_1 rfl ?_
  refine b_call1 K (iJ5_init l hl) mtJ5_init_d00df (g_mem 279 (by decide +kernel)) ⟨rfl, rfl⟩ lkRJ4_1 ⟨by decide, by decide, by decide⟩ (by simp) (by simp) rfl (Nat.le_of_ble_eq_true rfl) dJ4_init_da8c8_3 ?_
  exact b_ret K hE rfl dJ4_init_da8c8_6 (by decide) (by decide) rfl
theorem iX5_f {E : gE} {sh n : Nat} : va_up (fun j => if j < n then some (gB E + gOff 3 (5 * sh + j)) else none) n (some (gB E + gOff 3 (5 * sh + n))) = fun j => if j < n + 1 then some (gB E + gOff 3 (5 * sh + j)) else none := funext fun j => by
  unfold va_up
  by_cases h : j = n
  · rw [if_pos h, if_pos (by omega), h]
  · rw [if_neg h]
    show (if j < n then some (gB E + gOff 3 (5 * sh + j)) else none) = _
    by_cases h2 : j < n
    · rw [if_pos h2, if_pos (by omega)]
    · rw [if_neg h2, if_neg (by omega)]
theorem iX2_f {E : gE} {n : Nat} : va_up (fun j => if j < n then some (gB E + gOff 1 (3 + j)) else none) n (some (gB E + gOff 1 (3 + n))) = fun j => if j < n + 1 then some (gB E + gOff 1 (3 + j)) else none := funext fun j => by
  unfold va_up
  by_cases h : j = n
  · rw [if_pos h, if_pos (by omega), h]
  · rw [if_neg h]
    show (if j < n then some (gB E + gOff 1 (3 + j)) else none) = _
    by_cases h2 : j < n
    · rw [if_pos h2, if_pos (by omega)]
    · rw [if_neg h2, if_neg (by omega)]
theorem iX5_init_at {l : List va_E} {a b : va_E} {r s : List va_E} {n : Nat} {e : va_E} (h : r.length = n ∧ s[0]? = some e) : (l ++ (a :: b :: (r ++ s)))[l.length + (2 + n)]? = some e := by
  rw [bAtJ, show 2 + n = n + 1 + 1 by omega, List.getElem?_cons_succ, List.getElem?_cons_succ, ← h.1, bAt0, h.2]
theorem bOff3n {sh n k : Nat} (h : sh < 11) (hn : n < 5) (hl : k = gSo sh) : gOff 3 (5 * sh + n) = k + (2 + 5 * n) := by rw [bOff3 h hn, hl, Nat.add_assoc]
theorem bOff1n {n k : Nat} (hl : k = 82) : gOff 1 (3 + n) = k + (2 + 27 * n) := by
  show (if 3 + n < 3 then 1 + 27 * (3 + n) else 3 + 27 * (3 + n)) = _
  rw [if_neg (by omega)]
  omega
theorem iX5_init_loop {X : gM} {E : gE} {l l' : List va_E} (sh : Nat) (hs : sh < 11) (hl : l.length = gSo sh) (K : bK X E mX5_init 2 26 505 (l.length + 1)) (hE : bEnd X E 26 505 l') (hl9 : ∀ H, va_P (gD E) gCl (bW E (l ++ (.inr (3, [.ref (gB E + gOff 2 sh), .int 0, .int 0, .int 0, .int 0, .int 0]) :: .inl (gcA E 3, 5, .inr (.inr (.inr (.inr (fun j => if j < 5 then some (gB E + gOff 3 (5 * sh + j)) else none))))) :: bFl (fun n => bScL E (5 * sh + n)) (5)))) H → va_P (gD E) gCl (bW E l') H) : ∀ (m n : Nat), n + m = 5 → bWX X E (1 + 5 * n) (5 + 100 * n) 14 [some (.inr (1, sh)), some (iv (n : Int))] [] (l ++ (.inr (3, [.ref (gB E + gOff 2 sh), .int 0, .int 0, .int 0, .int 0, .int 0]) :: .inl (gcA E 3, 5, .inr (.inr (.inr (.inr (fun j => if j < n then some (gB E + gOff 3 (5 * sh + j)) else none))))) :: bFl (fun n => bScL E (5 * sh + n)) (n)))
  | 0, n, hm => by
    refine b_iload_1 K dX5_init_14 ?_
    refine b_aload_0 K dX5_init_15 ?_
    refine b_get (k := 1) (i := sh) (v := .inr (2, sh)) K (⟨_, rfl, by decide, rfl, fun h => by first | rfl | exact absurd h (by decide), rfl, (g_mem 216 (by decide +kernel))⟩ : bF RX5 11 3 0 (.array (.object "ScrollChecks$Scroll")) true) l.length hl.symm bAt0 rfl dX5_init_16 ?_
    refine b_alen (t := 3) (k := 2) (i := sh) K rfl (l.length + 1) (by have := hl; show gSo sh + 1 = _; omega) (bAtJ 1) dX5_init_19 ?_
    refine b_icmp_ge (tgt := 42) K (by omega) dX5_init_20 (by decide) (fun _ => ?_) (fun h => absurd h (by omega))
    obtain rfl : n = 5 := by omega
    exact b_retC K hE rfl dX5_init_42 (by decide) (by decide) hl9
  | m + 1, n, hm => by
    refine b_iload_1 K dX5_init_14 ?_
    refine b_aload_0 K dX5_init_15 ?_
    refine b_get (k := 1) (i := sh) (v := .inr (2, sh)) K (⟨_, rfl, by decide, rfl, fun h => by first | rfl | exact absurd h (by decide), rfl, (g_mem 216 (by decide +kernel))⟩ : bF RX5 11 3 0 (.array (.object "ScrollChecks$Scroll")) true) l.length hl.symm bAt0 rfl dX5_init_16 ?_
    refine b_alen (t := 3) (k := 2) (i := sh) K rfl (l.length + 1) (by have := hl; show gSo sh + 1 = _; omega) (bAtJ 1) dX5_init_19 ?_
    refine b_icmp_ge (tgt := 42) K (by omega) dX5_init_20 (by decide) (fun h => absurd h (by omega)) (fun _ => ?_)
    refine b_aload_0 K dX5_init_23 ?_
    refine b_get (k := 1) (i := sh) (v := .inr (2, sh)) K (⟨_, rfl, by decide, rfl, fun h => by first | rfl | exact absurd h (by decide), rfl, (g_mem 216 (by decide +kernel))⟩ : bF RX5 11 3 0 (.array (.object "ScrollChecks$Scroll")) true) l.length hl.symm bAt0 rfl dX5_init_24 ?_
    refine b_iload_1 K dX5_init_27 ?_
    have hfl : (bFl (fun n => bScL E (5 * sh + n)) n).length = 5 * n := bFl_len (c := 5) (fun n => bScL_len) n
    have hz : (l ++ (.inr (3, [.ref (gB E + gOff 2 sh), .int 0, .int 0, .int 0, .int 0, .int 0]) :: .inl (gcA E 3, 5, .inr (.inr (.inr (.inr (fun j => if j < n then some (gB E + gOff 3 (5 * sh + j)) else none))))) :: bFl (fun n => bScL E (5 * sh + n)) (n))).length = l.length + 2 + 5 * n := by simp only [List.length_append, List.length_cons, hfl]; omega
    refine b_new (ci := 2) (k := 3) (i := 5 * sh + n) K rfl (g_mem 167 (by decide +kernel)) (g_mem 169 (by decide +kernel)) (g_mem 3 (by decide +kernel)) tyX4 tyX4_ok dfvX4 dfoX4 (by rw [hz]; omega) (by rw [hz]; rw [bOff3n hs (by omega) hl]; try omega) (by omega) (by show _ + 10 ≤ _; omega) dX5_init_28 ?_
    refine b_dup K dX5_init_31 rfl ?_
    refine b_call0 K (iX4_init _ (5 * sh + n) (by rw [hz]; rw [bOff3n hs (by omega) hl]; try omega)) mtX4_init (g_mem 171 (by decide +kernel)) ⟨rfl, rfl⟩ lkRX5_17 ⟨by decide, by omega, by show _ + 10 + _ ≤ _; omega⟩ (by rw [List.length_append, hz]; simp; omega) (by rw [List.length_append]; simp) rfl (Nat.le_of_ble_eq_true rfl) dX5_init_32 ?_
    refine bWX.eq (l' := l ++ (.inr (3, [.ref (gB E + gOff 2 sh), .int 0, .int 0, .int 0, .int 0, .int 0]) :: .inl (gcA E 3, 5, .inr (.inr (.inr (.inr (fun j => if j < n then some (gB E + gOff 3 (5 * sh + j)) else none))))) :: (bFl (fun n => bScL E (5 * sh + n)) n ++ bScL E (5 * sh + n)))) (by rw [List.append_assoc]; rfl) ?_
    refine b_ast (t := 3) (N := 5) (k := 2) (i := sh) (k2 := 3) (i2 := 5 * sh + n) (ci := 2) (m := n) K rfl rfl (l.length + 1) (l.length + (2 + 5 * n)) (by have := hl; show gSo sh + 1 = _; omega) (by have := hl; rw [bOff3n hs (by omega) hl]; try omega) (bAtJ 1) (iX5_init_at ⟨hfl, rfl⟩) rfl (by omega) (by decide) dX5_init_35 ?_
    refine bWX.eq (l' := l ++ (.inr (3, [.ref (gB E + gOff 2 sh), .int 0, .int 0, .int 0, .int 0, .int 0]) :: .inl (gcA E 3, 5, .inr (.inr (.inr (.inr (fun j => if j < n + 1 then some (gB E + gOff 3 (5 * sh + j)) else none))))) :: bFl (fun n => bScL E (5 * sh + n)) (n + 1))) ?_ ?_
    · rw [bSetJ, bFl_s, ← iX5_f, bOff3n hs (by omega) hl]; rfl
    refine b_iinc_1 K dX5_init_36 rfl ?_
    refine b_goto (tgt := 14) K dX5_init_39 (by decide) ?_
    exact bWX.cl (by simp only [Nat.mul_succ, Nat.add_assoc]) (bWX.sl (by show _ + 10 + _ ≤ _; omega) (iX5_init_loop sh hs hl K hE hl9 m (n + 1) (by omega)))
theorem iX5_init {E : gE} (l : List va_E) (sh : Nat) (hs : sh < 11) (hl : l.length = gSo sh) : bCt E mX5_init 2 26 505 [.inr (1, sh)] (l ++ [.inr (3, dfvX5)]) (l ++ bShL E sh) := by
  refine bCt_of (b0 := l.length + 1) (by simp) [some (.inr (1, sh)), none] (by rfl) rfl rfl (Nat.le_of_ble_eq_true rfl) ?_
  intro X K hn hE
  refine bWX.eq (l' := l ++ [.inr (3, [.null, .int 0, .int 0, .int 0, .int 0, .int 0])]) rfl ?_
  refine b_aload_0 K dX5_init_0 ?_
  refine b_objInit K (g_mem 166 (by decide +kernel)) rfl ⟨by decide, by decide⟩ dX5_init_1 ?_
  refine b_aload_0 K dX5_init_4 ?_
  refine b_iconst K dX5_init_5 ?_
  refine b_newq (t := 3) (N := 5) (k := 2) (i := sh) K rfl (g_mem 167 (by decide +kernel)) (g_mem 168 (by decide +kernel)) rfl (by decide) (by simp) (by simp only [List.length_append, List.length_cons, List.length_nil]; have := hl; show gSo sh + 1 = _; omega) (by decide) (by decide) dX5_init_6 ?_
  refine bWX.eq (l' := l ++ [.inr (3, [.null, .int 0, .int 0, .int 0, .int 0, .int 0]), .inl (gcA E 3, 5, .inr (.inr (.inr (.inr (fun j => if j < 0 then some (gB E + gOff 3 (5 * sh + j)) else none)))))]) (by rw [List.append_assoc]; rfl) ?_
  refine b_put (k := 1) (i := sh) K (⟨_, rfl, by decide, rfl, fun h => by first | rfl | exact absurd h (by decide), rfl, (g_mem 216 (by decide +kernel))⟩ : bF RX5 11 3 0 (.array (.object "ScrollChecks$Scroll")) true) (fun _ => hn) l.length hl.symm bAt0 rfl rfl (Nat.le_of_ble_eq_true rfl) dX5_init_9 ?_
  refine bWX.eq (l' := l ++ (.inr (3, [.ref (gB E + gOff 2 sh), .int 0, .int 0, .int 0, .int 0, .int 0]) :: .inl (gcA E 3, 5, .inr (.inr (.inr (.inr (fun j => if j < 0 then some (gB E + gOff 3 (5 * sh + j)) else none))))) :: bFl (fun n => bScL E (5 * sh + n)) (0))) (bSet0 _) ?_
  refine b_iconst K dX5_init_12 ?_
  refine b_istore_1 K dX5_init_13 rfl ?_
  refine iX5_init_loop sh hs hl K hE ?_ 5 0 rfl
  intro H hP
  have h9 := bP_cg (j := l.length + 1) (g := fun j => some (gB E + gOff 3 (5 * sh + j))) (bAtJ 1) (fun i hi => by rw [if_pos hi]) hP
  rw [bSetJ] at h9
  rw [bShL_eq]
  exact h9
theorem iX2_init_loop {X : gM} {E : gE} {l l' : List va_E} (hl : l.length = 82) (K : bK X E mX2_init 3 217 4096 (l.length + 1)) (hE : bEnd X E 217 4096 l') (hl9 : ∀ H, va_P (gD E) gCl (bW E (l ++ (.inr (0, [.ref (gB E + gOff 9 0), .int 0]) :: .inl (gcA E 4, 8, .inr (.inr (.inr (.inr (fun j => if j < 8 then some (gB E + gOff 1 (3 + j)) else none))))) :: bFl (fun n => bShL E (3 + n)) (8)))) H → va_P (gD E) gCl (bW E l') H) : ∀ (m n : Nat), n + m = 8 → bWX X E (1 + 27 * n) (8 + 511 * n) 15 [some (.inr (8, 0)), some (iv (n : Int))] [] (l ++ (.inr (0, [.ref (gB E + gOff 9 0), .int 0]) :: .inl (gcA E 4, 8, .inr (.inr (.inr (.inr (fun j => if j < n then some (gB E + gOff 1 (3 + j)) else none))))) :: bFl (fun n => bShL E (3 + n)) (n)))
  | 0, n, hm => by
    refine b_iload_1 K dX2_init_15 ?_
    refine b_aload_0 K dX2_init_16 ?_
    refine b_get (k := 8) (i := 0) (v := .inr (9, 0)) K (⟨_, rfl, by decide, rfl, fun h => by first | rfl | exact absurd h (by decide), rfl, (g_mem 248 (by decide +kernel))⟩ : bF RX2 11 0 0 (.array (.object "ScrollChecks$Shelf")) true) l.length hl.symm bAt0 rfl dX2_init_17 ?_
    refine b_alen (t := 4) (k := 9) (i := 0) K rfl (l.length + 1) (by have := hl; show 83 = _; omega) (bAtJ 1) dX2_init_20 ?_
    refine b_icmp_ge (tgt := 43) K (by omega) dX2_init_21 (by decide) (fun _ => ?_) (fun h => absurd h (by omega))
    obtain rfl : n = 8 := by omega
    exact b_retC K hE rfl dX2_init_43 (by decide) (by decide) hl9
  | m + 1, n, hm => by
    refine b_iload_1 K dX2_init_15 ?_
    refine b_aload_0 K dX2_init_16 ?_
    refine b_get (k := 8) (i := 0) (v := .inr (9, 0)) K (⟨_, rfl, by decide, rfl, fun h => by first | rfl | exact absurd h (by decide), rfl, (g_mem 248 (by decide +kernel))⟩ : bF RX2 11 0 0 (.array (.object "ScrollChecks$Shelf")) true) l.length hl.symm bAt0 rfl dX2_init_17 ?_
    refine b_alen (t := 4) (k := 9) (i := 0) K rfl (l.length + 1) (by have := hl; show 83 = _; omega) (bAtJ 1) dX2_init_20 ?_
    refine b_icmp_ge (tgt := 43) K (by omega) dX2_init_21 (by decide) (fun h => absurd h (by omega)) (fun _ => ?_)
    refine b_aload_0 K dX2_init_24 ?_
    refine b_get (k := 8) (i := 0) (v := .inr (9, 0)) K (⟨_, rfl, by decide, rfl, fun h => by first | rfl | exact absurd h (by decide), rfl, (g_mem 248 (by decide +kernel))⟩ : bF RX2 11 0 0 (.array (.object "ScrollChecks$Shelf")) true) l.length hl.symm bAt0 rfl dX2_init_25 ?_
    refine b_iload_1 K dX2_init_28 ?_
    have hfl : (bFl (fun n => bShL E (3 + n)) n).length = 27 * n := bFl_len (c := 27) (fun n => bShL_len) n
    have hz : (l ++ (.inr (0, [.ref (gB E + gOff 9 0), .int 0]) :: .inl (gcA E 4, 8, .inr (.inr (.inr (.inr (fun j => if j < n then some (gB E + gOff 1 (3 + j)) else none))))) :: bFl (fun n => bShL E (3 + n)) (n))).length = l.length + 2 + 27 * n := by simp only [List.length_append, List.length_cons, hfl]; omega
    refine b_new (ci := 3) (k := 1) (i := 3 + n) K rfl (g_mem 245 (by decide +kernel)) (g_mem 162 (by decide +kernel)) (g_mem 2 (by decide +kernel)) tyX5 tyX5_ok dfvX5 dfoX5 (by rw [hz]; omega) (by rw [hz]; rw [bOff1n hl]; try omega) (by omega) (by show _ + 6 ≤ _; omega) dX2_init_29 ?_
    refine b_dup K dX2_init_32 rfl ?_
    refine b_call0 K (iX5_init _ (3 + n) (by omega) (by rw [hz]; show _ = gOff 1 (3 + n); rw [bOff1n hl]; try omega)) mtX5_init (g_mem 164 (by decide +kernel)) ⟨rfl, rfl⟩ lkRX2_17 ⟨by decide, by omega, by show _ + 6 + _ ≤ _; omega⟩ (by rw [List.length_append, hz]; simp; omega) (by rw [List.length_append]; simp) rfl (Nat.le_of_ble_eq_true rfl) dX2_init_33 ?_
    refine bWX.eq (l' := l ++ (.inr (0, [.ref (gB E + gOff 9 0), .int 0]) :: .inl (gcA E 4, 8, .inr (.inr (.inr (.inr (fun j => if j < n then some (gB E + gOff 1 (3 + j)) else none))))) :: (bFl (fun n => bShL E (3 + n)) n ++ bShL E (3 + n)))) (by rw [List.append_assoc]; rfl) ?_
    refine b_ast (t := 4) (N := 8) (k := 9) (i := 0) (k2 := 1) (i2 := 3 + n) (ci := 3) (m := n) K rfl rfl (l.length + 1) (l.length + (2 + 27 * n)) (by have := hl; show 83 = _; omega) (by have := hl; rw [bOff1n hl]; try omega) (bAtJ 1) (iX5_init_at ⟨hfl, rfl⟩) rfl (by omega) (by decide) dX2_init_36 ?_
    refine bWX.eq (l' := l ++ (.inr (0, [.ref (gB E + gOff 9 0), .int 0]) :: .inl (gcA E 4, 8, .inr (.inr (.inr (.inr (fun j => if j < n + 1 then some (gB E + gOff 1 (3 + j)) else none))))) :: bFl (fun n => bShL E (3 + n)) (n + 1))) ?_ ?_
    · rw [bSetJ, bFl_s, ← iX2_f, bOff1n hl]; rfl
    refine b_iinc_1 K dX2_init_37 rfl ?_
    refine b_goto (tgt := 15) K dX2_init_40 (by decide) ?_
    exact bWX.cl (by simp only [Nat.mul_succ, Nat.add_assoc]) (bWX.sl (by show _ + 6 + _ ≤ _; omega) (iX2_init_loop hl K hE hl9 m (n + 1) (by omega)))
theorem iX2_init {E : gE} (l : List va_E) (hl : l.length = 82) : bCt E mX2_init 3 217 4096 [.inr (8, 0)] (l ++ [.inr (0, dfvX2)]) (l ++ gEnt E gZ0 (8, 0) :: gEnt E gZ0 (9, 0) :: bFl (fun n => bShL E (3 + n)) 8) := by
  refine bCt_of (b0 := l.length + 1) (by simp) [some (.inr (8, 0)), none] (by rfl) rfl rfl (Nat.le_of_ble_eq_true rfl) ?_
  intro X K hn hE
  refine bWX.eq (l' := l ++ [.inr (0, [.null, .int 0])]) rfl ?_
  refine b_aload_0 K dX2_init_0 ?_
  refine b_objInit K (g_mem 244 (by decide +kernel)) rfl ⟨by decide, by decide⟩ dX2_init_1 ?_
  refine b_aload_0 K dX2_init_4 ?_
  refine b_bipush K dX2_init_5 rfl ?_
  refine b_newq (t := 4) (N := 8) (k := 9) (i := 0) K rfl (g_mem 245 (by decide +kernel)) (g_mem 246 (by decide +kernel)) rfl (by decide) (by simp) (by simp only [List.length_append, List.length_cons, List.length_nil]; have := hl; show 83 = _; omega) (by decide) (by decide) dX2_init_7 ?_
  refine bWX.eq (l' := l ++ [.inr (0, [.null, .int 0]), .inl (gcA E 4, 8, .inr (.inr (.inr (.inr (fun j => if j < 0 then some (gB E + gOff 1 (3 + j)) else none)))))]) (by rw [List.append_assoc]; rfl) ?_
  refine b_put (k := 8) (i := 0) K (⟨_, rfl, by decide, rfl, fun h => by first | rfl | exact absurd h (by decide), rfl, (g_mem 248 (by decide +kernel))⟩ : bF RX2 11 0 0 (.array (.object "ScrollChecks$Shelf")) true) (fun _ => hn) l.length hl.symm bAt0 rfl rfl (Nat.le_of_ble_eq_true rfl) dX2_init_10 ?_
  refine bWX.eq (l' := l ++ (.inr (0, [.ref (gB E + gOff 9 0), .int 0]) :: .inl (gcA E 4, 8, .inr (.inr (.inr (.inr (fun j => if j < 0 then some (gB E + gOff 1 (3 + j)) else none))))) :: bFl (fun n => bShL E (3 + n)) (0))) (bSet0 _) ?_
  refine b_iconst K dX2_init_13 ?_
  refine b_istore_1 K dX2_init_14 rfl ?_
  refine iX2_init_loop hl K hE ?_ 8 0 rfl
  intro H hP
  have h9 := bP_cg (j := l.length + 1) (g := fun j => some (gB E + gOff 1 (3 + j))) (bAtJ 1) (fun i hi => by rw [if_pos hi]) hP
  rw [bSetJ] at h9
  skip
  exact h9
