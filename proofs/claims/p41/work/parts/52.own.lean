/-! ===== builders, strings and byte arrays of the law's own ===== -/
theorem bf_b0 : bF "java/lang/AbstractStringBuilder" 15 5 0 (.array .byte) false := ⟨_, rfl, by decide, rfl, fun h => absurd h (by decide), rfl, g_mem 291 (by decide +kernel)⟩
theorem bf_b1 : bF "java/lang/AbstractStringBuilder" 22 5 1 .byte false := ⟨_, rfl, by decide, rfl, fun h => absurd h (by decide), rfl, g_mem 292 (by decide +kernel)⟩
theorem bf_b3 : bF "java/lang/AbstractStringBuilder" 79 5 3 .int false := ⟨_, rfl, by decide, rfl, fun h => absurd h (by decide), rfl, g_mem 295 (by decide +kernel)⟩
theorem bf_s0 : bF "java/lang/String" 9 6 0 (.array .byte) true := ⟨_, rfl, by decide, rfl, fun _ => rfl, rfl, g_mem 1087 (by decide +kernel)⟩
theorem bf_s1 : bF "java/lang/String" 15 6 1 .byte true := ⟨_, rfl, by decide, rfl, fun _ => rfl, rfl, g_mem 1088 (by decide +kernel)⟩
theorem gRv_nat (v : Nat) : gRv (v : Int) = .ref v := by
  unfold gRv
  rw [if_neg (by omega), Int.toNat_natCast]
/-- what lies where, by membership -/
theorem gMem_more {E E2 : gE} (h : gMore E E2) {x : gXd} (hx : x ∈ gX E) : x ∈ gX E2 := by
  obtain ⟨-, -, -, -, -, l, hl⟩ := h
  rw [hl]
  exact List.mem_append_left _ hx
theorem gX_ne {E : gE} (h : gXok E) {x y : gXd} (hx : x ∈ gX E) (hy : y ∈ gX E) (hq : x ≠ y) : x.1 ≠ y.1 ∧ x.2.2.1 ≠ y.2.2.1 := by
  obtain ⟨i, hi⟩ := List.getElem?_of_mem hx
  obtain ⟨j, hj⟩ := List.getElem?_of_mem hy
  refine ⟨fun z => hq ?_, fun z => hq ?_⟩
  · have := h.2 i j x y hi hj (Or.inl z)
    subst this
    exact Option.some.inj (hi.symm.trans hj)
  · have := h.2 i j x y hi hj (Or.inr z)
    subst this
    exact Option.some.inj (hi.symm.trans hj)
/-- a step that changes the law's own cells alone, and of those before it only the ones of the list -/
def gFr (E : gE) (σ σ' : gS) (l : List Nat) : Prop := (∀ k, k < 30 → ∀ i j, σ'.1 k i j = σ.1 k i j) ∧ σ'.2 = σ.2 ∧ ∀ x ∈ gX E, x.2.2.1 ∉ l → ∀ k j, σ'.1 k x.2.2.1 j = σ.1 k x.2.2.1 j
theorem gFr.rf {E : gE} {σ : gS} {l : List Nat} : gFr E σ σ l := ⟨fun _ _ _ _ => rfl, rfl, fun _ _ _ _ _ => rfl⟩
theorem gFr.wk {E : gE} {σ σ' : gS} {l l1 : List Nat} (h : gFr E σ σ' l1) (hl : ∀ c ∈ l1, c ∈ l) : gFr E σ σ' l := ⟨h.1, h.2.1, fun x hx hn => h.2.2 x hx (fun q => hn (hl _ q))⟩
theorem gFr.tr {E E1 : gE} {σ σ1 σ2 : gS} {l l1 : List Nat} (h : gFr E σ σ1 l) (hm : gMore E E1) (h1 : gFr E1 σ1 σ2 l1) (hl : ∀ c ∈ l1, c ∈ l ∨ ∀ x ∈ gX E, x.2.2.1 ≠ c) : gFr E σ σ2 l :=
  ⟨fun k hk i j => (h1.1 k hk i j).trans (h.1 k hk i j), h1.2.1.trans h.2.1, fun x hx hn k j => (h1.2.2 x (gMem_more hm hx) (fun q => by
    rcases hl _ q with q | q
    · exact hn q
    · exact q x hx rfl) k j).trans (h.2.2 x hx hn k j)⟩
theorem gFr.to {E E1 : gE} {σ1 σ2 : gS} {l l1 : List Nat} (hm : gMore E E1) (h1 : gFr E1 σ1 σ2 l1) (hl : ∀ c ∈ l1, c ∈ l ∨ ∀ x ∈ gX E, x.2.2.1 ≠ c) : gFr E σ1 σ2 l := gFr.tr gFr.rf hm h1 hl
theorem gFr.tr1 {E E1 : gE} {σ σ1 σ2 : gS} {l : List Nat} (h : gFr E σ σ1 l) (hm : gMore E E1) (h1 : gFr E1 σ1 σ2 l) : gFr E σ σ2 l := h.tr hm h1 (fun _ q => Or.inl q)
theorem gFr_u {E : gE} {σ : gS} {k i j : Nat} {z : Int} {l : List Nat} (hk : 30 ≤ k) (hi : i ∈ l ∨ ∀ x ∈ gX E, x.2.2.1 ≠ i) : gFr E σ (gU σ k i j z) l := by
  refine ⟨fun k2 h2 i2 j2 => ?_, rfl, fun x hx hn k2 j2 => ?_⟩
  · show (if k2 = k ∧ i2 = i ∧ j2 = j then z else σ.1 k2 i2 j2) = _
    rw [if_neg (by omega)]
  · show (if k2 = k ∧ x.2.2.1 = i ∧ j2 = j then z else σ.1 k2 x.2.2.1 j2) = _
    rw [if_neg (fun q => by
      rcases hi with h | h
      · exact hn (q.2.1 ▸ h)
      · exact h x hx q.2.1)]
/-- bytes written behind each other -/
def gCb (σ : gS) (i dp n : Nat) (f : Nat → Int) : gS := (fun a b c => if a = 32 ∧ b = i ∧ dp ≤ c ∧ c < dp + n then f (c - dp) else σ.1 a b c, σ.2)
theorem gCb_at (σ : gS) (i dp n : Nat) (f : Nat → Int) (a b c : Nat) : (gCb σ i dp n f).1 a b c = if a = 32 ∧ b = i ∧ dp ≤ c ∧ c < dp + n then f (c - dp) else σ.1 a b c := rfl
theorem gFr_c {E : gE} {σ : gS} {i dp n : Nat} {f : Nat → Int} {l : List Nat} (hi : i ∈ l ∨ ∀ x ∈ gX E, x.2.2.1 ≠ i) : gFr E σ (gCb σ i dp n f) l := by
  refine ⟨fun k2 h2 i2 j2 => ?_, rfl, fun x hx hn k2 j2 => ?_⟩
  · rw [gCb_at, if_neg (by omega)]
  · rw [gCb_at, if_neg (fun q => by
      rcases hi with h | h
      · exact hn (q.2.1 ▸ h)
      · exact h x hx q.2.1)]
/-- a new cell's contents -/
def gNw0 (σ : gS) (k i : Nat) : gS := (fun a b c => if a = k ∧ b = i then (if c = 0 ∧ 33 ≤ k then -1 else 0) else σ.1 a b c, σ.2)
theorem gNw0_at (σ : gS) (k i a b c : Nat) : (gNw0 σ k i).1 a b c = if a = k ∧ b = i then (if c = 0 ∧ 33 ≤ k then -1 else 0) else σ.1 a b c := rfl
theorem gFr_n {E : gE} {σ : gS} {k i : Nat} {l : List Nat} (hk : 30 ≤ k) (hi : ∀ x ∈ gX E, x.2.2.1 ≠ i) : gFr E σ (gNw0 σ k i) l := by
  refine ⟨fun k2 h2 i2 j2 => ?_, rfl, fun x hx hn k2 j2 => ?_⟩
  · rw [gNw0_at, if_neg (by omega)]
  · rw [gNw0_at, if_neg (fun q => hi x hx q.2)]
theorem gNw_fresh (E : gE) : ∃ i : Nat, ∀ y ∈ gX E, y.2.2.1 ≠ i := by
  have key : ∀ l : List gXd, ∃ i : Nat, ∀ y ∈ l, y.2.2.1 < i := by
    intro l
    induction l with
    | nil => exact ⟨0, fun y h => absurd h List.not_mem_nil⟩
    | cons x t ih =>
      obtain ⟨i, hi⟩ := ih
      refine ⟨max i (x.2.2.1 + 1), fun y h => ?_⟩
      rcases List.mem_cons.mp h with rfl | h
      · omega
      · have := hi y h
        omega
  obtain ⟨i, hi⟩ := key (gX E)
  exact ⟨i, fun y h q => by have := hi y h; omega⟩
/-- a builder: its cell, its array, so many letters -/
def gSB (E : gE) (σ : gS) (a i v w m n : Nat) (f : Nat → Int) : Prop := (a, 33, i, 0) ∈ gX E ∧ (v, 32, w, m) ∈ gX E ∧ σ.1 33 i 0 = (v : Int) ∧ σ.1 33 i 1 = 0 ∧ σ.1 33 i 3 = (n : Int) ∧ n ≤ m ∧ m ≤ 60 ∧ (∀ j, j < n → σ.1 32 w j = f j) ∧ ∀ j, j < m → -128 ≤ σ.1 32 w j ∧ σ.1 32 w j < 128
theorem gSB.kept {E E2 : gE} {σ σ' : gS} {a i v w m n : Nat} {f : Nat → Int} {l : List Nat} (h : gSB E σ a i v w m n f) (hm : gMore E E2) (hf : gFr E σ σ' l) (hi : i ∉ l) (hw : w ∉ l) : gSB E2 σ' a i v w m n f := by
  obtain ⟨h1, h2, h3, h4, h5, h6, h7, h8, h9⟩ := h
  have e := hf.2.2 _ h1 hi
  exact ⟨gMem_more hm h1, gMem_more hm h2, (e 33 0).trans h3, (e 33 1).trans h4, (e 33 3).trans h5, h6, h7, fun j hj => (hf.2.2 _ h2 hw 32 j).trans (h8 j hj), fun j hj => by have e2 := hf.2.2 _ h2 hw 32 j; have := h9 j hj; show -128 ≤ σ'.1 32 w j ∧ σ'.1 32 w j < 128; rw [show σ'.1 32 w j = σ.1 32 w j from e2]; exact this⟩
theorem gStr_more {E E2 : gE} (hm : gMore E E2) {z n : Nat} {f : Nat → Int} (h : gStr E z n f) : gStr E2 z n f := by
  have hA : gA E2 = gA E := by unfold gA; rw [gMore_B hm]
  have h2 := h
  unfold gStr gOF' gT' at h2 ⊢
  rw [hA, hm.2.1]
  exact h2
/-- bytes that stand somewhere: in the launch's, or in a cell of the law's own -/
def gBy (E : gE) (σ : gS) (v n : Nat) (f : Nat → Int) : Prop := gT' E .byte v n (fun j => .int (Int32.ofInt (f j))) ∨ ∃ i, (v, 32, i, n) ∈ gX E ∧ ∀ j, j < n → σ.1 32 i j = f j
theorem gBy.kept {E E2 : gE} {σ σ' : gS} {v n : Nat} {f : Nat → Int} {l : List Nat} (h : gBy E σ v n f) (hm : gMore E E2) (hf : gFr E σ σ' l) (hl : l = []) : gBy E2 σ' v n f := by
  subst hl
  rcases h with h | ⟨i, h1, h2⟩
  · have hA : gA E2 = gA E := by unfold gA; rw [gMore_B hm]
    refine Or.inl ?_
    unfold gT' at h ⊢
    rw [hA, hm.2.1]
    exact h
  · exact Or.inr ⟨i, gMem_more hm h1, fun j hj => (hf.2.2 _ h1 List.not_mem_nil 32 j).trans (h2 j hj)⟩
/-- letters behind letters -/
def gCat (f : Nat → Int) (n : Nat) (g : Nat → Int) : Nat → Int := fun j => if j < n then f j else g (j - n)
theorem gSB_app {E : gE} {σ : gS} {a i v w m n k : Nat} {f g : Nat → Int} {z : Int} (h : gSB E σ a i v w m n f) (hk : n + k ≤ m) (hg : ∀ j, j < k → 0 ≤ g j ∧ g j < 128) (hz : z = ((n + k : Nat) : Int)) : gSB E (gU (gCb σ w n k g) 33 i 3 z) a i v w m (n + k) (gCat f n g) := by
  obtain ⟨h1, h2, h3, h4, h5, h6, h7, h8, h9⟩ := h
  have eo : ∀ c, c ≠ 3 → (gU (gCb σ w n k g) 33 i 3 z).1 33 i c = σ.1 33 i c := fun c hc => by
    show (if 33 = 33 ∧ i = i ∧ c = 3 then z else (gCb σ w n k g).1 33 i c) = _
    rw [if_neg (fun q => hc q.2.2), gCb_at, if_neg (by omega)]
  have ea : ∀ c, (gU (gCb σ w n k g) 33 i 3 z).1 32 w c = if n ≤ c ∧ c < n + k then g (c - n) else σ.1 32 w c := fun c => by
    show (if 32 = 33 ∧ w = i ∧ c = 3 then z else (gCb σ w n k g).1 32 w c) = _
    rw [if_neg (by omega), gCb_at]
    by_cases q : n ≤ c ∧ c < n + k
    · rw [if_pos ⟨rfl, rfl, q.1, q.2⟩, if_pos q]
    · rw [if_neg (fun y => q ⟨y.2.2.1, y.2.2.2⟩), if_neg q]
  refine ⟨h1, h2, (eo 0 (by omega)).trans h3, (eo 1 (by omega)).trans h4, ?_, hk, h7, fun j hj => ?_, fun j hj => ?_⟩
  · show (if 33 = 33 ∧ i = i ∧ 3 = 3 then z else (gCb σ w n k g).1 33 i 3) = _
    rw [if_pos ⟨rfl, rfl, rfl⟩, hz]
  · rw [ea]
    unfold gCat
    by_cases q : j < n
    · rw [if_neg (by omega), if_pos q]
      exact h8 j q
    · rw [if_pos ⟨by omega, by omega⟩, if_neg q]
  · rw [ea]
    split
    · have := hg (j - n) (by omega)
      omega
    · exact h9 j hj
theorem gU_cb (σ : gS) (w n : Nat) (x : Int) : gU σ 32 w n x = gCb σ w n 1 (fun _ => x) := gS_ext (fun a b c => by
  rw [gCb_at]
  show (if a = 32 ∧ b = w ∧ c = n then x else σ.1 a b c) = _
  by_cases q : a = 32 ∧ b = w ∧ c = n
  · rw [if_pos q, if_pos (by omega)]
  · rw [if_neg q, if_neg (by omega)]) rfl
/-- a string that stands somewhere -/
def gSt (E : gE) (σ : gS) (z n : Nat) (f : Nat → Int) (l : List Nat) : Prop := gStr E z n f ∨ ∃ i v w : Nat, i ∉ l ∧ w ∉ l ∧ (z, 34, i, 0) ∈ gX E ∧ (v, 32, w, n) ∈ gX E ∧ σ.1 34 i 0 = (v : Int) ∧ σ.1 34 i 1 = 0 ∧ ∀ j, j < n → σ.1 32 w j = f j
theorem gSt.kept {E E2 : gE} {σ σ' : gS} {z n : Nat} {f : Nat → Int} {l l2 : List Nat} (h : gSt E σ z n f l) (hm : gMore E E2) (hf : gFr E σ σ' l) (hl : ∀ c ∈ l2, c ∈ l ∨ ∀ x ∈ gX E, x.2.2.1 ≠ c) : gSt E2 σ' z n f l2 := by
  rcases h with h | ⟨i, v, w, h1, h2, h3, h4, h5, h6, h7⟩
  · exact Or.inl (gStr_more hm h)
  · have e := hf.2.2 _ h3 h1
    exact Or.inr ⟨i, v, w, fun q => by
      rcases hl _ q with q | q
      · exact h1 q
      · exact q _ h3 rfl, fun q => by
      rcases hl _ q with q | q
      · exact h2 q
      · exact q _ h4 rfl, gMem_more hm h3, gMem_more hm h4, (e 34 0).trans h5, (e 34 1).trans h6, fun j hj => (hf.2.2 _ h4 h2 32 j).trans (h7 j hj)⟩
section GX
variable {X : gM} {E : gE} {M : gMt} {D n cells slots pc : Nat} {L : List (Option gV)} {st : List gV} {σ σ' : gS}
theorem gRcv_33 (K : gK X E M D n) {a i N : Nat} (hx : (a, 33, i, N) ∈ gX E) : gRcv X E σ "java/lang/StringBuilder" a := fun H locs hP _ => by
  obtain ⟨e, he⟩ := List.getElem?_of_mem hx
  have h := va_recv (gN_K K.2.2.2.2.1) hP (ci := 5) (q0 := 309 + e) (q := (RJ4, TJ4, 4)) rfl (gW_atX he)
  exact h
theorem gAt_33 (K : gK X E M D n) : ∃ cC, ClassAt X.2.2.2.2.1 "java/lang/StringBuilder" cC := ⟨_, ((gN_K K.2.2.2.2.1).1 5 (RJ4, TJ4, 4) rfl).2⟩
theorem x_get330 (K : gK X E M D n) {a i N slot idx : Nat} {ty : FieldType} {fin : Bool} {v : gV} (hx : (a, 33, i, N) ∈ gX E) (hf : bF M.1.cls idx 5 slot ty fin) (hv : ([gRv (σ.1 33 i 0), .int (Int32.ofInt (σ.1 33 i 1)), .int (Int32.ofInt (σ.1 33 i 2)), .int (Int32.ofInt (σ.1 33 i 3))])[slot]? = some (gc E v)) (d : decode M.2.1 pc = .ok (.getfield idx, 3)) (kk : gWX X E cells slots (pc + 3) L (v :: st) σ) : gWX X E cells slots pc L (.inl (.ref a) :: st) σ := by
  intro H locs ls hP hS hlv
  obtain ⟨e, he⟩ := List.getElem?_of_mem hx
  have hN := K.2.2.2.2.1
  obtain ⟨q, h2, h3, h4, h5, h6, h7⟩ := hf
  have hok := gCl_ok h2
  exact va_get (C := q.1) (T := q.2.1) (N := q.2.2) K.1 K.2.1 (fun w hw => gN_word hN (hok.1 w hw).1 (hok.1 w hw).2 _) (fun w hw => hw) K.2.2.2.1 (gN_K hN) hP (309 + e) (gW_atX he) h2 slot h3 (gN_word hN h7 rfl _) (fun x h => h) hv d (kk H locs ls hP hS hlv)
theorem x_get33I (K : gK X E M D n) {a i N slot idx : Nat} {ty : FieldType} {fin : Bool} (hx : (a, 33, i, N) ∈ gX E) (hf : bF M.1.cls idx 5 (slot + 1) ty fin) (d : decode M.2.1 pc = .ok (.getfield idx, 3)) (kk : gWX X E cells slots (pc + 3) L (iv (σ.1 33 i (slot + 1)) :: st) σ) : gWX X E cells slots pc L (.inl (.ref a) :: st) σ := by
  refine x_get330 K hx hf ?_ d kk
  obtain ⟨q, h2, h3, -⟩ := hf
  cases h2
  have h3' : slot + 1 < 4 := h3
  match slot, h3' with
  | 0, _ => rfl
  | 1, _ => rfl
  | 2, _ => rfl
theorem x_get33V (K : gK X E M D n) {a i N idx v : Nat} {ty : FieldType} {fin : Bool} (hx : (a, 33, i, N) ∈ gX E) (hv : σ.1 33 i 0 = (v : Int)) (hf : bF M.1.cls idx 5 0 ty fin) (d : decode M.2.1 pc = .ok (.getfield idx, 3)) (kk : gWX X E cells slots (pc + 3) L (.inl (.ref v) :: st) σ) : gWX X E cells slots pc L (.inl (.ref a) :: st) σ :=
  x_get330 K hx hf (by rw [hv, gRv_nat]; rfl) d kk
theorem gEnt33_set {a i N slot : Nat} {z : Int} {x : Value} (h4 : slot < 4) (hz : x = if slot = 0 then gRv z else .int (Int32.ofInt z)) : gEntX E (gU σ 33 i slot z) (a, 33, i, N) = .inr (5, ([gRv (σ.1 33 i 0), .int (Int32.ofInt (σ.1 33 i 1)), .int (Int32.ofInt (σ.1 33 i 2)), .int (Int32.ofInt (σ.1 33 i 3))]).set slot x) := by
  subst hz
  refine congrArg (fun q : List Value => (Sum.inr (5, q) : va_E)) ?_
  match slot, h4 with
  | 0, _ | 1, _ | 2, _ | 3, _ => simp [gU]
theorem x_put330 (K : gK X E M D n) {a i N slot idx : Nat} {ty : FieldType} {fin : Bool} {v : gV} {z : Int} (hx : (a, 33, i, N) ∈ gX E) (hf : bF M.1.cls idx 5 slot ty fin) (hin : fin = true → X.2.2.2.2.2.2.2.2.1.name = "<init>") (hz : gc E v = if slot = 0 then gRv z else .int (Int32.ofInt z)) (hn : narrow ty (gc E v) = gc E v) (hfit : fits ty (gc E v) = true) (d : decode M.2.1 pc = .ok (.putfield idx, 3)) (kk : gWX X E cells slots (pc + 3) L st (gU σ 33 i slot z)) : gWX X E cells slots pc L (v :: .inl (.ref a) :: st) σ := by
  intro H locs ls hP hS hlv
  obtain ⟨e, he⟩ := List.getElem?_of_mem hx
  have hN := K.2.2.2.2.1
  have hD := gN_x hN
  obtain ⟨q, h2, h3, h4, h5, h6, h7⟩ := hf
  have hok := gCl_ok h2
  obtain ⟨ty0, hty⟩ := hok.2.2
  have h34 : slot < 4 := by cases h2; exact h3
  have hset : (gW E σ).set (309 + e) (a, .inr (5, ([gRv (σ.1 33 i 0), .int (Int32.ofInt (σ.1 33 i 1)), .int (Int32.ofInt (σ.1 33 i 2)), .int (Int32.ofInt (σ.1 33 i 3))]).set slot (gc E v))) = gW E (gU σ 33 i slot z) := gW_setX (σ' := gU σ 33 i slot z) he (gU_ent (by omega)) (fun e2 y h2 hne => gU_entX (gX_e he hD h2 hne)) (gEnt33_set h34 hz)
  cases fin with
  | true =>
    exact va_putF (C := q.1) (T := q.2.1) (N := q.2.2) K.1 K.2.1 (fun w hw => gN_word hN (hok.1 w hw).1 (hok.1 w hw).2 _) (fun w hw => hw) ty0 hty hok.2.1 K.2.2.2.1 (gN_K hN) hP (gD_ok hD σ) hS (309 + e) (gW_atX he) h2 slot h3 (gN_word hN h7 rfl _) (fun x h => h) h4 (hin rfl) (h5 rfl) h6 hn hfit h34 d (fun H1 locs1 hP1 _ hS1 => kk H1 locs1 ls (hset ▸ hP1) hS1 hlv)
  | false =>
    exact va_put (C := q.1) (T := q.2.1) (N := q.2.2) K.1 K.2.1 (fun w hw => gN_word hN (hok.1 w hw).1 (hok.1 w hw).2 _) (fun w hw => hw) ty0 hty hok.2.1 K.2.2.2.1 (gN_K hN) hP (gD_ok hD σ) hS (309 + e) (gW_atX he) h2 slot h3 (gN_word hN h7 rfl _) (fun x h => h) h4 h6 hn hfit h34 d (fun H1 locs1 hP1 _ hS1 => kk H1 locs1 ls (hset ▸ hP1) hS1 hlv)
theorem x_new33 (K : gK X E M D n) {idx : Nat} (hl : Cond.classLink M.1.cls idx "java/lang/StringBuilder" ∈ lw_tbl) (hc : cells + 1 ≤ n) (hs : slots + 4 ≤ 6 * n) (d : decode M.2.1 pc = .ok (.new idx, 3))
    (kk : ∀ (a i : Nat) (E2 : gE), gMore E E2 → gX E2 = gX E ++ [(a, 33, i, 0)] → (∀ y ∈ gX E, y.2.2.1 ≠ i) → gK X E2 M D n → gWX X E2 (cells + 1) (slots + 4) (pc + 3) L (.inl (.ref a) :: st) (gNw0 σ 33 i)) : gWX X E cells slots pc L st σ := by
  intro H locs ls hP hS hlv
  have hN := K.2.2.2.2.1
  have hR := K.2.2.2.2.2.2.2.2.2
  have hok := gCl_ok (ci := 5) (q := (RJ4, TJ4, 4)) rfl
  obtain ⟨i, hi⟩ := gNw_fresh E
  refine va_new (C := RJ4) (T := TJ4) (N := 4) (fs := [.null, .int (Int32.ofInt 0), .int (Int32.ofInt 0), .int (Int32.ofInt 0)]) K.1 K.2.1 (fun w hw => gN_word hN (hok.1 w hw).1 (hok.1 w hw).2 _) (fun w hw => hw) tyJ4 tyJ4_ok K.2.2.2.1 (gN_word hN hl rfl _) (gN_word hN (w := Cond.instantiable "java/lang/StringBuilder" 4) (g_mem 274 (by decide +kernel)) rfl _) (gN_word hN (w := Cond.initialized "java/lang/StringBuilder") (g_mem 7 (by decide +kernel)) rfl _) (gN_K hN) hP (gD_ok (gN_x hN) σ) hS (fun q hq => Nat.le_trans (hN.2.2.1) hq) (ci := 5) rfl (by decide +kernel) (by rw [hR]; exact hc) (by rw [hR]; exact hs) d ?_
  intro q H1 hP1 hD1 hS1
  refine gGrow (x := (q, 33, i, 0)) (σ := σ) (σ2 := gNw0 σ 33 i) (st := .inl (.ref q) :: st) (L := L) K rfl hi ?_ ?_ hP1 hD1 hS1 hlv rfl (fun E2 hm hX2 K2 => kk q i E2 hm hX2 hi K2)
  · unfold gW
    refine congr (congrArg _ (List.map_congr_left (fun q hq => ?_))) (gWb_eq (fun y hy => ?_))
    · have hk : q.1 < 14 := (by decide +kernel : ∀ q ∈ gAll, q.1 < 14) q hq
      rw [gEnt_congr (σ' := gNw0 σ 33 i) (σ := σ) (fun j => if_neg (by omega)) rfl]
    · exact gEntX_congr y (fun a _ j => if_neg (fun z => hi y hy z.2))
  · refine congrArg (fun q : List Value => (Sum.inr (5, q) : va_E)) ?_
    simp [gNw0, gRv]
theorem gRcv_34 (K : gK X E M D n) {a i N : Nat} (hx : (a, 34, i, N) ∈ gX E) : gRcv X E σ "java/lang/String" a := fun H locs hP _ => by
  obtain ⟨e, he⟩ := List.getElem?_of_mem hx
  have h := va_recv (gN_K K.2.2.2.2.1) hP (ci := 6) (q0 := 309 + e) (q := (RJ0, TJ0, 4)) rfl (gW_atX he)
  exact h
theorem gAt_34 (K : gK X E M D n) : ∃ cC, ClassAt X.2.2.2.2.1 "java/lang/String" cC := ⟨_, ((gN_K K.2.2.2.2.1).1 6 (RJ0, TJ0, 4) rfl).2⟩
theorem x_get340 (K : gK X E M D n) {a i N slot idx : Nat} {ty : FieldType} {fin : Bool} {v : gV} (hx : (a, 34, i, N) ∈ gX E) (hf : bF M.1.cls idx 6 slot ty fin) (hv : ([gRv (σ.1 34 i 0), .int (Int32.ofInt (σ.1 34 i 1)), .int (Int32.ofInt (σ.1 34 i 2)), .int (Int32.ofInt (σ.1 34 i 3))])[slot]? = some (gc E v)) (d : decode M.2.1 pc = .ok (.getfield idx, 3)) (kk : gWX X E cells slots (pc + 3) L (v :: st) σ) : gWX X E cells slots pc L (.inl (.ref a) :: st) σ := by
  intro H locs ls hP hS hlv
  obtain ⟨e, he⟩ := List.getElem?_of_mem hx
  have hN := K.2.2.2.2.1
  obtain ⟨q, h2, h3, h4, h5, h6, h7⟩ := hf
  have hok := gCl_ok h2
  exact va_get (C := q.1) (T := q.2.1) (N := q.2.2) K.1 K.2.1 (fun w hw => gN_word hN (hok.1 w hw).1 (hok.1 w hw).2 _) (fun w hw => hw) K.2.2.2.1 (gN_K hN) hP (309 + e) (gW_atX he) h2 slot h3 (gN_word hN h7 rfl _) (fun x h => h) hv d (kk H locs ls hP hS hlv)
theorem x_get34I (K : gK X E M D n) {a i N slot idx : Nat} {ty : FieldType} {fin : Bool} (hx : (a, 34, i, N) ∈ gX E) (hf : bF M.1.cls idx 6 (slot + 1) ty fin) (d : decode M.2.1 pc = .ok (.getfield idx, 3)) (kk : gWX X E cells slots (pc + 3) L (iv (σ.1 34 i (slot + 1)) :: st) σ) : gWX X E cells slots pc L (.inl (.ref a) :: st) σ := by
  refine x_get340 K hx hf ?_ d kk
  obtain ⟨q, h2, h3, -⟩ := hf
  cases h2
  have h3' : slot + 1 < 4 := h3
  match slot, h3' with
  | 0, _ => rfl
  | 1, _ => rfl
  | 2, _ => rfl
theorem x_get34V (K : gK X E M D n) {a i N idx v : Nat} {ty : FieldType} {fin : Bool} (hx : (a, 34, i, N) ∈ gX E) (hv : σ.1 34 i 0 = (v : Int)) (hf : bF M.1.cls idx 6 0 ty fin) (d : decode M.2.1 pc = .ok (.getfield idx, 3)) (kk : gWX X E cells slots (pc + 3) L (.inl (.ref v) :: st) σ) : gWX X E cells slots pc L (.inl (.ref a) :: st) σ :=
  x_get340 K hx hf (by rw [hv, gRv_nat]; rfl) d kk
theorem gEnt34_set {a i N slot : Nat} {z : Int} {x : Value} (h4 : slot < 4) (hz : x = if slot = 0 then gRv z else .int (Int32.ofInt z)) : gEntX E (gU σ 34 i slot z) (a, 34, i, N) = .inr (6, ([gRv (σ.1 34 i 0), .int (Int32.ofInt (σ.1 34 i 1)), .int (Int32.ofInt (σ.1 34 i 2)), .int (Int32.ofInt (σ.1 34 i 3))]).set slot x) := by
  subst hz
  refine congrArg (fun q : List Value => (Sum.inr (6, q) : va_E)) ?_
  match slot, h4 with
  | 0, _ | 1, _ | 2, _ | 3, _ => simp [gU]
theorem x_put340 (K : gK X E M D n) {a i N slot idx : Nat} {ty : FieldType} {fin : Bool} {v : gV} {z : Int} (hx : (a, 34, i, N) ∈ gX E) (hf : bF M.1.cls idx 6 slot ty fin) (hin : fin = true → X.2.2.2.2.2.2.2.2.1.name = "<init>") (hz : gc E v = if slot = 0 then gRv z else .int (Int32.ofInt z)) (hn : narrow ty (gc E v) = gc E v) (hfit : fits ty (gc E v) = true) (d : decode M.2.1 pc = .ok (.putfield idx, 3)) (kk : gWX X E cells slots (pc + 3) L st (gU σ 34 i slot z)) : gWX X E cells slots pc L (v :: .inl (.ref a) :: st) σ := by
  intro H locs ls hP hS hlv
  obtain ⟨e, he⟩ := List.getElem?_of_mem hx
  have hN := K.2.2.2.2.1
  have hD := gN_x hN
  obtain ⟨q, h2, h3, h4, h5, h6, h7⟩ := hf
  have hok := gCl_ok h2
  obtain ⟨ty0, hty⟩ := hok.2.2
  have h34 : slot < 4 := by cases h2; exact h3
  have hset : (gW E σ).set (309 + e) (a, .inr (6, ([gRv (σ.1 34 i 0), .int (Int32.ofInt (σ.1 34 i 1)), .int (Int32.ofInt (σ.1 34 i 2)), .int (Int32.ofInt (σ.1 34 i 3))]).set slot (gc E v))) = gW E (gU σ 34 i slot z) := gW_setX (σ' := gU σ 34 i slot z) he (gU_ent (by omega)) (fun e2 y h2 hne => gU_entX (gX_e he hD h2 hne)) (gEnt34_set h34 hz)
  cases fin with
  | true =>
    exact va_putF (C := q.1) (T := q.2.1) (N := q.2.2) K.1 K.2.1 (fun w hw => gN_word hN (hok.1 w hw).1 (hok.1 w hw).2 _) (fun w hw => hw) ty0 hty hok.2.1 K.2.2.2.1 (gN_K hN) hP (gD_ok hD σ) hS (309 + e) (gW_atX he) h2 slot h3 (gN_word hN h7 rfl _) (fun x h => h) h4 (hin rfl) (h5 rfl) h6 hn hfit h34 d (fun H1 locs1 hP1 _ hS1 => kk H1 locs1 ls (hset ▸ hP1) hS1 hlv)
  | false =>
    exact va_put (C := q.1) (T := q.2.1) (N := q.2.2) K.1 K.2.1 (fun w hw => gN_word hN (hok.1 w hw).1 (hok.1 w hw).2 _) (fun w hw => hw) ty0 hty hok.2.1 K.2.2.2.1 (gN_K hN) hP (gD_ok hD σ) hS (309 + e) (gW_atX he) h2 slot h3 (gN_word hN h7 rfl _) (fun x h => h) h4 h6 hn hfit h34 d (fun H1 locs1 hP1 _ hS1 => kk H1 locs1 ls (hset ▸ hP1) hS1 hlv)
theorem x_new34 (K : gK X E M D n) {idx : Nat} (hl : Cond.classLink M.1.cls idx "java/lang/String" ∈ lw_tbl) (hc : cells + 1 ≤ n) (hs : slots + 4 ≤ 6 * n) (d : decode M.2.1 pc = .ok (.new idx, 3))
    (kk : ∀ (a i : Nat) (E2 : gE), gMore E E2 → gX E2 = gX E ++ [(a, 34, i, 0)] → (∀ y ∈ gX E, y.2.2.1 ≠ i) → gK X E2 M D n → gWX X E2 (cells + 1) (slots + 4) (pc + 3) L (.inl (.ref a) :: st) (gNw0 σ 34 i)) : gWX X E cells slots pc L st σ := by
  intro H locs ls hP hS hlv
  have hN := K.2.2.2.2.1
  have hR := K.2.2.2.2.2.2.2.2.2
  have hok := gCl_ok (ci := 6) (q := (RJ0, TJ0, 4)) rfl
  obtain ⟨i, hi⟩ := gNw_fresh E
  refine va_new (C := RJ0) (T := TJ0) (N := 4) (fs := [.null, .int (Int32.ofInt 0), .int (Int32.ofInt 0), .int (Int32.ofInt 0)]) K.1 K.2.1 (fun w hw => gN_word hN (hok.1 w hw).1 (hok.1 w hw).2 _) (fun w hw => hw) tyJ0 tyJ0_ok K.2.2.2.1 (gN_word hN hl rfl _) (gN_word hN (w := Cond.instantiable "java/lang/String" 4) (g_mem 586 (by decide +kernel)) rfl _) (gN_word hN (w := Cond.initialized "java/lang/String") (g_mem 8 (by decide +kernel)) rfl _) (gN_K hN) hP (gD_ok (gN_x hN) σ) hS (fun q hq => Nat.le_trans (hN.2.2.1) hq) (ci := 6) rfl (by decide +kernel) (by rw [hR]; exact hc) (by rw [hR]; exact hs) d ?_
  intro q H1 hP1 hD1 hS1
  refine gGrow (x := (q, 34, i, 0)) (σ := σ) (σ2 := gNw0 σ 34 i) (st := .inl (.ref q) :: st) (L := L) K rfl hi ?_ ?_ hP1 hD1 hS1 hlv rfl (fun E2 hm hX2 K2 => kk q i E2 hm hX2 hi K2)
  · unfold gW
    refine congr (congrArg _ (List.map_congr_left (fun q hq => ?_))) (gWb_eq (fun y hy => ?_))
    · have hk : q.1 < 14 := (by decide +kernel : ∀ q ∈ gAll, q.1 < 14) q hq
      rw [gEnt_congr (σ' := gNw0 σ 34 i) (σ := σ) (fun j => if_neg (by omega)) rfl]
    · exact gEntX_congr y (fun a _ j => if_neg (fun z => hi y hy z.2))
  · refine congrArg (fun q : List Value => (Sum.inr (6, q) : va_E)) ?_
    simp [gNw0, gRv]
theorem x_newB (K : gK X E M D n) {N : Nat} (h1 : N ≤ 60) (hw : Cond.arrayClass .byte ∈ lw_tbl) (hc : cells + 1 ≤ n) (hs : slots + N ≤ 6 * n) (d : decode M.2.1 pc = .ok (.newarray .byte, 2))
    (kk : ∀ (a i : Nat) (E2 : gE), gMore E E2 → gX E2 = gX E ++ [(a, 32, i, N)] → (∀ y ∈ gX E, y.2.2.1 ≠ i) → gK X E2 M D n → gWX X E2 (cells + 1) (slots + N) (pc + 2) L (.inl (.ref a) :: st) (gNw0 σ 32 i)) : gWX X E cells slots pc L (iv (N : Int) :: st) σ := by
  intro H locs ls hP hS hl
  obtain ⟨i, hi⟩ := gNw_fresh E
  have hR := K.2.2.2.2.2.2.2.2.2
  refine va_newa K.1 K.2.1 (atype := .byte) (ty := .byte) (gN_word K.2.2.2.2.1 hw rfl _) rfl (gN_K K.2.2.2.2.1) hP (gD_ok (gN_x K.2.2.2.2.1) σ) hS (fun q hq => Nat.le_trans (K.2.2.2.2.1.2.2.1) hq) (N' := N) (a0 := (N, .inl (fun _ => 0))) (fun _ => rfl) (gI_pos (by omega)) (g_cl (by omega)) (by show N * 1 ≤ 536870912; omega) (by rw [hR]; exact hc) (by rw [hR]; exact hs) d ?_
  intro q cA H1 hK1 hP1 hD1 hS1
  have hcA : cA = gcA E 2 := by
    have q1 := (hK1.2 (gTys E).length (cA, .byte) (by rw [List.getElem?_append_right (Nat.le_refl _), Nat.sub_self]; rfl)).2
    have q2 := ((gN_K K.2.2.2.2.1).2 2 (gcA E 2, .byte) (gTys_at rfl)).2
    exact Option.some.inj (Eq.trans (Eq.symm q1) q2)
  subst hcA
  refine gGrow (x := (q, 32, i, N)) (σ := σ) (σ2 := gNw0 σ 32 i) (st := .inl (.ref q) :: st) (L := L) K rfl hi ?_ ?_ hP1 hD1 hS1 hl rfl (fun E2 hm hX2 K2 => kk q i E2 hm hX2 hi K2)
  · unfold gW
    refine congr (congrArg _ (List.map_congr_left (fun q hq => ?_))) (gWb_eq (fun y hy => ?_))
    · have hk : q.1 < 14 := (by decide +kernel : ∀ q ∈ gAll, q.1 < 14) q hq
      rw [gEnt_congr (σ' := gNw0 σ 32 i) (σ := σ) (fun j => if_neg (by omega)) rfl]
    · exact gEntX_congr y (fun a _ j => if_neg (fun z => hi y hy z.2))
  · refine congrArg (fun f : Nat → Int32 => (Sum.inl (gcA E 2, N, Sum.inl f) : va_E)) (funext fun c => ?_)
    show Int32.ofInt (if 32 = 32 ∧ i = i then (if c = 0 ∧ 33 ≤ 32 then -1 else 0) else σ.1 32 i c) = 0
    rw [if_pos ⟨rfl, rfl⟩, if_neg (by omega)]
    rfl

theorem x_alenB (K : gK X E M D n) {v N : Nat} {f : Nat → Int} (hb : gBy E σ v N f) (d : decode M.2.1 pc = .ok (.arraylength, 1)) (kk : gWX X E cells slots (pc + 1) L (iv (N : Int) :: st) σ) : gWX X E cells slots pc L (.inl (.ref v) :: st) σ := by
  rcases hb with hb | ⟨i, hx, -⟩
  · exact x_alenK K hb d kk
  · obtain ⟨e, he⟩ := List.getElem?_of_mem hx
    intro H locs ls hP hS hl
    exact va_alen K.1 K.2.1 (gN_K K.2.2.2.2.1) hP (309 + e) 2 (gW_atX he) (gTys_at rfl) (by rw [← Int32.ofInt_eq_ofNat]) d (kk H locs ls hP hS hl)
theorem x_alenBx (K : gK X E M D n) {v i N : Nat} (hx : (v, 32, i, N) ∈ gX E) (d : decode M.2.1 pc = .ok (.arraylength, 1)) (kk : gWX X E cells slots (pc + 1) L (iv (N : Int) :: st) σ) : gWX X E cells slots pc L (.inl (.ref v) :: st) σ :=
  x_alenB K (f := σ.1 32 i) (Or.inr ⟨i, hx, fun _ _ => rfl⟩) d kk
theorem x_baldB (K : gK X E M D n) {v N : Nat} {f : Nat → Int} (hb : gBy E σ v N f) {z : Int} (j : Nat) (hz : z = (j : Int)) (hj : j < N) (hN : N ≤ 60) (d : decode M.2.1 pc = .ok (.baload, 1)) (kk : gWX X E cells slots (pc + 1) L (iv (f j) :: st) σ) : gWX X E cells slots pc L (iv z :: .inl (.ref v) :: st) σ := by
  rcases hb with hb | ⟨i, hx, hb⟩
  · exact x_baldK K hb j hz hj (by omega) d kk
  · obtain ⟨e, he⟩ := List.getElem?_of_mem hx
    intro H locs ls hP hS hl
    subst hz
    refine va_bald K.1 K.2.1 (gN_K K.2.2.2.2.1) hP (309 + e) 2 (gW_atX he) (gTys_at rfl) (g_in hj (by show N < 2147483648; omega)) d ?_
    rw [g_cl (by omega)]
    have h := kk H locs ls hP hS hl
    rw [← hb j hj] at h
    exact h
theorem gEnt32 {v i N : Nat} {σ2 : gS} {g : Nat → Int32} (h : ∀ c, Int32.ofInt (σ2.1 32 i c) = g c) : gEntX E σ2 (v, 32, i, N) = .inl (gcA E 2, N, .inl g) := congrArg (fun f : Nat → Int32 => (Sum.inl (gcA E 2, N, Sum.inl f) : va_E)) (funext h)
theorem x_bastX (K : gK X E M D n) {v i N : Nat} (hx : (v, 32, i, N) ∈ gX E) {z x : Int} (j : Nat) (hz : z = (j : Int)) (hj : j < N) (hN : N ≤ 60) (hb : -128 ≤ x ∧ x < 128) (d : decode M.2.1 pc = .ok (.bastore, 1)) (kk : gWX X E cells slots (pc + 1) L st (gU σ 32 i j x)) : gWX X E cells slots pc L (iv x :: iv z :: .inl (.ref v) :: st) σ := by
  intro H locs ls hP hS hl
  subst hz
  obtain ⟨e, he⟩ := List.getElem?_of_mem hx
  have hD := gN_x K.2.2.2.2.1
  refine va_bast K.1 K.2.1 (gN_K K.2.2.2.2.1) hP (gD_ok hD σ) hS (309 + e) 2 (gW_atX he) (gTys_at rfl) (g_in hj (by show N < 2147483648; omega)) d (fun H1 locs1 hP1 _ hS1 => ?_)
  have hu : gEntX E (gU σ 32 i j x) (v, 32, i, N) = .inl (gcA E 2, N, .inl (upd (fun c => Int32.ofInt (σ.1 32 i c)) j (Int32.ofInt x))) := gEnt32 (fun c => by
    show Int32.ofInt (if 32 = 32 ∧ i = i ∧ c = j then x else σ.1 32 i c) = if c = j then Int32.ofInt x else Int32.ofInt (σ.1 32 i c)
    by_cases h : c = j
    · rw [if_pos ⟨rfl, rfl, h⟩, if_pos h]
    · rw [if_neg (fun q => h q.2.2), if_neg h])
  rw [g_cl (by omega), g_byte hb, gW_setX (σ' := gU σ 32 i j x) he (gU_ent (by omega)) (fun e2 y h2 hne => gU_entX (gX_e he hD h2 hne)) hu] at hP1
  exact kk H1 locs1 ls hP1 hS1 hl
theorem gCb_ent {i dp k : Nat} {f : Nat → Int} : ∀ q ∈ gAll, gEnt E (gCb σ i dp k f) q = gEnt E σ q := fun q hq => gEnt_congr (fun c => by
  have h9 : q.1 < 14 := (by decide +kernel : ∀ q ∈ gAll, q.1 < 14) q hq
  rw [gCb_at, if_neg (by omega)]) rfl
theorem gCb_entX {i dp k : Nat} {f : Nat → Int} {y : gXd} (h : y.2.2.1 ≠ i) : gEntX E (gCb σ i dp k f) y = gEntX E σ y := gEntX_congr y (fun a _ c => by
  rw [gCb_at, if_neg (fun q => h q.2.1)])
theorem x_objInitX (K : gK X E M D n) {idx a : Nat} (hl : Cond.methodLink M.1.cls idx Lib.objectInit ∈ lw_tbl) (hL : L.length = M.2.2.1) (hD : 1 ≤ D ∧ gCats st + 12 ≤ 64 * D) (d : decode M.2.1 pc = .ok (.invokespecial idx, 3)) (kk : gWX X E cells slots (pc + 3) L st σ) : gWX X E cells slots pc L (.inl (.ref a) :: st) σ := by
  intro H locs ls hP hS hlv
  have hN := K.2.2.2.2.1
  have hR := K.2.2.2.2.2.2.2.2.2
  refine W.objInit K.1 K.2.1 K.2.2.2.1 (gN_word hN hl rfl _) (gN_word hN g_oi.1 rfl _) (gN_word hN g_oi.2 rfl _) rfl (by rw [K.2.2.1, ← hL]; exact hlv.1) rfl d (by rw [hR]; exact hD.1) ?_ (kk H locs ls hP hS hlv)
  rw [hR]
  exact Nat.le_trans (Nat.add_le_add_right (by
    show 2 * 0 + ((st.map (gc E)).map fun v => v.category).sum ≤ gCats st
    have := gCats_le (E := E) st
    omega) 12) hD.2
theorem g_shl0 (z : Int) : Int32.ofInt z <<< (Int32.ofInt 0 &&& 31) = Int32.ofInt z := by
  have : Int32.ofInt 0 &&& 31 = 0 := by decide
  rw [this]
  simp
theorem x_ishl0 (K : gK X E M D n) {z : Int} (d : decode M.2.1 pc = .ok (.ishl, 1)) (k : gWX X E cells slots (pc + 1) L (iv z :: st) σ) : gWX X E cells slots pc L (iv 0 :: iv z :: st) σ :=
  fun H locs ls hP hS hl => lv_ishl K.1 K.2.1 d (by rw [g_shl0]; exact k H locs ls hP hS hl)
theorem x_ineg (K : gK X E M D n) {z : Int} (d : decode M.2.1 pc = .ok (.ineg, 1)) (k : gWX X E cells slots (pc + 1) L (iv (-z) :: st) σ) : gWX X E cells slots pc L (iv z :: st) σ :=
  fun H locs ls hP hS hl => lv_ineg K.1 K.2.1 d (by rw [show -Int32.ofInt z = Int32.ofInt (-z) from (Int32.ofInt_neg z).symm]; exact k H locs ls hP hS hl)
end GX
