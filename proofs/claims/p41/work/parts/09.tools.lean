/-! ===== tools of the walks: another form of a state, ternaries, counted loops ===== -/
theorem gWX.to {X : gM} {E : gE} {cells slots pc : Nat} {L L' : List (Option gV)} {st : List gV} {σ σ' : gS} (hL : L = L') (hs : σ = σ') (k : gWX X E cells slots pc L' st σ') : gWX X E cells slots pc L st σ := by
  subst hL; subst hs
  exact k
theorem gWX.top {X : gM} {E : gE} {cells slots pc : Nat} {L : List (Option gV)} {st : List gV} {σ : gS} {a b : Int} (h : a = b) (k : gWX X E cells slots pc L (iv b :: st) σ) : gWX X E cells slots pc L (iv a :: st) σ := by
  subst h
  exact k
theorem gIv {a b : Int} (h : a = b) : (some (iv a) : Option gV) = some (iv b) := by rw [h]
theorem gCons {α : Type} {a b : α} {l l' : List α} (h : a = b) (h2 : l = l') : a :: l = b :: l' := by rw [h, h2]
theorem gTern {X : gM} {E : gE} {c s c2 s2 pc t f J : Nat} {L : List (Option gV)} {st st0 : List gV} {σ : gS} {p : Prop} [Decidable p] {a b : Int} (br : (p → gWX X E c s t L st σ) → (¬ p → gWX X E c s f L st σ) → gWX X E c s pc L st0 σ) (kb : gWX X E c2 s2 J L (iv b :: st) σ → gWX X E c s t L st σ) (ka : gWX X E c2 s2 J L (iv a :: st) σ → gWX X E c s f L st σ) (k : gWX X E c2 s2 J L (iv (if p then b else a) :: st) σ) : gWX X E c s pc L st0 σ :=
  br (fun h => kb (by rw [if_pos h] at k; exact k)) (fun h => ka (by rw [if_neg h] at k; exact k))
theorem gTernN {X : gM} {E : gE} {c s c2 s2 pc t f J : Nat} {L : List (Option gV)} {st st0 : List gV} {σ : gS} {p : Prop} [Decidable p] {a b : Int} (br : (¬ p → gWX X E c s t L st σ) → (p → gWX X E c s f L st σ) → gWX X E c s pc L st0 σ) (kb : gWX X E c2 s2 J L (iv b :: st) σ → gWX X E c s t L st σ) (ka : gWX X E c2 s2 J L (iv a :: st) σ → gWX X E c s f L st σ) (k : gWX X E c2 s2 J L (iv (if p then a else b) :: st) σ) : gWX X E c s pc L st0 σ :=
  br (fun h => kb (by rw [if_neg h] at k; exact k)) (fun h => ka (by rw [if_pos h] at k; exact k))
/-- from the end of a counted loop back to its start -/
theorem gLp {G : Prop} {P : Nat → Prop} (N : Nat) (h0 : P 0 → G) (hs : ∀ i, i < N → P (i + 1) → P i) (hN : P N) : G := by
  have key : ∀ j, j ≤ N → P (N - j) := by
    intro j
    induction j with
    | zero => intro _; exact hN
    | succ j ih =>
      intro hj
      refine hs (N - (j + 1)) (by omega) ?_
      rw [show N - (j + 1) + 1 = N - j by omega]
      exact ih (by omega)
  refine h0 ?_
  have := key N (Nat.le_refl N)
  rw [Nat.sub_self] at this
  exact this
/-- the first of a stretch, or none -/
theorem gU_at (σ : gS) (k i j : Nat) (z : Int) (a b c : Nat) : (gU σ k i j z).1 a b c = if a = k ∧ b = i ∧ c = j then z else σ.1 a b c := rfl
theorem gU_same (σ : gS) (k i j : Nat) (z : Int) : (gU σ k i j z).1 k i j = z := by rw [gU_at, if_pos ⟨rfl, rfl, rfl⟩]
theorem gCp_at (σ : gS) (k0 i0 k i sp dp n a b c : Nat) : (gCp σ k0 i0 k i sp dp n).1 a b c = if a = k ∧ b = i ∧ dp ≤ c ∧ c < dp + n then σ.1 k0 i0 (sp + (c - dp)) else σ.1 a b c := rfl
theorem gS_ext {σ σ' : gS} (h : ∀ a b c, σ.1 a b c = σ'.1 a b c) (h2 : σ.2 = σ'.2) : σ = σ' := Prod.ext (funext fun a => funext fun b => funext fun c => h a b c) h2
def gSum (f : Nat → Int) : Nat → Int
  | 0 => 0
  | n + 1 => gSum f n + f n
def gB1 (p : Prop) [Decidable p] : Int := if p then 1 else 0
theorem gSum_le {f : Nat → Int} {c : Int} (h : ∀ k, 0 ≤ f k ∧ f k ≤ c) : ∀ n : Nat, 0 ≤ gSum f n ∧ gSum f n ≤ n * c
  | 0 => by simp [gSum]
  | n + 1 => by
    have h1 := gSum_le h n
    have h2 := h n
    have e : ((n + 1 : Nat) : Int) * c = n * c + c := by rw [Int.natCast_add, Int.add_mul]; simp
    rw [e]
    show 0 ≤ gSum f n + f n ∧ gSum f n + f n ≤ _
    omega
theorem gSum_bd {f : Nat → Int} {c : Int} : ∀ n : Nat, (∀ k, k < n → 0 ≤ f k ∧ f k ≤ c) → 0 ≤ gSum f n ∧ gSum f n ≤ n * c
  | 0, _ => by simp [gSum]
  | n + 1, h => by
    have h1 := gSum_bd n (fun k hk => h k (by omega))
    have h2 := h n (by omega)
    have e : ((n + 1 : Nat) : Int) * c = n * c + c := by rw [Int.natCast_add, Int.add_mul]; simp
    rw [e]
    show 0 ≤ gSum f n + f n ∧ gSum f n + f n ≤ _
    omega
theorem gSum_cong {f g : Nat → Int} : ∀ n : Nat, (∀ k, k < n → f k = g k) → gSum f n = gSum g n
  | 0, _ => rfl
  | n + 1, h => by
    show gSum f n + f n = gSum g n + g n
    rw [gSum_cong n (fun k hk => h k (by omega)), h n (by omega)]
theorem gSum_more {f : Nat → Int} {n : Nat} : ∀ m : Nat, (∀ k, n ≤ k → k < n + m → f k = 0) → gSum f (n + m) = gSum f n
  | 0, _ => rfl
  | m + 1, h => by
    show gSum f (n + m) + f (n + m) = _
    rw [gSum_more m (fun k h1 h2 => h k h1 (by omega)), h (n + m) (by omega) (by omega), Int.add_zero]
