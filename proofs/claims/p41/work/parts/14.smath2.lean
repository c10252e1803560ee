/-! ===== more of a scroll's numbers: first wrong bands, mending, filling ===== -/
theorem gWX.fgt {X : gM} {E : gE} {cells slots pc : Nat} {L : List (Option gV)} {st : List gV} {σ : gS} (k : Nat) (h : gWX X E cells slots pc (L.set k none) st σ) : gWX X E cells slots pc L st σ := by
  refine gWX.sub (L' := L.set k none) (by rw [List.length_set]) (fun i v hv => ?_) h
  by_cases hk : k = i
  · subst hk
    rw [List.getElem?_set] at hv
    split at hv
    · split at hv
      · exact absurd hv (by simp)
      · exact absurd hv (by simp)
    · exact hv
  · rw [List.getElem?_set_ne hk] at hv
    exact hv
theorem gSum_one (d : Nat) (v : Int) : ∀ n : Nat, gSum (fun c => if c = d then v else 0) n = if d < n then v else 0
  | 0 => by simp [gSum]
  | n + 1 => by
    show gSum (fun c => if c = d then v else 0) n + (if n = d then v else 0) = _
    rw [gSum_one d v n]
    split <;> split <;> split <;> omega
theorem gSum_zero {f : Nat → Int} (n : Nat) (h : ∀ k, k < n → f k = 0) : gSum f n = 0 := by
  have := gSum_more (f := f) (n := 0) n (fun k _ hk => h k (by omega))
  rw [Nat.zero_add] at this
  exact this
theorem gSum_nil {f : Nat → Int} : ∀ n : Nat, (∀ k, k < n → 0 ≤ f k) → gSum f n = 0 → ∀ k, k < n → f k = 0
  | 0, _, _, k, hk => absurd hk (Nat.not_lt_zero _)
  | n + 1, h, e, k, hk => by
    have e2 : gSum f n + f n = 0 := e
    have h1 : 0 ≤ gSum f n := by
      have : ∀ m, m ≤ n → 0 ≤ gSum f m := by
        intro m
        induction m with
        | zero => intro _; exact Int.le_refl 0
        | succ m ih =>
          intro hm
          have := ih (by omega)
          have := h m (by omega)
          show 0 ≤ gSum f m + f m
          omega
      exact this n (Nat.le_refl n)
    have h2 := h n (by omega)
    by_cases q : k = n
    · subst q; omega
    · exact gSum_nil n (fun k hk => h k (by omega)) (by omega) k (by omega)
theorem gFst_no {p : Nat → Bool} : ∀ {n a : Nat}, gFst p a n = -1 → ∀ k, a ≤ k → k < a + n → p k = false
  | 0, a, _, k, h1, h2 => absurd h2 (by omega)
  | n + 1, a, h, k, h1, h2 => by
    unfold gFst at h
    by_cases q : p a = true
    · rw [if_pos q] at h; omega
    · rw [if_neg q] at h
      by_cases e : k = a
      · subst e; exact Bool.eq_false_iff.mpr q
      · exact gFst_no h k (by omega) (by omega)
theorem gFst_yes {p : Nat → Bool} : ∀ {n a : Nat}, gFst p a n ≠ -1 → ∃ x : Nat, gFst p a n = (x : Int) ∧ p x = true ∧ a ≤ x ∧ x < a + n ∧ ∀ k, a ≤ k → k < x → p k = false
  | 0, a, h => absurd rfl h
  | n + 1, a, h => by
    unfold gFst at h ⊢
    by_cases q : p a = true
    · rw [if_pos q]
      exact ⟨a, rfl, q, by omega, by omega, fun k h1 h2 => by omega⟩
    · rw [if_neg q] at h ⊢
      obtain ⟨x, e, px, h1, h2, h3⟩ := gFst_yes h
      refine ⟨x, e, px, by omega, by omega, fun k k1 k2 => ?_⟩
      by_cases ek : k = a
      · subst ek; exact Bool.eq_false_iff.mpr q
      · exact h3 k (by omega) k2
theorem gFst_le {p : Nat → Bool} {n a k : Nat} (h1 : a ≤ k) (h2 : k < a + n) (h : p k = true) : ∃ x : Nat, gFst p a n = (x : Int) ∧ p x = true ∧ a ≤ x ∧ x ≤ k := by
  have hne : gFst p a n ≠ -1 := fun e => by
    have := gFst_no e k h1 h2
    rw [h] at this; cases this
  obtain ⟨x, e, px, q1, q2, q3⟩ := gFst_yes hne
  refine ⟨x, e, px, q1, ?_⟩
  apply Classical.byContradiction
  intro hx
  have := q3 k h1 (by omega)
  rw [h] at this; cases this
theorem gFst_cong {p q : Nat → Bool} : ∀ n a : Nat, (∀ k, a ≤ k → k < a + n → p k = q k) → gFst p a n = gFst q a n
  | 0, _, _ => rfl
  | n + 1, a, h => by
    unfold gFst
    rw [h a (by omega) (by omega), gFst_cong n (a + 1) (fun k h1 h2 => h k (by omega) (by omega))]
theorem gB1s_pos {p : Nat → Bool} : ∀ {n : Nat}, gSum (fun b => gB1 (p b = true)) n ≠ 0 → ∃ b, b < n ∧ p b = true
  | 0, h => absurd rfl h
  | n + 1, h => by
    by_cases q : p n = true
    · exact ⟨n, by omega, q⟩
    · have e : gSum (fun b => gB1 (p b = true)) n ≠ 0 := fun e => h (by show gSum (fun b => gB1 (p b = true)) n + gB1 (p n = true) = 0; rw [e, gB1_f q]; rfl)
      obtain ⟨b, h1, h2⟩ := gB1s_pos e
      exact ⟨b, by omega, h2⟩
theorem gB1s_two {p : Nat → Bool} {a b : Nat} {n : Nat} (hab : a ≠ b) (ha : a < n) (hb : b < n) (pa : p a = true) (pb : p b = true) : 2 ≤ gSum (fun b => gB1 (p b = true)) n := by
  have e : gSum (fun k => gB1 (p k = true)) n = gSum (fun k => if k = a then 0 else gB1 (p k = true)) n + 1 := by
    rw [gSum_upd n ha, gB1_t pa]; omega
  have e2 : gSum (fun k => if k = a then 0 else gB1 (p k = true)) n = gSum (fun k => if k = b then 0 else (if k = a then 0 else gB1 (p k = true))) n + 1 := by
    rw [gSum_upd (f := fun k => if k = a then 0 else gB1 (p k = true)) n hb]
    try dsimp only
    rw [if_neg (fun h => hab h.symm), gB1_t pb]; omega
  have := gSum_le (f := fun k => if k = b then 0 else (if k = a then 0 else gB1 (p k = true))) (c := 1) (fun k => by
    have := gB1_bd (p k = true)
    try dsimp only
    split
    · omega
    · split <;> omega) n
  omega
theorem gB1s_none {p : Nat → Bool} {n : Nat} (h : ∀ b, b < n → p b = false) : gSum (fun b => gB1 (p b = true)) n = 0 :=
  gSum_zero n (fun k hk => gB1_f (by rw [h k hk]; exact Bool.false_ne_true))
theorem gB1s_only {p : Nat → Bool} {n a : Nat} (ha : a < n) (pa : p a = true) (h : ∀ b, b < n → b ≠ a → p b = false) : gSum (fun b => gB1 (p b = true)) n = 1 := by
  rw [gSum_cong n (g := fun c => if c = a then 1 else 0) (fun k hk => ?_), gSum_one, if_pos ha]
  by_cases q : k = a
  · subst q; simp [gB1_t pa]
  · simp [q, h k hk q, gB1]
/-- bands that the scroll does not have -/
theorem s_b_off {z : Nat → Int} (hz : gZ z) {b : Nat} (hb : b < 14) (h : (b < 6 ∧ z 0 ≤ b) ∨ (6 ≤ b ∧ z 1 ≤ ((b - 6 : Nat) : Int))) : s_b z b = 0 := by
  unfold s_b
  have q := hz.2.2.2.2.2.2.1
  split
  · exact gSum_zero 8 (fun c hc => by try dsimp only
                                      rw [q b (by omega) c hc (Or.inl (by omega))]; rfl)
  · exact gSum_zero 6 (fun r hr => by try dsimp only
                                      rw [q r hr (b - 6) (by omega) (Or.inr (by omega))]; rfl)
theorem s_m_off {z : Nat → Int} (hz : gZ z) {b : Nat} (hb : b < 14) (h : (b < 6 ∧ z 0 ≤ b) ∨ (6 ≤ b ∧ z 1 ≤ ((b - 6 : Nat) : Int))) : s_m z b = 0 := by
  unfold s_m
  have q := hz.2.2.2.2.2.2.1
  split
  · exact gSum_zero 8 (fun c hc => by try dsimp only
                                      rw [q b (by omega) c hc (Or.inl (by omega))]; rfl)
  · exact gSum_zero 6 (fun r hr => by try dsimp only
                                      rw [q r hr (b - 6) (by omega) (Or.inr (by omega))]; rfl)
theorem s_w_iff (z : Nat → Int) (b : Nat) : s_w z b = true ↔ (z 2 = 1 ∧ s_m z b = 0 ∧ z (6 + b) ≠ s_b z b % 10) := by
  unfold s_w; exact decide_eq_true_iff
theorem s_w_f {z : Nat → Int} {b : Nat} (h : ¬ (z 2 = 1 ∧ s_m z b = 0 ∧ z (6 + b) ≠ s_b z b % 10)) : s_w z b = false := Bool.eq_false_iff.mpr (fun q => h ((s_w_iff z b).mp q))
theorem s_w_off {z : Nat → Int} (hz : gZ z) {b : Nat} (hb : b < 14) (h : (b < 6 ∧ z 0 ≤ b) ∨ (6 ≤ b ∧ z 1 ≤ ((b - 6 : Nat) : Int))) : s_w z b = false := by
  refine s_w_f (fun q => q.2.2 ?_)
  rw [s_b_off hz hb h]
  rcases h with h | h
  · exact hz.2.2.2.2.2.2.2.1 b h.1 h.2
  · have := hz.2.2.2.2.2.2.2.2 (b - 6) (by omega) h.2
    rw [show 6 + b = 6 + (6 + (b - 6)) by omega]; exact this
/-- no smudge in a band without smudges -/
theorem s_m_row {z : Nat → Int} {r c : Nat} (hr : r < 6) (hc : c < 8) (h : s_m z r = 0) : z (20 + (8 * r + c)) ≠ -1 := by
  unfold s_m at h
  rw [if_pos hr] at h
  intro q
  have := gSum_nil 8 (fun k _ => (gB1_bd _).1) h c hc
  rw [gB1_t q] at this; omega
theorem s_m_col {z : Nat → Int} {r c : Nat} (hr : r < 6) (hc : c < 8) (h : s_m z (6 + c) = 0) : z (20 + (8 * r + c)) ≠ -1 := by
  unfold s_m at h
  rw [if_neg (by omega), show 6 + c - 6 = c by omega] at h
  intro q
  have := gSum_nil 6 (fun k _ => (gB1_bd _).1) h r hr
  rw [gB1_t q] at this; omega
theorem s_sm_no {z : Nat → Int} (hz : gZ z) (h : s_sm z = 0) {r c : Nat} (hr : r < 6) (hc : c < 8) : z (20 + (8 * r + c)) ≠ -1 := by
  by_cases q : z 0 ≤ r
  · rw [hz.2.2.2.2.2.2.1 r hr c hc (Or.inl q)]; omega
  · exact s_m_row hr hc (gSum_nil _ (fun k _ => (s_m_bd z k).1) h r (by omega))
theorem s_m_all {z : Nat → Int} (h : ∀ r, r < 6 → ∀ c, c < 8 → z (20 + (8 * r + c)) ≠ -1) {b : Nat} (hb : b < 14) : s_m z b = 0 := by
  unfold s_m
  split
  · exact gSum_zero 8 (fun c hc => gB1_f (h b (by omega) c hc))
  · exact gSum_zero 6 (fun r hr => gB1_f (h r hr (b - 6) (by omega)))
/-- the first wrong row and column -/
def s_r1 (z : Nat → Int) : Nat := (s_fw z 0).toNat
def s_c1 (z : Nat → Int) : Nat := (s_fw z 6).toNat - 6
theorem s_fw_row {z : Nat → Int} (h : s_wr z ≠ 0) : s_fw z 0 = (s_r1 z : Int) ∧ s_r1 z < 6 ∧ s_w z (s_r1 z) = true := by
  obtain ⟨b, hb, pb⟩ := gB1s_pos (p := s_w z) h
  obtain ⟨x, e, px, h1, h2⟩ := gFst_le (p := s_w z) (n := 14 - 0) (a := 0) (k := b) (by omega) (by omega) pb
  have e2 : s_fw z 0 = (x : Int) := e
  have e3 : s_r1 z = x := by unfold s_r1; rw [e2]; rfl
  rw [e3]
  exact ⟨e2, by omega, px⟩
theorem s_fw_col {z : Nat → Int} (h : s_wc z ≠ 0) : s_fw z 6 = ((6 + s_c1 z : Nat) : Int) ∧ s_c1 z < 8 ∧ s_w z (6 + s_c1 z) = true := by
  obtain ⟨b, hb, pb⟩ := gB1s_pos (p := fun b => s_w z (6 + b)) h
  obtain ⟨x, e, px, h1, h2⟩ := gFst_le (p := s_w z) (n := 14 - 6) (a := 6) (k := 6 + b) (by omega) (by omega) pb
  have e2 : s_fw z 6 = (x : Int) := e
  have e3 : 6 + s_c1 z = x := by unfold s_c1; rw [e2]; show 6 + (x - 6) = x; omega
  rw [e3]
  exact ⟨e2, by omega, px⟩
theorem s_w_row {z : Nat → Int} (hz : gZ z) {r : Nat} (hr : r < 6) (h : s_w z r = true) : (r : Int) < z 0 := by
  apply Classical.byContradiction
  intro q
  rw [s_w_off hz (b := r) (by omega) (Or.inl ⟨hr, by omega⟩)] at h
  cases h
theorem s_w_col {z : Nat → Int} (hz : gZ z) {c : Nat} (hc : c < 8) (h : s_w z (6 + c) = true) : (c : Int) < z 1 := by
  apply Classical.byContradiction
  intro q
  rw [s_w_off hz (b := 6 + c) (by omega) (Or.inr ⟨by omega, by omega⟩)] at h
  cases h
/-- what stands in the way of mending, as one number -/
def s_om (z : Nat → Int) (n : Int) : Int :=
  if z 2 = 0 then 400 + n else if 0 < s_sm z then 200 + s_sm z else if s_wr z = 0 ∧ s_wc z = 0 then 500
  else if s_wr z ≠ 1 ∨ s_wc z ≠ 1 then 600 + (10 * s_wr z + s_wc z)
  else if s_f z (s_r1 z) = s_f z (6 + s_c1 z) then 0 else 700 + (10 * s_f z (s_r1 z) + s_f z (6 + s_c1 z))
/-- a scroll that can be mended -/
abbrev s_mb (z : Nat → Int) : Prop := s_wr z = 1 ∧ s_wc z = 1 ∧ s_f z (s_r1 z) = s_f z (6 + s_c1 z)
def s_mc (z : Nat → Int) (r c : Nat) : Bool := (List.range 10).any (fun o => decide ((o : Int) ≠ z (20 + (8 * r + c)) ∧ s_fw (zset z r c o) 0 = -1))
theorem s_mc_iff (z : Nat → Int) (r c : Nat) : s_mc z r c = true ↔ ∃ o : Nat, o < 10 ∧ (o : Int) ≠ z (20 + (8 * r + c)) ∧ s_fw (zset z r c o) 0 = -1 := by
  unfold s_mc
  rw [List.any_eq_true]
  constructor
  · rintro ⟨o, h1, h2⟩
    exact ⟨o, List.mem_range.mp h1, of_decide_eq_true h2⟩
  · rintro ⟨o, h1, h2⟩
    exact ⟨o, List.mem_range.mpr h1, decide_eq_true h2⟩
theorem s_fw_none {z : Nat → Int} : s_fw z 0 = -1 ↔ ∀ b, b < 14 → s_w z b = false := by
  constructor
  · intro h b hb
    exact gFst_no (p := s_w z) (n := 14 - 0) (a := 0) h b (by omega) (by omega)
  · intro h
    apply Classical.byContradiction
    intro q
    obtain ⟨x, _, px, _, hx, _⟩ := gFst_yes (p := s_w z) (n := 14 - 0) (a := 0) q
    rw [h x (by omega)] at px
    cases px
/-- a sign mends all just where one row and one column are wrong by one and the same fault -/
theorem s_try {z : Nat → Int} (hz : gZ z) (h2 : z 2 = 1) (hs : s_sm z = 0) {r c : Nat} (hr : r < 6) (hc : c < 8) : s_mc z r c = true ↔ (s_mb z ∧ r = s_r1 z ∧ c = s_c1 z) := by
  have hno : ∀ r, r < 6 → ∀ c, c < 8 → z (20 + (8 * r + c)) ≠ -1 := fun r hr c hc => s_sm_no hz hs hr hc
  have hm : ∀ b, b < 14 → s_m z b = 0 := fun b hb => s_m_all hno hb
  have hw : ∀ b, b < 14 → (s_w z b = true ↔ z (6 + b) ≠ s_b z b % 10) := fun b hb => by
    rw [s_w_iff]; exact ⟨fun q => q.2.2, fun q => ⟨h2, hm b hb, q⟩⟩
  have hv := gZ_s hz hr hc
  have hv2 := hno r hr c hc
  have hw2 : ∀ o : Nat, o < 10 → ∀ b, b < 14 → (s_w (zset z r c o) b = true ↔ z (6 + b) ≠ (s_b z b + (if b = r ∨ b = 6 + c then (o : Int) - z (20 + (8 * r + c)) else 0)) % 10) := fun o ho b hb => by
    rw [s_w_iff, zset_lo z r c _ (by omega), zset_lo z r c _ (by omega), s_b_set z _ hr hc hb, s_m_all (fun r' hr' c' hc' => by
      rw [zset_s z _ hc' hc]; split
      · omega
      · exact hno r' hr' c' hc') hb]
    rw [show max 0 (o : Int) = o by omega, show max 0 (z (20 + (8 * r + c))) = z (20 + (8 * r + c)) by omega]
    exact ⟨fun q => q.2.2, fun q => ⟨h2, rfl, q⟩⟩
  rw [s_mc_iff]
  constructor
  · rintro ⟨o, ho, hne, hall⟩
    have hall2 := s_fw_none.mp hall
    have key : ∀ b, b < 14 → z (6 + b) = (s_b z b + (if b = r ∨ b = 6 + c then (o : Int) - z (20 + (8 * r + c)) else 0)) % 10 := fun b hb => by
      apply Classical.byContradiction
      intro q
      have := (hw2 o ho b hb).mpr q
      rw [hall2 b hb] at this; cases this
    have wr : s_w z r = true := (hw r (by omega)).mpr (by
      have := key r (by omega)
      rw [if_pos (Or.inl rfl)] at this
      omega)
    have wc : s_w z (6 + c) = true := (hw (6 + c) (by omega)).mpr (by
      have := key (6 + c) (by omega)
      rw [if_pos (Or.inr rfl)] at this
      omega)
    have wo : ∀ b, b < 14 → b ≠ r → b ≠ 6 + c → s_w z b = false := fun b hb q1 q2 => by
      have := key b hb
      rw [if_neg (by omega), Int.add_zero] at this
      exact Bool.eq_false_iff.mpr (fun q => (hw b hb).mp q this)
    have e1 : s_wr z = 1 := gB1s_only (p := s_w z) hr wr (fun b hb q => wo b (by omega) q (by omega))
    have e2 : s_wc z = 1 := gB1s_only (p := fun b => s_w z (6 + b)) hc wc (fun b hb q => wo (6 + b) (by omega) (by omega) (by omega))
    have f1 := s_fw_row (z := z) (by omega)
    have f2 := s_fw_col (z := z) (by omega)
    have r1 : r = s_r1 z := by
      apply Classical.byContradiction
      intro q
      have := wo (s_r1 z) (by omega) (fun e => q e.symm) (by omega)
      rw [f1.2.2] at this; cases this
    have c1 : c = s_c1 z := by
      apply Classical.byContradiction
      intro q
      have := wo (6 + s_c1 z) (by omega) (by omega) (by omega)
      rw [f2.2.2] at this; cases this
    refine ⟨⟨e1, e2, ?_⟩, r1, c1⟩
    rw [← r1, ← c1]
    have k1 := key r (by omega)
    have k2 := key (6 + c) (by omega)
    rw [if_pos (Or.inl rfl)] at k1
    rw [if_pos (Or.inr rfl)] at k2
    unfold s_f
    omega
  · rintro ⟨⟨e1, e2, e3⟩, r1, c1⟩
    have f1 := s_fw_row (z := z) (by omega)
    have f2 := s_fw_col (z := z) (by omega)
    rw [← r1, ← c1] at e3
    rw [← r1] at f1
    rw [← c1] at f2
    have w1 := (hw r (by omega)).mp f1.2.2
    have w2 := (hw (6 + c) (by omega)).mp f2.2.2
    have b1 := hz.2.2.2.2.1 r (by omega)
    have b2 := hz.2.2.2.2.1 (6 + c) (by omega)
    unfold s_f at e3
    refine ⟨((z (20 + (8 * r + c)) + (z (6 + r) - s_b z r % 10 + 10) % 10) % 10).toNat, by omega, by omega, s_fw_none.mpr (fun b hb => ?_)⟩
    apply Bool.eq_false_iff.mpr
    intro q
    have q2 := (hw2 _ (by omega) b hb).mp q
    by_cases hbr : b = r
    · subst hbr
      rw [if_pos (Or.inl rfl)] at q2
      omega
    · by_cases hbc : b = 6 + c
      · subst hbc
        rw [if_pos (Or.inr rfl)] at q2
        omega
      · rw [if_neg (by omega), Int.add_zero] at q2
        have wb := (hw b hb).mpr q2
        by_cases hb6 : b < 6
        · have := gB1s_two (p := s_w z) (n := 6) hbr hb6 hr wb f1.2.2
          unfold s_wr at e1; omega
        · have := gB1s_two (p := fun k => s_w z (6 + k)) (a := b - 6) (b := c) (n := 8) (by omega) (by omega) hc (by (try dsimp only); rw [show 6 + (b - 6) = b by omega]; exact wb) f2.2.2
          unfold s_wc at e2; omega
/-- what a mending leaves -/
def zMend (z : Nat → Int) : Nat → Int := fun j => if j = 4 then z 4 + 1 else zset z (s_r1 z) (s_c1 z) ((z (20 + (8 * s_r1 z + s_c1 z)) + s_f z (s_r1 z)) % 10) j
/-- what telling the sums leaves -/
def zTell (z : Nat → Int) : Nat → Int := fun j => if j = 2 then 1 else if 6 ≤ j ∧ j < 20 then s_b z (j - 6) % 10 else z j
/-- filling -/
abbrev s_in (r c b : Nat) : Prop := r = b ∨ 6 + c = b
def s_bf (z : Nat → Int) : Int := gFst (fun b => decide (s_m z b = 1)) 0 14
/-- the smudged cells of a band among the first m filled in -/
def zFp (z : Nat → Int) (b m : Nat) : Nat → Int := fun j => if 20 ≤ j ∧ j < 20 + m ∧ z j = -1 ∧ s_in ((j - 20) / 8) ((j - 20) % 8) b then s_f z b else z j
def zF1 (z : Nat → Int) : Nat → Int := zFp z (s_bf z).toNat 48
def s_fill : Nat → (Nat → Int) → Int × (Nat → Int)
  | 0, z => (0, z)
  | n + 1, z => if s_bf z = -1 then (0, z) else ((s_fill n (zF1 z)).1 + 1, (s_fill n (zF1 z)).2)
def zFill (z : Nat → Int) : Nat → Int := fun j => if j = 5 then z 5 + (s_fill 48 z).1 else (s_fill 48 z).2 j
def zNew (r c : Int) : Nat → Int := fun j => if j = 0 then r else if j = 1 then c else if j = 3 then -1 else 0
def zCopy (z : Nat → Int) (n : Int) : Nat → Int := fun j => if j = 3 then n else if j = 4 then 0 else if j = 5 then 0 else z j
def s_ho (z : Nat → Int) (a : Int) : Int := gSum (fun r => gSum (fun c => gB1 (z (20 + (8 * r + c)) = a)) (z 1).toNat) (z 0).toNat
def s_di (z y : Nat → Int) : Int := gSum (fun r => gSum (fun c => if z (20 + (8 * r + c)) = y (20 + (8 * r + c)) then 0 else 1) (z 1).toNat) (z 0).toNat
