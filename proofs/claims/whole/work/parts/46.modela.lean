/-! ===== ScrollChecksModel: a text read ===== -/
theorem m_stp_out {T : Nat → Int} {l p : Nat} {c : Int} : m_stp T l (p, 1) c = (p, 1) := by
  unfold m_stp m_sg
  split
  · rw [if_neg (fun y => absurd y.1 (by show ¬ (1 : Int) = 0; omega))]
  · rw [if_neg (fun y => absurd y.1 (by show ¬ (1 : Int) = 0; omega))]
theorem t_at_add {T : Nat → Int} {l s k : Nat} (h : s + k < l) : t_at T l ((s : Int) + (k : Int)) = T (s + k) := by
  rw [← Int.natCast_add]
  exact t_at_nat h
theorem t_at_off {T : Nat → Int} {l : Nat} {i : Int} (h : (l : Int) ≤ i) : t_at T l i = 0 := if_neg (by omega)
theorem m_stp_fit {T : Nat → Int} {l s d k : Nat} (hd : d < 8) (hk : k < (gDb d).length) : (t_fit T l (s : Int) d k → m_stp T l (s + k, 0) ((gDb d).getD k 0) = (s + (k + 1), 0)) ∧ (¬ t_fit T l (s : Int) d k → m_stp T l (s + k, 0) ((gDb d).getD k 0) = (s + k, 1)) := by
  have hb := gDb_bd d hd k hk
  unfold t_fit m_stp m_sg
  by_cases h35 : (gDb d).getD k 0 = 35
  · rw [if_pos h35, if_pos h35]
    by_cases hl : s + k < l
    · have e := t_at_add (T := T) hl
      constructor
      · intro h
        unfold t_dg at h
        rw [e] at h
        rw [if_pos ⟨rfl, hl, h.1, h.2⟩]; rfl
      · intro h
        unfold t_dg at h
        rw [e] at h
        rw [if_neg (fun y => h ⟨y.2.2.1, y.2.2.2⟩)]
    · have e := t_at_off (T := T) (l := l) (i := (s : Int) + (k : Int)) (by omega)
      constructor
      · intro h
        unfold t_dg at h
        omega
      · intro _
        rw [if_neg (fun y => hl y.2.1)]
  · rw [if_neg h35, if_neg h35]
    by_cases hl : s + k < l
    · have e := t_at_add (T := T) hl
      constructor
      · intro h
        have h2 := h.2
        rw [e] at h2
        rw [if_pos ⟨rfl, hl, by rw [← h2]; exact Int.le_refl _, by rw [← h2]; exact Int.le_refl _⟩]; rfl
      · intro h
        rw [if_neg (fun y => h ⟨by omega, by rw [e]; have h3 := y.2.2.1; have h4 := y.2.2.2; try dsimp only at h3 h4; omega⟩)]
    · constructor
      · intro h
        exact absurd h.1 (by omega)
      · intro _
        rw [if_neg (fun y => hl y.2.1)]
theorem m_at_ok {T : Nat → Int} {l s d : Nat} (hd : d < 8) : ∀ j, j < (gDb d).length → (∀ i, 1 ≤ i → i ≤ j → t_fit T l (s : Int) d i) → m_at T l s d j = (s + (j + 1), 0)
  | 0, _, _ => rfl
  | j + 1, h1, h2 => by
    have ih := m_at_ok hd j (by omega) (fun i a b => h2 i a (by omega))
    show m_stp T l (m_at T l s d j) ((gDb d).getD (j + 1) 0) = _
    rw [ih]
    exact (m_stp_fit hd h1).1 (h2 (j + 1) (by omega) (by omega))
theorem m_at_bad {T : Nat → Int} {l s d i0 : Nat} (hd : d < 8) (h0 : 1 ≤ i0) (hf : ∀ i, 1 ≤ i → i < i0 → t_fit T l (s : Int) d i) (hn : ¬ t_fit T l (s : Int) d i0) : ∀ j, i0 ≤ j → j < (gDb d).length → m_at T l s d j = (s + i0, 1)
  | 0, h, _ => absurd h (by omega)
  | j + 1, h, hl => by
    show m_stp T l (m_at T l s d j) ((gDb d).getD (j + 1) 0) = _
    by_cases q : i0 = j + 1
    · subst q
      rw [m_at_ok hd j (by omega) (fun i a b => hf i a (by omega))]
      exact (m_stp_fit hd hl).2 hn
    · rw [m_at_bad hd h0 hf hn j (by omega) (by omega)]
      exact m_stp_out
theorem gDb_0 : ∀ d, d < 8 → 1 ≤ d → (gDb d).getD 0 0 ≠ 35 ∧ ∀ k, k < 4 → 2 * k + 1 < (gDb d).length → (gDb d).getD (2 * k + 1) 0 = 35 := by decide
theorem m_fin_ok {T : Nat → Int} {l s d : Nat} (hd : d < 8) (h1 : 1 ≤ d) (h : t_mis T l (s : Int) d = -1) : m_fin T l s d = (s + (gDb d).length, 0) ∧ s + (gDb d).length ≤ l ∧ ∀ k, k < 4 → m_v T l s d k = t_num T l (s : Int) d k := by
  have hlen := gDb_pos d hd h1
  have hf : ∀ i, i < (gDb d).length → t_fit T l (s : Int) d i := fun i hi => by
    have := gFst_no h i (by omega) (by omega)
    exact Classical.byContradiction (fun q => by rw [decide_eq_true q] at this; cases this)
  have ef : m_fin T l s d = (s + (gDb d).length, 0) := by
    unfold m_fin
    rw [m_at_ok hd _ (by omega) (fun i a b => hf i (by omega)), show (gDb d).length - 1 + 1 = (gDb d).length by omega]
  have hin : ∀ i, i < (gDb d).length → s + i < l := fun i hi => Classical.byContradiction (fun q => by
    have h := hf i hi
    unfold t_fit at h
    split at h
    · unfold t_dg at h
      rw [t_at_off (by omega)] at h
      omega
    · exact absurd h.1 (by omega))
  refine ⟨ef, by have := hin ((gDb d).length - 1) (by omega); omega, fun k hk => ?_⟩
  unfold m_v t_num
  by_cases q : 2 * k + 1 < (gDb d).length
  · have h35 := (gDb_0 d hd h1).2 k hk q
    have h2 := hf (2 * k + 1) q
    unfold t_fit at h2
    rw [if_pos h35] at h2
    have ec : (s : Int) + ((2 * k + 1 : Nat) : Int) = (s : Int) + (2 * (k : Int) + 1) := by omega
    rw [ec] at h2
    rw [if_pos q, if_pos ⟨q, h2⟩, m_at_ok hd (2 * k) (by omega) (fun i a b => hf i (by omega)), ← ec, t_at_add (hin _ q)]
    unfold t_dg at h2
    rw [← ec, t_at_add (hin _ q)] at h2
    unfold m_vl
    rw [if_pos ⟨rfl, hin _ q, h2.1, h2.2⟩]
  · rw [if_neg q, if_neg (fun y => q y.1)]
theorem m_fin_bad {T : Nat → Int} {l s d : Nat} (hd : d < 8) (h1 : 1 ≤ d) (hi : t_is T l (s : Int) (gD1 d)) (h : t_mis T l (s : Int) d ≠ -1) : ∃ x : Nat, t_mis T l (s : Int) d = (x : Int) ∧ m_fin T l s d = (s + x, 1) ∧ s + x ≤ l := by
  have hlen := gDb_pos d hd h1
  obtain ⟨x, ex, px, _, hx, hb⟩ := gFst_yes h
  have hn : ¬ t_fit T l (s : Int) d x := of_decide_eq_true px
  have hf : ∀ i, i < x → t_fit T l (s : Int) d i := fun i hi => Classical.byContradiction (fun q => by
    have := hb i (by omega) hi
    rw [decide_eq_true q] at this; cases this)
  have h0 : t_fit T l (s : Int) d 0 := by
    unfold t_fit
    rw [if_neg (gDb_0 d hd h1).1]
    exact ⟨by have := hi.1; omega, by rw [show (s : Int) + ((0 : Nat) : Int) = (s : Int) by omega]; exact hi.2⟩
  have hx1 : 1 ≤ x := Classical.byContradiction (fun q => hn (by rw [show x = 0 by omega]; exact h0))
  refine ⟨x, ex, m_at_bad hd hx1 (fun i a b => hf i b) hn _ (by omega) (by omega), ?_⟩
  have h2 := hf (x - 1) (by omega)
  refine Classical.byContradiction (fun q => ?_)
  unfold t_fit at h2
  split at h2
  · unfold t_dg at h2
    rw [t_at_off (by omega)] at h2
    omega
  · exact absurd h2.1 (by omega)
def m_prs (T : Nat → Int) (l : Nat) : Nat → Nat → Nat → (Nat → Int) → (Nat × Int) × Nat × (Nat → Int)
  | 0, s, m, O => ((s, 1), m, O)
  | n + 1, s, m, O => if (m_ro T l s m O).1.2 = 0 ∧ t_is T l ((m_ro T l s m O).1.1 : Int) 59 then m_prs T l n ((m_ro T l s m O).1.1 + 1) (m_ro T l s m O).2.1 (m_ro T l s m O).2.2 else m_ro T l s m O
theorem m_prs_1 (T : Nat → Int) (l n s m : Nat) (O : Nat → Int) : m_prs T l (n + 1) s m O = if (m_ro T l s m O).1.2 = 0 ∧ t_is T l ((m_ro T l s m O).1.1 : Int) 59 then m_prs T l n ((m_ro T l s m O).1.1 + 1) (m_ro T l s m O).2.1 (m_ro T l s m O).2.2 else m_ro T l s m O := rfl
theorem m_ro_0 {T : Nat → Int} {l s m : Nat} {O : Nat → Int} (h : t_dd T l (s : Int) = 0) : m_ro T l s m O = ((s, 1), m, O) := if_pos h
theorem m_ro_1 {T : Nat → Int} {l s m : Nat} {O : Nat → Int} (h : t_dd T l (s : Int) ≠ 0) : m_ro T l s m O = (m_fin T l s (t_dd T l (s : Int)), m + 1, m_O T l s (t_dd T l (s : Int)) m O) := if_neg h
theorem m_ro_q {T : Nat → Int} {l s m : Nat} {O : Nat → Int} (hs : s ≤ l) : m_q l (m_ro T l s m O).1 := by
  by_cases q : t_dd T l (s : Int) = 0
  · rw [m_ro_0 q]; exact ⟨hs, Or.inr rfl⟩
  · rw [m_ro_1 q]
    have := ((t_dd_spec T l (s : Int)).2.1 q).1
    exact m_at_q (by omega) _
def m_e (l : Nat) (R : (Nat × Int) × Nat × (Nat → Int)) : Int := if R.1.2 ≠ 0 ∨ R.1.1 < l then (R.1.1 : Int) else -1
theorem m_err {T : Nat → Int} {l : Nat} : ∀ (n s m : Nat) (O : Nat → Int), s ≤ l → t_err T l n (s : Int) = m_e l (m_prs T l n s m O)
  | 0, s, m, O, hs => by
    show (s : Int) = m_e l ((s, 1), m, O)
    unfold m_e
    rw [if_pos (Or.inl (by show (1 : Int) ≠ 0; omega))]
  | n + 1, s, m, O, hs => by
    have hsp := t_dd_spec T l (s : Int)
    rw [t_err_1]
    by_cases h0 : t_dd T l (s : Int) = 0
    · have eR : m_prs T l (n + 1) s m O = ((s, 1), m, O) := by
        rw [m_prs_1, m_ro_0 h0]
        exact if_neg (fun y => absurd y.1 (by show ¬ (1 : Int) = 0; omega))
      have e : m_e l ((s, 1), m, O) = (s : Int) := if_pos (Or.inl (by show (1 : Int) ≠ 0; omega))
      rw [eR, e, if_pos h0]
      split <;> rfl
    · rw [m_prs_1]
      have hi := hsp.2.1 h0
      have hd1 : 1 ≤ t_dd T l (s : Int) := by omega
      rw [if_neg (by have := hi.1; omega), if_neg h0, m_ro_1 h0]
      try dsimp only
      by_cases hm : t_mis T l (s : Int) (t_dd T l (s : Int)) = -1
      · obtain ⟨e1, e2, _⟩ := m_fin_ok hsp.1 hd1 hm
        rw [e1]
        have er : t_misr T l (s : Int) (t_dd T l (s : Int)) = -1 := if_pos hm
        rw [if_neg (fun y => y er)]
        have ec : (s : Int) + ((gDb (t_dd T l (s : Int))).length : Int) = ((s + (gDb (t_dd T l (s : Int))).length : Nat) : Int) := by omega
        rw [ec]
        by_cases hl : s + (gDb (t_dd T l (s : Int))).length = l
        · rw [if_pos (by omega), if_neg (fun y => absurd y.2.1 (by try dsimp only; omega))]
          unfold m_e
          rw [if_neg (fun y => by rcases y with y | y; exact y rfl; try dsimp only at y; omega)]
        · rw [if_neg (by omega)]
          by_cases h59 : t_is T l ((s + (gDb (t_dd T l (s : Int))).length : Nat) : Int) 59
          · rw [if_neg (fun y => y h59), if_pos ⟨rfl, h59⟩]
            have ih := m_err (T := T) (l := l) n (s + (gDb (t_dd T l (s : Int))).length + 1) (m + 1) (m_O T l s (t_dd T l (s : Int)) m O) (by have := h59.1; omega)
            rw [← ih]
            congr 1
          · rw [if_pos h59, if_neg (fun y => h59 y.2)]
            unfold m_e
            rw [if_pos (Or.inr (by try dsimp only; omega))]
      · obtain ⟨x, ex, e1, _⟩ := m_fin_bad hsp.1 hd1 hi hm
        have er : t_misr T l (s : Int) (t_dd T l (s : Int)) = (s : Int) + (x : Int) := by unfold t_misr; rw [if_neg hm, ex]
        rw [e1, if_pos (by rw [er]; omega), er, if_neg (fun y => absurd y.1 (by show ¬ (1 : Int) = 0; omega))]
        unfold m_e
        rw [if_pos (Or.inl (by show (1 : Int) ≠ 0; omega))]
        try dsimp only
        omega
def m_good (T : Nat → Int) (l : Nat) (O : Nat → Int) (M : Nat) : Nat → Nat → Nat → Prop
  | 0, s, k => k = M ∧ l ≤ s
  | n + 1, s, k => (k = M ∧ l ≤ s) ∨ (k < M ∧ s < l ∧ t_dd T l (s : Int) ≠ 0 ∧ O (5 * k) = gD1 (t_dd T l (s : Int)) ∧ (∀ i, i < 4 → O (5 * k + (i + 1)) = rdN T l (s : Int) i) ∧ m_good T l O M n (s + (gDb (t_dd T l (s : Int))).length + 1) (k + 1))
theorem m_prs_good {T : Nat → Int} {l : Nat} : ∀ (n s m : Nat) (O : Nat → Int), s ≤ l → (m_prs T l n s m O).1.2 = 0 → l ≤ (m_prs T l n s m O).1.1 → m_good T l (m_prs T l n s m O).2.2 (m_prs T l n s m O).2.1 n s m ∧ (∀ c, c < 5 * m → (m_prs T l n s m O).2.2 c = O c) ∧ m < (m_prs T l n s m O).2.1
  | 0, s, m, O, hs, h1, h2 => absurd h1 (by show ¬ (1 : Int) = 0; omega)
  | n + 1, s, m, O, hs, h1, h2 => by
    have hsp := t_dd_spec T l (s : Int)
    rw [m_prs_1] at h1 h2 ⊢
    by_cases h0 : t_dd T l (s : Int) = 0
    · rw [m_ro_0 h0, if_neg (fun y => absurd y.1 (by show ¬ (1 : Int) = 0; omega))] at h1
      exact absurd h1 (by show ¬ (1 : Int) = 0; omega)
    · have hi := hsp.2.1 h0
      have hd1 : 1 ≤ t_dd T l (s : Int) := by omega
      have hsl : s < l := by have := hi.1; omega
      by_cases hm : t_mis T l (s : Int) (t_dd T l (s : Int)) = -1
      · obtain ⟨e1, e2, e3⟩ := m_fin_ok hsp.1 hd1 hm
        rw [m_ro_1 h0, e1] at h1 h2 ⊢
        try dsimp only at h1 h2 ⊢
        have hent : ∀ O2 : Nat → Int, (∀ c, c < 5 * (m + 1) → O2 c = m_O T l s (t_dd T l (s : Int)) m O c) → O2 (5 * m) = gD1 (t_dd T l (s : Int)) ∧ (∀ i, i < 4 → O2 (5 * m + (i + 1)) = rdN T l (s : Int) i) ∧ ∀ c, c < 5 * m → O2 c = O c := fun O2 hO => by
          refine ⟨?_, fun i hi4 => ?_, fun c hc => ?_⟩
          · rw [hO _ (by omega)]
            unfold m_O
            rw [if_neg (by omega), if_neg (by omega), if_neg (by omega), if_neg (by omega), if_pos rfl]
          · rw [hO _ (by omega)]
            have e4 := e3 i hi4
            unfold rdN
            rw [← e4]
            unfold m_O
            obtain rfl | rfl | rfl | rfl : i = 0 ∨ i = 1 ∨ i = 2 ∨ i = 3 := by omega
            · rw [if_neg (by omega), if_neg (by omega), if_neg (by omega), if_pos (by omega)]
            · rw [if_neg (by omega), if_neg (by omega), if_pos (by omega)]
            · rw [if_neg (by omega), if_pos (by omega)]
            · rw [if_pos (by omega)]
          · rw [hO _ (by omega)]
            unfold m_O
            rw [if_neg (by omega), if_neg (by omega), if_neg (by omega), if_neg (by omega), if_neg (by omega)]
        by_cases h59 : t_is T l ((s + (gDb (t_dd T l (s : Int))).length : Nat) : Int) 59
        · rw [if_pos ⟨rfl, h59⟩] at h1 h2 ⊢
          have ih := m_prs_good (T := T) (l := l) n (s + (gDb (t_dd T l (s : Int))).length + 1) (m + 1) (m_O T l s (t_dd T l (s : Int)) m O) (by have := h59.1; omega) h1 h2
          have he := hent _ ih.2.1
          exact ⟨Or.inr ⟨by have := ih.2.2; omega, hsl, h0, he.1, he.2.1, ih.1⟩, he.2.2, by have := ih.2.2; omega⟩
        · rw [if_neg (fun y => h59 y.2)] at h1 h2 ⊢
          have he := hent (m_O T l s (t_dd T l (s : Int)) m O) (fun c _ => rfl)
          refine ⟨Or.inr ⟨by show m < m + 1; omega, hsl, h0, he.1, he.2.1, ?_⟩, he.2.2, by show m < m + 1; omega⟩
          have h3 : l ≤ s + (gDb (t_dd T l (s : Int))).length + 1 := by
            have : l ≤ s + (gDb (t_dd T l (s : Int))).length := h2
            omega
          cases n with
          | zero => exact ⟨rfl, h3⟩
          | succ n => exact Or.inl ⟨rfl, h3⟩
      · obtain ⟨x, ex, e1, _⟩ := m_fin_bad hsp.1 hd1 hi hm
        rw [m_ro_1 h0, e1, if_neg (fun y => absurd y.1 (by show ¬ (1 : Int) = 0; omega))] at h1
        exact absurd h1 (by show ¬ (1 : Int) = 0; omega)
theorem m_good_M {T : Nat → Int} {l : Nat} {O : Nat → Int} {M : Nat} : ∀ (n s k : Nat), m_good T l O M n s k → 2 * M ≤ l + 2 * k - s + 2 ∨ M = k
  | 0, s, k, h => Or.inr h.1.symm
  | n + 1, s, k, h => by
    rcases h with h | ⟨h1, h2, h3, _, _, h4⟩
    · exact Or.inr h.1.symm
    · have hsp := t_dd_spec T l (s : Int)
      have hp := gDb_pos _ hsp.1 (by omega)
      have ih := m_good_M n _ _ h4
      rcases ih with ih | ih
      · left; omega
      · left; omega
