/-! ===== ScrollChecks$Input ===== -/
def gIn (σ : gS) (T : Nat → Int) (l : Nat) : Prop := σ.1 10 0 1 = (l : Int) ∧ l ≤ 60 ∧ ∀ j, j < 60 → σ.1 11 0 j = T j ∧ 0 ≤ T j ∧ T j < 65536
def t_at (T : Nat → Int) (l : Nat) (i : Int) : Int := if 0 ≤ i ∧ i < (l : Int) then T i.toNat else 0
theorem t_at_bd {σ : gS} {T : Nat → Int} {l : Nat} (h : gIn σ T l) (i : Int) : 0 ≤ t_at T l i ∧ t_at T l i < 65536 := by
  unfold t_at
  split
  · exact (h.2.2 i.toNat (by have := h.2.1; omega)).2
  · omega
abbrev t_is (T : Nat → Int) (l : Nat) (i c : Int) : Prop := i < (l : Int) ∧ t_at T l i = c
abbrev t_dg (T : Nat → Int) (l : Nat) (i : Int) : Prop := 48 ≤ t_at T l i ∧ t_at T l i ≤ 57
/-- the first letter of a deed's text -/
def gD1 (d : Nat) : Int := (gDb d).getD 0 0
theorem gD1_ne : ∀ d, d < 8 → ∀ k, k < 8 → 1 ≤ d → 1 ≤ k → gD1 d = gD1 k → d = k := by decide
theorem gDb_bd : ∀ d, d < 8 → ∀ j, j < (gDb d).length → 33 ≤ (gDb d).getD j 0 ∧ (gDb d).getD j 0 < 128 := by decide
theorem gDb_pos : ∀ d, d < 8 → 1 ≤ d → 2 ≤ (gDb d).length := by decide
/-- whether a place of the text fits a letter of a form -/
abbrev t_fit (T : Nat → Int) (l : Nat) (s : Int) (d k : Nat) : Prop := if (gDb d).getD k 0 = 35 then t_dg T l (s + k) else t_is T l (s + k) ((gDb d).getD k 0)
def t_mis (T : Nat → Int) (l : Nat) (s : Int) (d : Nat) : Int := gFst (fun k => decide (¬ t_fit T l s d k)) 0 (gDb d).length
def t_misr (T : Nat → Int) (l : Nat) (s : Int) (d : Nat) : Int := if t_mis T l s d = -1 then -1 else s + t_mis T l s d
/-- the deed that begins at a place, or 0 -/
def t_dd (T : Nat → Int) (l : Nat) (s : Int) : Nat := ((List.range 8).filter (fun d => decide (1 ≤ d ∧ t_is T l s (gD1 d)))).headD 0
theorem t_dd_yes {T : Nat → Int} {l : Nat} {s : Int} {d : Nat} (hd : d < 8) (h1 : 1 ≤ d) (h : t_is T l s (gD1 d)) : t_dd T l s = d := by
  have e : (List.range 8).filter (fun k => decide (1 ≤ k ∧ t_is T l s (gD1 k))) = (List.range 8).filter (fun k => decide (k = d)) := by
    apply List.filter_congr
    intro k hk
    have hk8 := List.mem_range.mp hk
    by_cases q : k = d
    · subst q
      simp [h1, h]
    · have : ¬ (1 ≤ k ∧ t_is T l s (gD1 k)) := fun y => q (gD1_ne k hk8 d hd y.1 h1 (y.2.2.symm.trans h.2))
      simp only [this, q]
  have key : ∀ d, d < 8 → ((List.range 8).filter (fun k => decide (k = d))).headD 0 = d := by decide
  unfold t_dd
  rw [e]
  exact key d hd
theorem t_dd_no {T : Nat → Int} {l : Nat} {s : Int} (h : ∀ d, d < 8 → 1 ≤ d → ¬ t_is T l s (gD1 d)) : t_dd T l s = 0 := by
  have e : (List.range 8).filter (fun k => decide (1 ≤ k ∧ t_is T l s (gD1 k))) = [] := by
    rw [List.filter_eq_nil_iff]
    intro k hk
    have hk8 := List.mem_range.mp hk
    have : ¬ (1 ≤ k ∧ t_is T l s (gD1 k)) := fun y => h k hk8 y.1 y.2
    simp only [this]
    simp
  unfold t_dd
  rw [e]
  rfl
theorem t_dd_spec (T : Nat → Int) (l : Nat) (s : Int) : t_dd T l s < 8 ∧ (t_dd T l s ≠ 0 → t_is T l s (gD1 (t_dd T l s))) ∧ (t_dd T l s = 0 → ∀ d, d < 8 → 1 ≤ d → ¬ t_is T l s (gD1 d)) := by
  by_cases h : ∃ d, d < 8 ∧ 1 ≤ d ∧ t_is T l s (gD1 d)
  · obtain ⟨d, h1, h2, h3⟩ := h
    rw [t_dd_yes h1 h2 h3]
    exact ⟨h1, fun _ => h3, fun q => by omega⟩
  · rw [t_dd_no (fun d h1 h2 h3 => h ⟨d, h1, h2, h3⟩)]
    exact ⟨by omega, fun q => absurd rfl q, fun _ d h1 h2 h3 => h ⟨d, h1, h2, h3⟩⟩
def t_num (T : Nat → Int) (l : Nat) (s : Int) (d : Nat) (k : Nat) : Int := if 2 * k + 1 < (gDb d).length ∧ t_dg T l (s + (2 * (k : Int) + 1)) then t_at T l (s + (2 * (k : Int) + 1)) - 48 else 0
def t_nx (T : Nat → Int) (l : Nat) (s : Int) : Int := if t_dd T l s = 0 then (l : Int) else s + ((gDb (t_dd T l s)).length : Int) + 1
/-- the place of the first error, -1 without one -/
def t_err (T : Nat → Int) (l : Nat) : Nat → Int → Int
  | 0, s => s
  | n + 1, s => if (l : Int) ≤ s then s else if t_dd T l s = 0 then s else if t_misr T l s (t_dd T l s) ≠ -1 then t_misr T l s (t_dd T l s)
    else if s + ((gDb (t_dd T l s)).length : Int) = (l : Int) then -1 else if ¬ t_is T l (s + ((gDb (t_dd T l s)).length : Int)) 59 then s + ((gDb (t_dd T l s)).length : Int) else t_err T l n (s + ((gDb (t_dd T l s)).length : Int) + 1)
theorem c3_isFull {E : gE} {σ : gS} (T : Nat → Int) (l : Nat) (h : gIn σ T l) : gCt E mX3_isFull 1 0 [rf 10 0] σ (.inl (some (iv (gB1 (l = 60))))) σ := by
  refine gCt_of (L := [some (rf 10 0)]) (by decide +kernel) rfl rfl (Nat.le_of_ble_eq_true rfl) (fun X K hE => ?_)
  have hN := K.2.2.2.2.1
  have ⟨g1, g2, g3⟩ := h
  refine x_aload_0 K dX3_isFull_0 ?_
  refine x_getI K gfRX3_15 ⟨by decide, by decide⟩ dX3_isFull_1 ?_
  refine x_aload_0 K dX3_isFull_4 ?_
  refine x_getC K gfRX3_9 ⟨by decide, by decide⟩ dX3_isFull_5 ?_
  refine x_alen K rfl ⟨by decide, by decide⟩ dX3_isFull_8 ?_
  refine x_icmp_lt (tgt := 16) K (by omega) dX3_isFull_9 (by decide) (fun h9 => ?_) (fun h9 => ?_)
  · refine x_iconst K dX3_isFull_16 ?_
    exact x_zret K hE rfl dX3_isFull_17 (by decide) (by decide) (by omega) (by unfold gB1; split <;> omega) rfl
  · refine x_iconst K dX3_isFull_12 ?_
    refine x_goto (tgt := 17) K dX3_isFull_13 (by decide) ?_
    exact x_zret K hE rfl dX3_isFull_17 (by decide) (by decide) (by omega) (by unfold gB1; split <;> omega) rfl
theorem c3_add {E : gE} {σ : gS} (T : Nat → Int) (l : Nat) (h : gIn σ T l) (hl : l < 60) (c : Int) (hc : 0 ≤ c ∧ c < 65536) : gCt E mX3_add 1 0 [rf 10 0, iv c] σ (.inl none) (gU (gU σ 11 0 l c) 10 0 1 ((l : Int) + 1)) := by
  refine gCt_of (L := [some (rf 10 0), some (iv c)]) (by decide +kernel) rfl rfl (Nat.le_of_ble_eq_true rfl) (fun X K hE => ?_)
  have hN := K.2.2.2.2.1
  have ⟨g1, g2, g3⟩ := h
  refine x_aload_0 K dX3_add_0 ?_
  refine x_getI K gfRX3_15 ⟨by decide, by decide⟩ dX3_add_1 ?_
  refine x_if_lt (tgt := 39) K (by omega) dX3_add_4 (by decide) (fun h4 => absurd h4 (by omega)) (fun h4 => ?_)
  refine x_aload_0 K dX3_add_7 ?_
  refine x_getI K gfRX3_15 ⟨by decide, by decide⟩ dX3_add_8 ?_
  refine x_aload_0 K dX3_add_11 ?_
  refine x_getC K gfRX3_9 ⟨by decide, by decide⟩ dX3_add_12 ?_
  refine x_alen K rfl ⟨by decide, by decide⟩ dX3_add_15 ?_
  refine x_icmp_ge (tgt := 39) K (by omega) dX3_add_16 (by decide) (fun h16 => absurd h16 (by omega)) (fun h16 => ?_)
  refine x_aload_0 K dX3_add_19 ?_
  refine x_getC K gfRX3_9 ⟨by decide, by decide⟩ dX3_add_20 ?_
  refine x_aload_0 K dX3_add_23 ?_
  refine x_getI K gfRX3_15 ⟨by decide, by decide⟩ dX3_add_24 ?_
  refine gWX.top (b := (l : Int)) g1 ?_
  refine x_iload_1 K dX3_add_27 ?_
  refine x_cast K l rfl rfl ⟨by decide, by decide⟩ (by omega) (by omega) dX3_add_28 ?_
  refine x_aload_0 K dX3_add_29 ?_
  refine x_dup K dX3_add_30 rfl ?_
  refine x_getI K gfRX3_15 ⟨by decide, by decide⟩ dX3_add_31 ?_
  refine gWX.top (b := (l : Int)) (by rw [gU_at, if_neg (by omega)]; exact g1) ?_
  refine x_iconst K dX3_add_34 ?_
  refine x_iadd K dX3_add_35 ?_
  refine x_putI K gpRX3_15 ⟨by decide, by decide⟩ dX3_add_36 ?_
  exact x_vret K hE rfl dX3_add_39 (by decide) (by decide) rfl
theorem c3_empty {E : gE} {σ : gS}  : gCt E mX3_empty 1 0 [rf 10 0] σ (.inl none) (gU σ 10 0 1 0) := by
  refine gCt_of (L := [some (rf 10 0)]) (by decide +kernel) rfl rfl (Nat.le_of_ble_eq_true rfl) (fun X K hE => ?_)
  refine x_aload_0 K dX3_empty_0 ?_
  refine x_iconst K dX3_empty_1 ?_
  refine x_putI K gpRX3_15 ⟨by decide, by decide⟩ dX3_empty_2 ?_
  exact x_vret K hE rfl dX3_empty_5 (by decide) (by decide) rfl
theorem c3_at {E : gE} {σ : gS} (T : Nat → Int) (l : Nat) (h : gIn σ T l) (s : Int) (hs : -10000 ≤ s ∧ s ≤ 10000) : gCt E mX3_at 1 0 [rf 10 0, iv s] σ (.inl (some (iv (t_at T l s)))) σ := by
  refine gCt_of (L := [some (rf 10 0), some (iv s)]) (by decide +kernel) rfl rfl (Nat.le_of_ble_eq_true rfl) (fun X K hE => ?_)
  have hN := K.2.2.2.2.1
  have ⟨g1, g2, g3⟩ := h
  have hb := t_at_bd h s
  refine x_iload_1 K dX3_at_0 ?_
  refine x_if_lt (tgt := 30) K (by omega) dX3_at_1 (by decide) (fun h1 => ?_) (fun h1 => ?_)
  · have hv : t_at T l s = 0 := if_neg (by omega)
    refine x_iconst K dX3_at_30 ?_
    exact x_cret K hE rfl dX3_at_31 (by decide) (by decide) (by omega) (by omega) rfl
  · refine x_iload_1 K dX3_at_4 ?_
    refine x_aload_0 K dX3_at_5 ?_
    refine x_getI K gfRX3_15 ⟨by decide, by decide⟩ dX3_at_6 ?_
    refine x_icmp_ge (tgt := 30) K (by omega) dX3_at_9 (by decide) (fun h9 => ?_) (fun h9 => ?_)
    · have hv : t_at T l s = 0 := if_neg (by omega)
      refine x_iconst K dX3_at_30 ?_
      exact x_cret K hE rfl dX3_at_31 (by decide) (by decide) (by omega) (by omega) rfl
    · have hin : 0 ≤ s ∧ s < (l : Int) := ⟨by omega, by omega⟩
      have hv : t_at T l s = T s.toNat := if_pos hin
      have hg := g3 s.toNat (by omega)
      refine x_iload_1 K dX3_at_12 ?_
      refine x_aload_0 K dX3_at_13 ?_
      refine x_getC K gfRX3_9 ⟨by decide, by decide⟩ dX3_at_14 ?_
      refine x_alen K rfl ⟨by decide, by decide⟩ dX3_at_17 ?_
      refine x_icmp_ge (tgt := 30) K (by omega) dX3_at_18 (by decide) (fun h18 => absurd h18 (by omega)) (fun h18 => ?_)
      refine x_aload_0 K dX3_at_21 ?_
      refine x_getC K gfRX3_9 ⟨by decide, by decide⟩ dX3_at_22 ?_
      refine x_iload_1 K dX3_at_25 ?_
      refine x_cald K s.toNat (by omega) rfl ⟨by decide, by decide⟩ (by omega) dX3_at_26 ?_
      refine x_goto (tgt := 31) K dX3_at_27 (by decide) ?_
      exact x_cret K hE rfl dX3_at_31 (by decide) (by decide) (by omega) (by omega) rfl
theorem c3_isAt {E : gE} {σ : gS} (T : Nat → Int) (l : Nat) (h : gIn σ T l) (s : Int) (hs : 0 ≤ s ∧ s ≤ 10000) (c : Int) (hc : 0 ≤ c ∧ c < 65536) : gCt E mX3_isAt 2 0 [rf 10 0, iv s, iv c] σ (.inl (some (iv (gB1 (t_is T l s c))))) σ := by
  refine gCt_of (L := [some (rf 10 0), some (iv s), some (iv c)]) (by decide +kernel) rfl rfl (Nat.le_of_ble_eq_true rfl) (fun X K hE => ?_)
  have hN := K.2.2.2.2.1
  have ⟨g1, g2, g3⟩ := h
  have hb := t_at_bd h s
  refine x_iload_1 K dX3_isAt_0 ?_
  refine x_aload_0 K dX3_isAt_1 ?_
  refine x_getI K gfRX3_15 ⟨by decide, by decide⟩ dX3_isAt_2 ?_
  refine x_icmp_ge (tgt := 21) K (by omega) dX3_isAt_5 (by decide) (fun h5 => ?_) (fun h5 => ?_)
  · have hv : ¬ t_is T l s c := fun q => by have := q.1; omega
    refine x_iconst K dX3_isAt_21 ?_
    exact x_zret K hE rfl dX3_isAt_22 (by decide) (by decide) (by omega) (by first | exact (gB1_t hv).symm | exact (gB1_f hv).symm) rfl
  · refine x_aload_0 K dX3_isAt_8 ?_
    refine x_iload_1 K dX3_isAt_9 ?_
    refine x_callV1 K (c3_at T l h s (by omega)) mtX3_at miX3_at rc10 ⟨by decide, by decide⟩ lkRX3_58 ⟨by decide, by decide, by decide⟩ rfl (Nat.le_of_ble_eq_true rfl) dX3_isAt_10 ?_
    refine x_iload_2 K dX3_isAt_13 ?_
    refine x_icmp_ne (tgt := 21) K (by omega) dX3_isAt_14 (by decide) (fun h14 => ?_) (fun h14 => ?_)
    · have hv : ¬ t_is T l s c := fun q => h14 q.2
      refine x_iconst K dX3_isAt_21 ?_
      exact x_zret K hE rfl dX3_isAt_22 (by decide) (by decide) (by omega) (by first | exact (gB1_t hv).symm | exact (gB1_f hv).symm) rfl
    · have hv : t_is T l s c := ⟨by omega, h14⟩
      refine x_iconst K dX3_isAt_17 ?_
      refine x_goto (tgt := 22) K dX3_isAt_18 (by decide) ?_
      exact x_zret K hE rfl dX3_isAt_22 (by decide) (by decide) (by omega) (by first | exact (gB1_t hv).symm | exact (gB1_f hv).symm) rfl
theorem c3_isDigitAt {E : gE} {σ : gS} (T : Nat → Int) (l : Nat) (h : gIn σ T l) (s : Int) (hs : 0 ≤ s ∧ s ≤ 10000) : gCt E mX3_isDigitAt 2 0 [rf 10 0, iv s] σ (.inl (some (iv (gB1 (t_dg T l s))))) σ := by
  refine gCt_of (L := [some (rf 10 0), some (iv s)]) (by decide +kernel) rfl rfl (Nat.le_of_ble_eq_true rfl) (fun X K hE => ?_)
  have hN := K.2.2.2.2.1
  have ⟨g1, g2, g3⟩ := h
  have hb := t_at_bd h s
  refine x_aload_0 K dX3_isDigitAt_0 ?_
  refine x_iload_1 K dX3_isDigitAt_1 ?_
  refine x_callV1 K (c3_at T l h s (by omega)) mtX3_at miX3_at rc10 ⟨by decide, by decide⟩ lkRX3_58 ⟨by decide, by decide, by decide⟩ rfl (Nat.le_of_ble_eq_true rfl) dX3_isDigitAt_2 ?_
  refine x_bipush K dX3_isDigitAt_5 rfl ?_
  refine x_icmp_lt (tgt := 24) K (by omega) dX3_isDigitAt_7 (by decide) (fun h7 => ?_) (fun h7 => ?_)
  · refine x_iconst K dX3_isDigitAt_24 ?_
    exact x_zret K hE rfl dX3_isDigitAt_25 (by decide) (by decide) (by omega) (by unfold gB1; split <;> omega) rfl
  · refine x_aload_0 K dX3_isDigitAt_10 ?_
    refine x_iload_1 K dX3_isDigitAt_11 ?_
    refine x_callV1 K (c3_at T l h s (by omega)) mtX3_at miX3_at rc10 ⟨by decide, by decide⟩ lkRX3_58 ⟨by decide, by decide, by decide⟩ rfl (Nat.le_of_ble_eq_true rfl) dX3_isDigitAt_12 ?_
    refine x_bipush K dX3_isDigitAt_15 rfl ?_
    refine x_icmp_gt (tgt := 24) K (by omega) dX3_isDigitAt_17 (by decide) (fun h17 => ?_) (fun h17 => ?_)
    · refine x_iconst K dX3_isDigitAt_24 ?_
      exact x_zret K hE rfl dX3_isDigitAt_25 (by decide) (by decide) (by omega) (by unfold gB1; split <;> omega) rfl
    · refine x_iconst K dX3_isDigitAt_20 ?_
      refine x_goto (tgt := 25) K dX3_isDigitAt_21 (by decide) ?_
      exact x_zret K hE rfl dX3_isDigitAt_25 (by decide) (by decide) (by omega) (by unfold gB1; split <;> omega) rfl
theorem gStr_O {E : gE} {a n : Nat} {b : Nat → Int} (h : gStr E a n b) : gO' E "java/lang/String" a := h.choose_spec.2.2.2
set_option maxHeartbeats 2000000 in
theorem c3_deedAt {E : gE} {σ : gS} (T : Nat → Int) (l : Nat) (h : gIn σ T l) (s : Int) (hs : 0 ≤ s ∧ s ≤ 10000) (d : Nat) (hd0 : d ≠ 0) (hd : t_dd T l s = d) : gCt E mX3_deedAt 5 0 [rf 10 0, iv s] σ (.inl (some (gDv E d))) σ := by
  refine gCt_of (L := [some (rf 10 0), some (iv s), none, none, none, none]) (by decide +kernel) rfl rfl (Nat.le_of_ble_eq_true rfl) (fun X K hE => ?_)
  have hN := K.2.2.2.2.1
  have ⟨g1, g2, g3⟩ := h
  have hsp := t_dd_spec T l s
  rw [hd] at hsp
  refine x_getsN K (g_mem 1357 (by decide +kernel)) (g_mem 1 (by decide +kernel)) (gNw_w (w := Cond.fieldLinkNest RX3 50 "ScrollChecks" "DEEDS" "[LScrollChecks$Deed;" "ScrollChecks") (g_mem 1356 (by decide +kernel)) rfl) (gDs_T hN).1 dX3_deedAt_0 ?_
  refine x_astorec_2 K dX3_deedAt_3 rfl ?_
  refine x_aloadc_2 K dX3_deedAt_4 ?_
  refine x_alenK K (gDs_T hN).2 dX3_deedAt_5 ?_
  refine x_istore_3 K dX3_deedAt_6 rfl ?_
  refine x_iconst K dX3_deedAt_7 ?_
  refine x_istore_4 K dX3_deedAt_8 rfl ?_
  refine gLp (P := fun k : Nat => gWX X E 0 0 10 [some (rf 10 0), some (iv s), some (.inl (.ref (gTa E gDst))), some (iv 8), some (iv (k : Int)), none] [] (σ)) (d) (fun k0 => ?_) (fun k hk ih => ?_) ?_
  · exact gWX.to rfl rfl (k0)
  · refine x_iload_4 K dX3_deedAt_10 ?_
    refine x_iload_3 K dX3_deedAt_12 ?_
    refine x_icmp_ge (tgt := 59) K (by omega) dX3_deedAt_13 (by decide) (fun h13 => absurd h13 (by omega)) (fun h13 => ?_)
    refine x_aloadc_2 K dX3_deedAt_16 ?_
    refine x_iload_4 K dX3_deedAt_17 ?_
    refine x_aaldK K (gDs_T hN).2 k rfl (by omega) (by omega) dX3_deedAt_19 ?_
    refine x_astorec_5 K dX3_deedAt_20 rfl ?_
    refine x_aloadc_5 K dX3_deedAt_22 ?_
    refine x_getKN K (gD_form hN (by omega)).1 (gNw_w (w := Cond.fieldLinkNest RX3 23 "ScrollChecks$Deed" "form" "Ljava/lang/String;" "ScrollChecks") (g_mem 1433 (by decide +kernel)) rfl) dX3_deedAt_24 ?_
    refine x_callK0 K (cJ0_isEmpty (gDfa E k) (gDb k).length (fun j => (gDb k).getD j 0) (gD_form hN (by omega)).2 (gDb_len k (by omega)) (fun j hj => by have := gDb_bd k (by omega) j hj; omega)) mtJ0_isEmpty_aae02 miJ0_isEmpty_aae02 (gStr_O (gD_form hN (by omega)).2) lkRX3_54 ⟨by decide, by decide, by decide⟩ rfl (Nat.le_of_ble_eq_true rfl) dX3_deedAt_27 ?_
    have be := gB1_bd ((gDb k).length = 0)
    refine x_if_ne (tgt := 53) K (by omega) dX3_deedAt_30 (by decide) (fun h30 => ?_) (fun h30 => ?_)
    · refine x_iinc_4 K dX3_deedAt_53 rfl ?_
      refine x_goto (tgt := 10) K dX3_deedAt_56 (by decide) ?_
      exact gWX.fgt 5 (gWX.to rfl rfl ih)
    · have hk1 : 1 ≤ k := by
        apply Classical.byContradiction
        intro q
        have q2 : k = 0 := by omega
        subst q2
        exact absurd h30 (by decide)
      refine x_aload_0 K dX3_deedAt_33 ?_
      refine x_iload_1 K dX3_deedAt_34 ?_
      refine x_aloadc_5 K dX3_deedAt_35 ?_
      refine x_getKN K (gD_form hN (by omega)).1 (gNw_w (w := Cond.fieldLinkNest RX3 23 "ScrollChecks$Deed" "form" "Ljava/lang/String;" "ScrollChecks") (g_mem 1433 (by decide +kernel)) rfl) dX3_deedAt_37 ?_
      refine x_iconst K dX3_deedAt_40 ?_
      refine x_callK1 K (cJ0_charAt (gDfa E k) (gDb k).length (fun j => (gDb k).getD j 0) (gD_form hN (by omega)).2 (gDb_len k (by omega)) (fun j hj => by have := gDb_bd k (by omega) j hj; omega) 0 (by have := gDb_pos k (by omega) (by omega); omega)) mtJ0_charAt_5068e miJ0_charAt_5068e (gStr_O (gD_form hN (by omega)).2) lkRX3_42 ⟨by decide, by decide, by decide⟩ rfl (Nat.le_of_ble_eq_true rfl) dX3_deedAt_41 ?_
      refine gWX.top (b := gD1 k) rfl ?_
      refine x_callV2 K (c3_isAt T l h s hs (gD1 k) (by have := gDb_bd k (by omega) 0 (by have := gDb_pos k (by omega) (by omega); omega); unfold gD1; omega)) mtX3_isAt miX3_isAt rc10 ⟨by decide, by decide⟩ lkRX3_38 ⟨by decide, by decide, by decide⟩ rfl (Nat.le_of_ble_eq_true rfl) dX3_deedAt_44 ?_
      have bi := gB1_bd (t_is T l s (gD1 k))
      refine x_if_eq (tgt := 53) K (by omega) dX3_deedAt_47 (by decide) (fun h47 => ?_) (fun h47 => absurd (gB1_f (fun q => by
    have e := t_dd_yes (T := T) (l := l) (s := s) (d := k) (by omega) hk1 q
    omega)) h47)
      refine x_iinc_4 K dX3_deedAt_53 rfl ?_
      refine x_goto (tgt := 10) K dX3_deedAt_56 (by decide) ?_
      exact gWX.fgt 5 (gWX.to rfl rfl ih)
  · refine x_iload_4 K dX3_deedAt_10 ?_
    refine x_iload_3 K dX3_deedAt_12 ?_
    refine x_icmp_ge (tgt := 59) K (by omega) dX3_deedAt_13 (by decide) (fun h13 => absurd h13 (by omega)) (fun h13 => ?_)
    refine x_aloadc_2 K dX3_deedAt_16 ?_
    refine x_iload_4 K dX3_deedAt_17 ?_
    refine x_aaldK K (gDs_T hN).2 d rfl (by omega) (by omega) dX3_deedAt_19 ?_
    refine x_astorec_5 K dX3_deedAt_20 rfl ?_
    refine x_aloadc_5 K dX3_deedAt_22 ?_
    refine x_getKN K (gD_form hN hsp.1).1 (gNw_w (w := Cond.fieldLinkNest RX3 23 "ScrollChecks$Deed" "form" "Ljava/lang/String;" "ScrollChecks") (g_mem 1433 (by decide +kernel)) rfl) dX3_deedAt_24 ?_
    refine x_callK0 K (cJ0_isEmpty (gDfa E d) (gDb d).length (fun j => (gDb d).getD j 0) (gD_form hN hsp.1).2 (gDb_len d hsp.1) (fun j hj => by have := gDb_bd d hsp.1 j hj; omega)) mtJ0_isEmpty_aae02 miJ0_isEmpty_aae02 (gStr_O (gD_form hN hsp.1).2) lkRX3_54 ⟨by decide, by decide, by decide⟩ rfl (Nat.le_of_ble_eq_true rfl) dX3_deedAt_27 ?_
    have be := gB1_bd ((gDb d).length = 0)
    refine x_if_ne (tgt := 53) K (by omega) dX3_deedAt_30 (by decide) (fun h30 => absurd (gB1_f (by have := gDb_pos d hsp.1 (by omega); omega)) h30) (fun h30 => ?_)
    refine x_aload_0 K dX3_deedAt_33 ?_
    refine x_iload_1 K dX3_deedAt_34 ?_
    refine x_aloadc_5 K dX3_deedAt_35 ?_
    refine x_getKN K (gD_form hN hsp.1).1 (gNw_w (w := Cond.fieldLinkNest RX3 23 "ScrollChecks$Deed" "form" "Ljava/lang/String;" "ScrollChecks") (g_mem 1433 (by decide +kernel)) rfl) dX3_deedAt_37 ?_
    refine x_iconst K dX3_deedAt_40 ?_
    refine x_callK1 K (cJ0_charAt (gDfa E d) (gDb d).length (fun j => (gDb d).getD j 0) (gD_form hN hsp.1).2 (gDb_len d hsp.1) (fun j hj => by have := gDb_bd d hsp.1 j hj; omega) 0 (by have := gDb_pos d hsp.1 (by omega); omega)) mtJ0_charAt_5068e miJ0_charAt_5068e (gStr_O (gD_form hN hsp.1).2) lkRX3_42 ⟨by decide, by decide, by decide⟩ rfl (Nat.le_of_ble_eq_true rfl) dX3_deedAt_41 ?_
    refine gWX.top (b := gD1 d) rfl ?_
    refine x_callV2 K (c3_isAt T l h s hs (gD1 d) (by have := gDb_bd d hsp.1 0 (by have := gDb_pos d hsp.1 (by omega); omega); unfold gD1; omega)) mtX3_isAt miX3_isAt rc10 ⟨by decide, by decide⟩ lkRX3_38 ⟨by decide, by decide, by decide⟩ rfl (Nat.le_of_ble_eq_true rfl) dX3_deedAt_44 ?_
    have bi := gB1_bd (t_is T l s (gD1 d))
    refine x_if_eq (tgt := 53) K (by omega) dX3_deedAt_47 (by decide) (fun h47 => absurd (gB1_t (hsp.2.1 hd0)) (by omega)) (fun h47 => ?_)
    refine x_aloadc_5 K dX3_deedAt_50 ?_
    exact x_aretc K hE rfl dX3_deedAt_52 (by decide) (by decide) rfl
set_option maxHeartbeats 2000000 in
theorem c3_deedAtN {E : gE} {σ : gS} (T : Nat → Int) (l : Nat) (h : gIn σ T l) (s : Int) (hs : 0 ≤ s ∧ s ≤ 10000) (hd : t_dd T l s = 0) : gCt E mX3_deedAt 5 0 [rf 10 0, iv s] σ (.inl (some (.inl .null))) σ := by
  refine gCt_of (L := [some (rf 10 0), some (iv s), none, none, none, none]) (by decide +kernel) rfl rfl (Nat.le_of_ble_eq_true rfl) (fun X K hE => ?_)
  have hN := K.2.2.2.2.1
  have ⟨g1, g2, g3⟩ := h
  have hsp := (t_dd_spec T l s).2.2 hd
  refine x_getsN K (g_mem 1357 (by decide +kernel)) (g_mem 1 (by decide +kernel)) (gNw_w (w := Cond.fieldLinkNest RX3 50 "ScrollChecks" "DEEDS" "[LScrollChecks$Deed;" "ScrollChecks") (g_mem 1356 (by decide +kernel)) rfl) (gDs_T hN).1 dX3_deedAt_0 ?_
  refine x_astorec_2 K dX3_deedAt_3 rfl ?_
  refine x_aloadc_2 K dX3_deedAt_4 ?_
  refine x_alenK K (gDs_T hN).2 dX3_deedAt_5 ?_
  refine x_istore_3 K dX3_deedAt_6 rfl ?_
  refine x_iconst K dX3_deedAt_7 ?_
  refine x_istore_4 K dX3_deedAt_8 rfl ?_
  refine gLp (P := fun k : Nat => gWX X E 0 0 10 [some (rf 10 0), some (iv s), some (.inl (.ref (gTa E gDst))), some (iv 8), some (iv (k : Int)), none] [] (σ)) (8) (fun k0 => ?_) (fun k hk ih => ?_) ?_
  · exact gWX.to rfl rfl (k0)
  · refine x_iload_4 K dX3_deedAt_10 ?_
    refine x_iload_3 K dX3_deedAt_12 ?_
    refine x_icmp_ge (tgt := 59) K (by omega) dX3_deedAt_13 (by decide) (fun h13 => absurd h13 (by omega)) (fun h13 => ?_)
    refine x_aloadc_2 K dX3_deedAt_16 ?_
    refine x_iload_4 K dX3_deedAt_17 ?_
    refine x_aaldK K (gDs_T hN).2 k rfl (by omega) (by omega) dX3_deedAt_19 ?_
    refine x_astorec_5 K dX3_deedAt_20 rfl ?_
    refine x_aloadc_5 K dX3_deedAt_22 ?_
    refine x_getKN K (gD_form hN (by omega)).1 (gNw_w (w := Cond.fieldLinkNest RX3 23 "ScrollChecks$Deed" "form" "Ljava/lang/String;" "ScrollChecks") (g_mem 1433 (by decide +kernel)) rfl) dX3_deedAt_24 ?_
    refine x_callK0 K (cJ0_isEmpty (gDfa E k) (gDb k).length (fun j => (gDb k).getD j 0) (gD_form hN (by omega)).2 (gDb_len k (by omega)) (fun j hj => by have := gDb_bd k (by omega) j hj; omega)) mtJ0_isEmpty_aae02 miJ0_isEmpty_aae02 (gStr_O (gD_form hN (by omega)).2) lkRX3_54 ⟨by decide, by decide, by decide⟩ rfl (Nat.le_of_ble_eq_true rfl) dX3_deedAt_27 ?_
    have be := gB1_bd ((gDb k).length = 0)
    refine x_if_ne (tgt := 53) K (by omega) dX3_deedAt_30 (by decide) (fun h30 => ?_) (fun h30 => ?_)
    · refine x_iinc_4 K dX3_deedAt_53 rfl ?_
      refine x_goto (tgt := 10) K dX3_deedAt_56 (by decide) ?_
      exact gWX.fgt 5 (gWX.to rfl rfl ih)
    · have hk1 : 1 ≤ k := by
        apply Classical.byContradiction
        intro q
        have q2 : k = 0 := by omega
        subst q2
        exact absurd h30 (by decide)
      refine x_aload_0 K dX3_deedAt_33 ?_
      refine x_iload_1 K dX3_deedAt_34 ?_
      refine x_aloadc_5 K dX3_deedAt_35 ?_
      refine x_getKN K (gD_form hN (by omega)).1 (gNw_w (w := Cond.fieldLinkNest RX3 23 "ScrollChecks$Deed" "form" "Ljava/lang/String;" "ScrollChecks") (g_mem 1433 (by decide +kernel)) rfl) dX3_deedAt_37 ?_
      refine x_iconst K dX3_deedAt_40 ?_
      refine x_callK1 K (cJ0_charAt (gDfa E k) (gDb k).length (fun j => (gDb k).getD j 0) (gD_form hN (by omega)).2 (gDb_len k (by omega)) (fun j hj => by have := gDb_bd k (by omega) j hj; omega) 0 (by have := gDb_pos k (by omega) (by omega); omega)) mtJ0_charAt_5068e miJ0_charAt_5068e (gStr_O (gD_form hN (by omega)).2) lkRX3_42 ⟨by decide, by decide, by decide⟩ rfl (Nat.le_of_ble_eq_true rfl) dX3_deedAt_41 ?_
      refine gWX.top (b := gD1 k) rfl ?_
      refine x_callV2 K (c3_isAt T l h s hs (gD1 k) (by have := gDb_bd k (by omega) 0 (by have := gDb_pos k (by omega) (by omega); omega); unfold gD1; omega)) mtX3_isAt miX3_isAt rc10 ⟨by decide, by decide⟩ lkRX3_38 ⟨by decide, by decide, by decide⟩ rfl (Nat.le_of_ble_eq_true rfl) dX3_deedAt_44 ?_
      have bi := gB1_bd (t_is T l s (gD1 k))
      refine x_if_eq (tgt := 53) K (by omega) dX3_deedAt_47 (by decide) (fun h47 => ?_) (fun h47 => absurd (gB1_f (hsp k (by omega) hk1)) h47)
      refine x_iinc_4 K dX3_deedAt_53 rfl ?_
      refine x_goto (tgt := 10) K dX3_deedAt_56 (by decide) ?_
      exact gWX.fgt 5 (gWX.to rfl rfl ih)
  · refine x_iload_4 K dX3_deedAt_10 ?_
    refine x_iload_3 K dX3_deedAt_12 ?_
    refine x_icmp_ge (tgt := 59) K (by omega) dX3_deedAt_13 (by decide) (fun h13 => ?_) (fun h13 => absurd h13 (by omega))
    refine x_null K dX3_deedAt_59 ?_
    exact x_aretN K hE rfl dX3_deedAt_60 (by decide) (by decide) rfl
theorem c3_firstMisfit {E : gE} {σ : gS} (T : Nat → Int) (l : Nat) (h : gIn σ T l) (s : Int) (hs : 0 ≤ s ∧ s ≤ 5000) (d : Nat) (hd1 : 1 ≤ d) (hd8 : d < 8) : gCt E mX3_firstMisfit 5 0 [rf 10 0, iv s, .inl (.ref (gDfa E d))] σ (.inl (some (iv (t_misr T l s d)))) σ := by
  refine gCt_of (L := [some (rf 10 0), some (iv s), some (.inl (.ref (gDfa E d))), none, none, none]) (by decide +kernel) rfl rfl (Nat.le_of_ble_eq_true rfl) (fun X K hE => ?_)
  have hN := K.2.2.2.2.1
  have ⟨g1, g2, g3⟩ := h
  have hlen := gDb_len d hd8
  refine x_iconst K dX3_firstMisfit_0 ?_
  refine x_istore_3 K dX3_firstMisfit_1 rfl ?_
  refine gLp (P := fun k : Nat => (t_mis T l s d = gFst (fun k => decide (¬ t_fit T l s d k)) k ((gDb d).length - k)) → gWX X E 0 0 2 [some (rf 10 0), some (iv s), some (.inl (.ref (gDfa E d))), some (iv (k : Int)), none, none] [] (σ)) ((gDb d).length) (fun k0 => ?_) (fun k hk ih => ?_) ?_
  · exact gWX.to rfl rfl (k0 rfl)
  · intro hy
    rw [show (gDb d).length - k = ((gDb d).length - (k + 1)) + 1 by omega] at hy
    unfold gFst at hy
    have hbk := gDb_bd d hd8 k (by omega)
    refine x_iload_3 K dX3_firstMisfit_2 ?_
    refine x_aloadc_2 K dX3_firstMisfit_3 ?_
    refine x_callK0 K (cJ0_length (gDfa E d) (gDb d).length (fun j => (gDb d).getD j 0) (gD_form hN hd8).2 (gDb_len d hd8) (fun j hj => by have := gDb_bd d hd8 j hj; omega)) mtJ0_length_8abf5 miJ0_length_8abf5 (gStr_O (gD_form hN hd8).2) lkRX3_33 ⟨by decide, by decide, by decide⟩ rfl (Nat.le_of_ble_eq_true rfl) dX3_firstMisfit_4 ?_
    refine x_icmp_ge (tgt := 60) K (by omega) dX3_firstMisfit_7 (by decide) (fun h7 => absurd h7 (by omega)) (fun h7 => ?_)
    refine x_aloadc_2 K dX3_firstMisfit_10 ?_
    refine x_iload_3 K dX3_firstMisfit_11 ?_
    refine x_callK1 K (cJ0_charAt (gDfa E d) (gDb d).length (fun j => (gDb d).getD j 0) (gD_form hN hd8).2 (gDb_len d hd8) (fun j hj => by have := gDb_bd d hd8 j hj; omega) k (by omega)) mtJ0_charAt_5068e miJ0_charAt_5068e (gStr_O (gD_form hN hd8).2) lkRX3_42 ⟨by decide, by decide, by decide⟩ rfl (Nat.le_of_ble_eq_true rfl) dX3_firstMisfit_12 ?_
    refine x_istore_4 K dX3_firstMisfit_15 rfl ?_
    refine x_iload_4 K dX3_firstMisfit_17 ?_
    refine x_bipush K dX3_firstMisfit_19 rfl ?_
    refine x_icmp_ne (tgt := 34) K (by omega) dX3_firstMisfit_21 (by decide) (fun h21 => ?_) (fun h21 => ?_)
    · have hft : t_fit T l s d k ↔ t_is T l (s + k) ((gDb d).getD k 0) := by unfold t_fit; rw [if_neg h21]
      refine x_aload_0 K dX3_firstMisfit_34 ?_
      refine x_iload_1 K dX3_firstMisfit_35 ?_
      refine x_iload_3 K dX3_firstMisfit_36 ?_
      refine x_iadd K dX3_firstMisfit_37 ?_
      refine x_iload_4 K dX3_firstMisfit_38 ?_
      refine x_callV2 K (c3_isAt T l h (s + k) (by omega) ((gDb d).getD k 0) (by omega)) mtX3_isAt miX3_isAt rc10 ⟨by decide, by decide⟩ lkRX3_38 ⟨by decide, by decide, by decide⟩ rfl (Nat.le_of_ble_eq_true rfl) dX3_firstMisfit_40 ?_
      have bq := gB1_bd (t_is T l (s + k) ((gDb d).getD k 0))
      have hgb : gB1 (t_is T l (s + k) ((gDb d).getD k 0)) = gB1 (t_fit T l s d k) := gB1_iff hft.symm
      refine x_istore_5 K dX3_firstMisfit_43 rfl ?_
      refine x_iload_5 K dX3_firstMisfit_45 ?_
      refine x_if_ne (tgt := 54) K (by omega) dX3_firstMisfit_47 (by decide) (fun h47 => ?_) (fun h47 => ?_)
      · have hw : ¬ decide (¬ t_fit T l s d k) = true := fun q => h47 (hgb.trans (gB1_f (of_decide_eq_true q)))
        rw [if_neg hw] at hy
        have hy2 : t_mis T l s d = gFst (fun k => decide (¬ t_fit T l s d k)) (k + 1) ((gDb d).length - (k + 1)) := hy
        refine x_iinc_3 K dX3_firstMisfit_54 rfl ?_
        refine x_goto (tgt := 2) K dX3_firstMisfit_57 (by decide) ?_
        exact gWX.fgt 4 (gWX.fgt 5 (gWX.to rfl rfl (ih hy2)))
      · have hw : decide (¬ t_fit T l s d k) = true := decide_eq_true (fun q => by rw [hgb, gB1_t q] at h47; omega)
        rw [if_pos hw] at hy
        refine x_iload_1 K dX3_firstMisfit_50 ?_
        refine x_iload_3 K dX3_firstMisfit_51 ?_
        refine x_iadd K dX3_firstMisfit_52 ?_
        exact x_iret K hE rfl dX3_firstMisfit_53 (by decide) (by decide) (by unfold t_misr; rw [hy, if_neg (by omega)]) rfl
    · have hft : t_fit T l s d k ↔ t_dg T l (s + k) := by unfold t_fit; rw [if_pos h21]
      refine x_aload_0 K dX3_firstMisfit_24 ?_
      refine x_iload_1 K dX3_firstMisfit_25 ?_
      refine x_iload_3 K dX3_firstMisfit_26 ?_
      refine x_iadd K dX3_firstMisfit_27 ?_
      refine x_callV1 K (c3_isDigitAt T l h (s + k) (by omega)) mtX3_isDigitAt miX3_isDigitAt rc10 ⟨by decide, by decide⟩ lkRX3_46 ⟨by decide, by decide, by decide⟩ rfl (Nat.le_of_ble_eq_true rfl) dX3_firstMisfit_28 ?_
      have bq := gB1_bd (t_dg T l (s + k))
      have hgb : gB1 (t_dg T l (s + k)) = gB1 (t_fit T l s d k) := gB1_iff hft.symm
      refine x_goto (tgt := 43) K dX3_firstMisfit_31 (by decide) ?_
      refine x_istore_5 K dX3_firstMisfit_43 rfl ?_
      refine x_iload_5 K dX3_firstMisfit_45 ?_
      refine x_if_ne (tgt := 54) K (by omega) dX3_firstMisfit_47 (by decide) (fun h47 => ?_) (fun h47 => ?_)
      · have hw : ¬ decide (¬ t_fit T l s d k) = true := fun q => h47 (hgb.trans (gB1_f (of_decide_eq_true q)))
        rw [if_neg hw] at hy
        have hy2 : t_mis T l s d = gFst (fun k => decide (¬ t_fit T l s d k)) (k + 1) ((gDb d).length - (k + 1)) := hy
        refine x_iinc_3 K dX3_firstMisfit_54 rfl ?_
        refine x_goto (tgt := 2) K dX3_firstMisfit_57 (by decide) ?_
        exact gWX.fgt 4 (gWX.fgt 5 (gWX.to rfl rfl (ih hy2)))
      · have hw : decide (¬ t_fit T l s d k) = true := decide_eq_true (fun q => by rw [hgb, gB1_t q] at h47; omega)
        rw [if_pos hw] at hy
        refine x_iload_1 K dX3_firstMisfit_50 ?_
        refine x_iload_3 K dX3_firstMisfit_51 ?_
        refine x_iadd K dX3_firstMisfit_52 ?_
        exact x_iret K hE rfl dX3_firstMisfit_53 (by decide) (by decide) (by unfold t_misr; rw [hy, if_neg (by omega)]) rfl
  · intro hy
    rw [Nat.sub_self] at hy
    refine x_iload_3 K dX3_firstMisfit_2 ?_
    refine x_aloadc_2 K dX3_firstMisfit_3 ?_
    refine x_callK0 K (cJ0_length (gDfa E d) (gDb d).length (fun j => (gDb d).getD j 0) (gD_form hN hd8).2 (gDb_len d hd8) (fun j hj => by have := gDb_bd d hd8 j hj; omega)) mtJ0_length_8abf5 miJ0_length_8abf5 (gStr_O (gD_form hN hd8).2) lkRX3_33 ⟨by decide, by decide, by decide⟩ rfl (Nat.le_of_ble_eq_true rfl) dX3_firstMisfit_4 ?_
    refine x_icmp_ge (tgt := 60) K (by omega) dX3_firstMisfit_7 (by decide) (fun h7 => ?_) (fun h7 => absurd h7 (by omega))
    refine x_iconst K dX3_firstMisfit_60 ?_
    exact x_iret K hE rfl dX3_firstMisfit_61 (by decide) (by decide) (by unfold t_misr; rw [hy]; rfl) rfl
theorem t_misr_bd {T : Nat → Int} {l : Nat} {s : Int} {d : Nat} (hs : 0 ≤ s) (hd : d < 8) : -1 ≤ t_misr T l s d ∧ t_misr T l s d ≤ s + 8 := by
  have h1 := gFst_bd (fun k => decide (¬ t_fit T l s d k)) (gDb d).length 0
  have h2 := gDb_len d hd
  have h3 : t_mis T l s d = gFst (fun k => decide (¬ t_fit T l s d k)) 0 (gDb d).length := rfl
  unfold t_misr
  split <;> omega
set_option maxHeartbeats 2000000 in
theorem c3_numberIn {E : gE} {σ : gS} (T : Nat → Int) (l : Nat) (h : gIn σ T l) (s : Int) (hs : 0 ≤ s ∧ s ≤ 5000) (d : Nat) (hd1 : 1 ≤ d) (hd8 : d < 8) (k : Nat) (hk : k < 4) : gCt E mX3_numberIn 3 0 [rf 10 0, iv s, gDv E d, iv (k : Int)] σ (.inl (some (iv (t_num T l s d k)))) σ := by
  refine gCt_of (L := [some (rf 10 0), some (iv s), some (gDv E d), some (iv (k : Int)), none]) (by decide +kernel) rfl rfl (Nat.le_of_ble_eq_true rfl) (fun X K hE => ?_)
  have hN := K.2.2.2.2.1
  have ⟨g1, g2, g3⟩ := h
  have hlen := gDb_len d hd8
  have hb := t_at_bd h (s + (2 * (k : Int) + 1))
  refine x_iconst K dX3_numberIn_0 ?_
  refine x_iload_3 K dX3_numberIn_1 ?_
  refine x_imul K dX3_numberIn_2 ?_
  refine x_iconst K dX3_numberIn_3 ?_
  refine x_iadd K dX3_numberIn_4 ?_
  refine x_istore_4 K dX3_numberIn_5 rfl ?_
  refine x_iload_4 K dX3_numberIn_7 ?_
  refine x_aloadc_2 K dX3_numberIn_9 ?_
  refine x_getKN K (gD_form hN hd8).1 (gNw_w (w := Cond.fieldLinkNest RX3 23 "ScrollChecks$Deed" "form" "Ljava/lang/String;" "ScrollChecks") (g_mem 1433 (by decide +kernel)) rfl) dX3_numberIn_10 ?_
  refine x_callK0 K (cJ0_length (gDfa E d) (gDb d).length (fun j => (gDb d).getD j 0) (gD_form hN hd8).2 (gDb_len d hd8) (fun j hj => by have := gDb_bd d hd8 j hj; omega)) mtJ0_length_8abf5 miJ0_length_8abf5 (gStr_O (gD_form hN hd8).2) lkRX3_33 ⟨by decide, by decide, by decide⟩ rfl (Nat.le_of_ble_eq_true rfl) dX3_numberIn_13 ?_
  refine x_icmp_ge (tgt := 30) K (by omega) dX3_numberIn_16 (by decide) (fun h16 => ?_) (fun h16 => ?_)
  · have hv : t_num T l s d k = 0 := if_neg (fun q => by have := q.1; omega)
    refine x_iconst K dX3_numberIn_30 ?_
    exact x_iret K hE rfl dX3_numberIn_31 (by decide) (by decide) hv.symm rfl
  · have hpl : 2 * k + 1 < (gDb d).length := by omega
    refine x_aload_0 K dX3_numberIn_19 ?_
    refine x_iload_1 K dX3_numberIn_20 ?_
    refine x_iload_4 K dX3_numberIn_21 ?_
    refine x_iadd K dX3_numberIn_23 ?_
    refine x_callV1 K (c3_isDigitAt T l h (s + (2 * (k : Int) + 1)) (by omega)) mtX3_isDigitAt miX3_isDigitAt rc10 ⟨by decide, by decide⟩ lkRX3_46 ⟨by decide, by decide, by decide⟩ rfl (Nat.le_of_ble_eq_true rfl) dX3_numberIn_24 ?_
    have bq := gB1_bd (t_dg T l (s + (2 * (k : Int) + 1)))
    refine x_if_ne (tgt := 32) K (by omega) dX3_numberIn_27 (by decide) (fun h27 => ?_) (fun h27 => ?_)
    · have hdg : t_dg T l (s + (2 * (k : Int) + 1)) := Classical.byContradiction (fun q => h27 (gB1_f q))
      have hv : t_num T l s d k = t_at T l (s + (2 * (k : Int) + 1)) - 48 := if_pos ⟨hpl, hdg⟩
      refine x_aload_0 K dX3_numberIn_32 ?_
      refine x_iload_1 K dX3_numberIn_33 ?_
      refine x_iload_4 K dX3_numberIn_34 ?_
      refine x_iadd K dX3_numberIn_36 ?_
      refine x_callV1 K (c3_at T l h (s + (2 * (k : Int) + 1)) (by omega)) mtX3_at miX3_at rc10 ⟨by decide, by decide⟩ lkRX3_58 ⟨by decide, by decide, by decide⟩ rfl (Nat.le_of_ble_eq_true rfl) dX3_numberIn_37 ?_
      refine x_bipush K dX3_numberIn_40 rfl ?_
      refine x_isub K dX3_numberIn_42 ?_
      exact x_iret K hE rfl dX3_numberIn_43 (by decide) (by decide) hv.symm rfl
    · have hv : t_num T l s d k = 0 := if_neg (fun q => by rw [gB1_t q.2] at h27; omega)
      refine x_iconst K dX3_numberIn_30 ?_
      exact x_iret K hE rfl dX3_numberIn_31 (by decide) (by decide) hv.symm rfl
theorem c3_startOfNext {E : gE} {σ : gS} (T : Nat → Int) (l : Nat) (h : gIn σ T l) (s : Int) (hs : 0 ≤ s ∧ s ≤ 5000) (d : Nat) (hd0 : d ≠ 0) (hd : t_dd T l s = d) : gCt E mX3_startOfNext 6 0 [rf 10 0, iv s] σ (.inl (some (iv (t_nx T l s)))) σ := by
  refine gCt_of (L := [some (rf 10 0), some (iv s), none]) (by decide +kernel) rfl rfl (Nat.le_of_ble_eq_true rfl) (fun X K hE => ?_)
  have hN := K.2.2.2.2.1
  have ⟨g1, g2, g3⟩ := h
  have hsp := t_dd_spec T l s
  rw [hd] at hsp
  have hlen := gDb_len d hsp.1
  refine x_aload_0 K dX3_startOfNext_0 ?_
  refine x_iload_1 K dX3_startOfNext_1 ?_
  refine x_callV1 K (c3_deedAt T l h s (by omega) d hd0 hd) mtX3_deedAt miX3_deedAt rc10 ⟨by decide, by decide⟩ lkRX3_19 ⟨by decide, by decide, by decide⟩ rfl (Nat.le_of_ble_eq_true rfl) dX3_startOfNext_2 ?_
  refine x_astorec_2 K dX3_startOfNext_5 rfl ?_
  refine x_aloadc_2 K dX3_startOfNext_6 ?_
  refine x_ifnonnullc (tgt := 17) K dX3_startOfNext_7 (by decide) ?_
  refine x_iload_1 K dX3_startOfNext_17 ?_
  refine x_aloadc_2 K dX3_startOfNext_18 ?_
  refine x_getKN K (gD_form hN hsp.1).1 (gNw_w (w := Cond.fieldLinkNest RX3 23 "ScrollChecks$Deed" "form" "Ljava/lang/String;" "ScrollChecks") (g_mem 1433 (by decide +kernel)) rfl) dX3_startOfNext_19 ?_
  refine x_callK0 K (cJ0_length (gDfa E d) (gDb d).length (fun j => (gDb d).getD j 0) (gD_form hN hsp.1).2 (gDb_len d hsp.1) (fun j hj => by have := gDb_bd d hsp.1 j hj; omega)) mtJ0_length_8abf5 miJ0_length_8abf5 (gStr_O (gD_form hN hsp.1).2) lkRX3_33 ⟨by decide, by decide, by decide⟩ rfl (Nat.le_of_ble_eq_true rfl) dX3_startOfNext_22 ?_
  refine x_iadd K dX3_startOfNext_25 ?_
  refine x_iconst K dX3_startOfNext_26 ?_
  refine x_iadd K dX3_startOfNext_27 ?_
  exact x_iret K hE rfl dX3_startOfNext_28 (by decide) (by decide) (by unfold t_nx; rw [hd, if_neg hd0]) rfl
theorem t_err_1 (T : Nat → Int) (l n : Nat) (s : Int) : t_err T l (n + 1) s = if (l : Int) ≤ s then s else if t_dd T l s = 0 then s else if t_misr T l s (t_dd T l s) ≠ -1 then t_misr T l s (t_dd T l s)
    else if s + ((gDb (t_dd T l s)).length : Int) = (l : Int) then -1 else if ¬ t_is T l (s + ((gDb (t_dd T l s)).length : Int)) 59 then s + ((gDb (t_dd T l s)).length : Int) else t_err T l n (s + ((gDb (t_dd T l s)).length : Int) + 1) := rfl
set_option maxHeartbeats 4000000 in
theorem c3_firstError {E : gE} {σ : gS} (T : Nat → Int) (l : Nat) (h : gIn σ T l) : gCt E mX3_firstError 6 0 [rf 10 0] σ (.inl (some (iv (t_err T l 60 0)))) σ := by
  refine gCt_of (L := [some (rf 10 0), none, none, none, none, none]) (by decide +kernel) rfl rfl (Nat.le_of_ble_eq_true rfl) (fun X K hE => ?_)
  have hN := K.2.2.2.2.1
  have ⟨g1, g2, g3⟩ := h
  refine x_iconst K dX3_firstError_0 ?_
  refine x_istore_1 K dX3_firstError_1 rfl ?_
  refine x_iconst K dX3_firstError_2 ?_
  refine x_istore_2 K dX3_firstError_3 rfl ?_
  refine gLp (P := fun k : Nat => ∀ s : Int, ((0 ≤ s ∧ s ≤ 10 * (k : Int)) ∧ t_err T l 60 0 = t_err T l (60 - k) s) → gWX X E 0 0 4 [some (rf 10 0), some (iv s), some (iv (k : Int)), none, none, none] [] (σ)) (60) (fun k0 => ?_) (fun k hk ih => ?_) ?_
  · exact gWX.to rfl rfl (k0 0 ⟨by omega, rfl⟩)
  · intro s hy
    obtain ⟨hs, hy⟩ := hy
    rw [show 60 - k = (60 - (k + 1)) + 1 by omega, t_err_1 T l (60 - (k + 1)) s] at hy
    have hsp := t_dd_spec T l s
    have hlen := gDb_len (t_dd T l s) hsp.1
    have hmb := t_misr_bd (T := T) (l := l) (s := s) (d := t_dd T l s) hs.1 hsp.1
    refine x_iload_2 K dX3_firstError_4 ?_
    refine x_bipush K dX3_firstError_5 rfl ?_
    refine x_icmp_ge (tgt := 97) K (by omega) dX3_firstError_7 (by decide) (fun h7 => absurd h7 (by omega)) (fun h7 => ?_)
    refine x_iload_1 K dX3_firstError_10 ?_
    refine x_aload_0 K dX3_firstError_11 ?_
    refine x_getI K gfRX3_15 ⟨by decide, by decide⟩ dX3_firstError_12 ?_
    refine x_icmp_ge (tgt := 97) K (by omega) dX3_firstError_15 (by decide) (fun h15 => ?_) (fun h15 => ?_)
    · rw [if_pos (by omega)] at hy
      refine x_iload_1 K dX3_firstError_97 ?_
      exact x_iret K hE rfl dX3_firstError_98 (by decide) (by decide) hy.symm rfl
    · rw [if_neg (by omega)] at hy
      by_cases hd0 : t_dd T l s = 0
      · rw [if_pos hd0] at hy
        refine x_aload_0 K dX3_firstError_18 ?_
        refine x_iload_1 K dX3_firstError_19 ?_
        refine x_callV1 K (c3_deedAtN T l h s (by omega) hd0) mtX3_deedAt miX3_deedAt rc10 ⟨by decide, (by decide)⟩ lkRX3_19 ⟨by decide, by decide, by decide⟩ rfl (Nat.le_of_ble_eq_true rfl) dX3_firstError_20 ?_
        refine x_astorez_3 K dX3_firstError_23 rfl ?_
        refine x_aloadz_3 K dX3_firstError_24 ?_
        refine x_ifnonnullN K dX3_firstError_25 ?_
        refine x_iload_1 K dX3_firstError_28 ?_
        exact x_iret K hE rfl dX3_firstError_29 (by decide) (by decide) hy.symm rfl
      rw [if_neg hd0] at hy
      have hd1 : 1 ≤ t_dd T l s := by omega
      refine x_aload_0 K dX3_firstError_18 ?_
      refine x_iload_1 K dX3_firstError_19 ?_
      refine x_callV1 K (c3_deedAt T l h s (by omega) (t_dd T l s) hd0 rfl) mtX3_deedAt miX3_deedAt rc10 ⟨by decide, by decide⟩ lkRX3_19 ⟨by decide, by decide, by decide⟩ rfl (Nat.le_of_ble_eq_true rfl) dX3_firstError_20 ?_
      refine x_astorec_3 K dX3_firstError_23 rfl ?_
      refine x_aloadc_3 K dX3_firstError_24 ?_
      refine x_ifnonnullc (tgt := 30) K dX3_firstError_25 (by decide) ?_
      refine x_aload_0 K dX3_firstError_30 ?_
      refine x_iload_1 K dX3_firstError_31 ?_
      refine x_aloadc_3 K dX3_firstError_32 ?_
      refine x_getKN K (gD_form hN hsp.1).1 (gNw_w (w := Cond.fieldLinkNest RX3 23 "ScrollChecks$Deed" "form" "Ljava/lang/String;" "ScrollChecks") (g_mem 1433 (by decide +kernel)) rfl) dX3_firstError_33 ?_
      refine x_callV2 K (c3_firstMisfit T l h s (by omega) (t_dd T l s) hd1 hsp.1) mtX3_firstMisfit miX3_firstMisfit rc10 ⟨by decide, by decide⟩ lkRX3_29 ⟨by decide, by decide, by decide⟩ rfl (Nat.le_of_ble_eq_true rfl) dX3_firstError_36 ?_
      refine x_istore_4 K dX3_firstError_39 rfl ?_
      refine x_iload_4 K dX3_firstError_41 ?_
      refine x_iconst K dX3_firstError_43 ?_
      refine x_icmp_eq (tgt := 50) K (by omega) dX3_firstError_44 (by decide) (fun h44 => ?_) (fun h44 => ?_)
      · rw [if_neg (fun q => q h44)] at hy
        refine x_iload_1 K dX3_firstError_50 ?_
        refine x_aloadc_3 K dX3_firstError_51 ?_
        refine x_getKN K (gD_form hN hsp.1).1 (gNw_w (w := Cond.fieldLinkNest RX3 23 "ScrollChecks$Deed" "form" "Ljava/lang/String;" "ScrollChecks") (g_mem 1433 (by decide +kernel)) rfl) dX3_firstError_52 ?_
        refine x_callK0 K (cJ0_length (gDfa E (t_dd T l s)) (gDb (t_dd T l s)).length (fun j => (gDb (t_dd T l s)).getD j 0) (gD_form hN hsp.1).2 (gDb_len (t_dd T l s) hsp.1) (fun j hj => by have := gDb_bd (t_dd T l s) hsp.1 j hj; omega)) mtJ0_length_8abf5 miJ0_length_8abf5 (gStr_O (gD_form hN hsp.1).2) lkRX3_33 ⟨by decide, by decide, by decide⟩ rfl (Nat.le_of_ble_eq_true rfl) dX3_firstError_55 ?_
        refine x_iadd K dX3_firstError_58 ?_
        refine x_istore_5 K dX3_firstError_59 rfl ?_
        refine x_iload_5 K dX3_firstError_61 ?_
        refine x_aload_0 K dX3_firstError_63 ?_
        refine x_getI K gfRX3_15 ⟨by decide, by decide⟩ dX3_firstError_64 ?_
        refine gWX.top (b := (l : Int)) g1 ?_
        refine x_icmp_ne (tgt := 72) K (by omega) dX3_firstError_67 (by decide) (fun h67 => ?_) (fun h67 => ?_)
        · rw [if_neg h67] at hy
          refine x_aload_0 K dX3_firstError_72 ?_
          refine x_iload_5 K dX3_firstError_73 ?_
          refine x_bipush K dX3_firstError_75 rfl ?_
          refine x_callV2 K (c3_isAt T l h (s + ((gDb (t_dd T l s)).length : Int)) (by omega) 59 (by omega)) mtX3_isAt miX3_isAt rc10 ⟨by decide, by decide⟩ lkRX3_38 ⟨by decide, by decide, by decide⟩ rfl (Nat.le_of_ble_eq_true rfl) dX3_firstError_77 ?_
          have bq := gB1_bd (t_is T l (s + ((gDb (t_dd T l s)).length : Int)) 59)
          refine x_if_ne (tgt := 86) K (by omega) dX3_firstError_80 (by decide) (fun h80 => ?_) (fun h80 => ?_)
          · have hv : t_is T l (s + ((gDb (t_dd T l s)).length : Int)) 59 := Classical.byContradiction (fun q => h80 (gB1_f q))
            rw [if_neg (fun q => q hv)] at hy
            have hy7 : t_err T l 60 0 = t_err T l (60 - (k + 1)) (s + ((gDb (t_dd T l s)).length : Int) + 1) := hy
            refine x_iload_5 K dX3_firstError_86 ?_
            refine x_iconst K dX3_firstError_88 ?_
            refine x_iadd K dX3_firstError_89 ?_
            refine x_istore_1 K dX3_firstError_90 rfl ?_
            refine x_iinc_2 K dX3_firstError_91 rfl ?_
            refine x_goto (tgt := 4) K dX3_firstError_94 (by decide) ?_
            exact gWX.fgt 3 (gWX.fgt 4 (gWX.fgt 5 (gWX.to rfl rfl (ih (s + ((gDb (t_dd T l s)).length : Int) + 1) ⟨by omega, hy7⟩))))
          · have hv : ¬ t_is T l (s + ((gDb (t_dd T l s)).length : Int)) 59 := fun q => by rw [gB1_t q] at h80; omega
            rw [if_pos hv] at hy
            refine x_iload_5 K dX3_firstError_83 ?_
            exact x_iret K hE rfl dX3_firstError_85 (by decide) (by decide) hy.symm rfl
        · rw [if_pos h67] at hy
          refine x_iconst K dX3_firstError_70 ?_
          exact x_iret K hE rfl dX3_firstError_71 (by decide) (by decide) hy.symm rfl
      · rw [if_pos h44] at hy
        refine x_iload_4 K dX3_firstError_47 ?_
        exact x_iret K hE rfl dX3_firstError_49 (by decide) (by decide) hy.symm rfl
  · intro s hy
    obtain ⟨hs, hy⟩ := hy
    refine x_iload_2 K dX3_firstError_4 ?_
    refine x_bipush K dX3_firstError_5 rfl ?_
    refine x_icmp_ge (tgt := 97) K (by omega) dX3_firstError_7 (by decide) (fun h7 => ?_) (fun h7 => absurd h7 (by omega))
    refine x_iload_1 K dX3_firstError_97 ?_
    exact x_iret K hE rfl dX3_firstError_98 (by decide) (by decide) hy.symm rfl
