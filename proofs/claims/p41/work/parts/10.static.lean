/-! ===== ScrollChecks: its static helpers ===== -/
theorem c6_entry {E : gE} {σ : gS} {k i N : Nat} (ha : gIA k = some (0, N)) (ho : gOk k i) (j : Nat) (hj : j < N) : gCt E mX6_entry 1 0 [rf k i, iv (j : Int)] σ (.inl (some (iv (σ.1 k i j)))) σ := by
  refine gCt_of (L := [some (rf k i), some (iv (j : Int))]) (by decide +kernel) rfl rfl (Nat.le_of_ble_eq_true rfl) (fun X K hE => ?_)
  have hN := gIA_lt ha
  refine x_iload_1 K dX6_entry_0 ?_
  refine x_if_lt (tgt := 16) K (by omega) dX6_entry_1 (by decide) (fun h1 => absurd h1 (by omega)) (fun h1 => ?_)
  refine x_iload_1 K dX6_entry_4 ?_
  refine x_aload_0 K dX6_entry_5 ?_
  refine x_alen K ha ho dX6_entry_6 ?_
  refine x_icmp_ge (tgt := 16) K (by omega) dX6_entry_7 (by decide) (fun h7 => absurd h7 (by omega)) (fun h7 => ?_)
  refine x_aload_0 K dX6_entry_10 ?_
  refine x_iload_1 K dX6_entry_11 ?_
  refine x_iald K j rfl ha ho hj dX6_entry_12 ?_
  refine x_goto (tgt := 17) K dX6_entry_13 (by decide) ?_
  exact x_iret K hE rfl dX6_entry_17 (by decide) (by decide) rfl rfl
theorem c6_put {E : gE} {σ : gS} {k i N : Nat} (ha : gIA k = some (0, N)) (ho : gOk k i) (j : Nat) (hj : j < N) (x : Int) : gCt E mX6_put 1 0 [rf k i, iv (j : Int), iv x] σ (.inl none) (gU σ k i j x) := by
  refine gCt_of (L := [some (rf k i), some (iv (j : Int)), some (iv x)]) (by decide +kernel) rfl rfl (Nat.le_of_ble_eq_true rfl) (fun X K hE => ?_)
  have hN := gIA_lt ha
  refine x_iload_1 K dX6_put_0 ?_
  refine x_if_lt (tgt := 14) K (by omega) dX6_put_1 (by decide) (fun h1 => absurd h1 (by omega)) (fun h1 => ?_)
  refine x_iload_1 K dX6_put_4 ?_
  refine x_aload_0 K dX6_put_5 ?_
  refine x_alen K ha ho dX6_put_6 ?_
  refine x_icmp_ge (tgt := 14) K (by omega) dX6_put_7 (by decide) (fun h7 => absurd h7 (by omega)) (fun h7 => ?_)
  refine x_aload_0 K dX6_put_10 ?_
  refine x_iload_1 K dX6_put_11 ?_
  refine x_iload_2 K dX6_put_12 ?_
  refine x_iast K j rfl ha ho hj dX6_put_13 ?_
  exact x_vret K hE rfl dX6_put_14 (by decide) (by decide) rfl
theorem c6_add {E : gE} {σ : gS} {k i N : Nat} (ha : gIA k = some (0, N)) (ho : gOk k i) (j : Nat) (hj : j < N) (x : Int) : gCt E mX6_add 1 0 [rf k i, iv (j : Int), iv x] σ (.inl none) (gU σ k i j (σ.1 k i j + x)) := by
  refine gCt_of (L := [some (rf k i), some (iv (j : Int)), some (iv x)]) (by decide +kernel) rfl rfl (Nat.le_of_ble_eq_true rfl) (fun X K hE => ?_)
  have hN := gIA_lt ha
  refine x_iload_1 K dX6_add_0 ?_
  refine x_if_lt (tgt := 17) K (by omega) dX6_add_1 (by decide) (fun h1 => absurd h1 (by omega)) (fun h1 => ?_)
  refine x_iload_1 K dX6_add_4 ?_
  refine x_aload_0 K dX6_add_5 ?_
  refine x_alen K ha ho dX6_add_6 ?_
  refine x_icmp_ge (tgt := 17) K (by omega) dX6_add_7 (by decide) (fun h7 => absurd h7 (by omega)) (fun h7 => ?_)
  refine x_aload_0 K dX6_add_10 ?_
  refine x_iload_1 K dX6_add_11 ?_
  refine x_dup2 K dX6_add_12 rfl rfl ?_
  refine x_iald K j rfl ha ho hj dX6_add_13 ?_
  refine x_iload_2 K dX6_add_14 ?_
  refine x_iadd K dX6_add_15 ?_
  refine x_iast K j rfl ha ho hj dX6_add_16 ?_
  exact x_vret K hE rfl dX6_add_17 (by decide) (by decide) rfl
def gClr (σ : gS) (k i n : Nat) : gS := (fun a b c => if a = k ∧ b = i ∧ c < n then 0 else σ.1 a b c, σ.2)
theorem gClr_0 (σ : gS) (k i : Nat) : σ = gClr σ k i 0 := gS_ext (fun a b c => by show _ = if a = k ∧ b = i ∧ c < 0 then 0 else σ.1 a b c; rw [if_neg (fun h => Nat.not_lt_zero _ h.2.2)]) rfl
theorem gClr_1 (σ : gS) (k i n : Nat) : gU (gClr σ k i n) k i n 0 = gClr σ k i (n + 1) := gS_ext (fun a b c => by
  show (if a = k ∧ b = i ∧ c = n then 0 else if a = k ∧ b = i ∧ c < n then 0 else σ.1 a b c) = if a = k ∧ b = i ∧ c < n + 1 then 0 else σ.1 a b c
  by_cases h : a = k ∧ b = i
  · by_cases h2 : c = n
    · rw [if_pos ⟨h.1, h.2, h2⟩, if_pos ⟨h.1, h.2, by omega⟩]
    · rw [if_neg (fun q => h2 q.2.2)]
      by_cases h3 : c < n
      · rw [if_pos ⟨h.1, h.2, h3⟩, if_pos ⟨h.1, h.2, by omega⟩]
      · rw [if_neg (fun q => h3 q.2.2), if_neg (fun q => h3 (by omega))]
  · rw [if_neg (fun q => h ⟨q.1, q.2.1⟩), if_neg (fun q => h ⟨q.1, q.2.1⟩), if_neg (fun q => h ⟨q.1, q.2.1⟩)]) rfl
theorem c6_clear {E : gE} {σ : gS} {k i N : Nat} (ha : gIA k = some (0, N)) (ho : gOk k i) : gCt E mX6_clear 1 0 [rf k i] σ (.inl none) (gClr σ k i N) := by
  refine gCt_of (L := [some (rf k i), none]) (by decide +kernel) rfl rfl (Nat.le_of_ble_eq_true rfl) (fun X K hE => ?_)
  have hN := gIA_lt ha
  refine x_iconst K dX6_clear_0 ?_
  refine x_istore_1 K dX6_clear_1 rfl ?_
  refine gLp (P := fun j : Nat => gWX X E 0 0 2 [some (rf k i), some (iv (j : Int))] [] (gClr σ k i j)) (N) (fun k0 => ?_) (fun j hj ih => ?_) ?_
  · exact gWX.to rfl (gClr_0 σ k i) (k0)
  · refine x_iload_1 K dX6_clear_2 ?_
    refine x_aload_0 K dX6_clear_3 ?_
    refine x_alen K ha ho dX6_clear_4 ?_
    refine x_icmp_ge (tgt := 18) K (by omega) dX6_clear_5 (by decide) (fun h5 => absurd h5 (by omega)) (fun h5 => ?_)
    refine x_aload_0 K dX6_clear_8 ?_
    refine x_iload_1 K dX6_clear_9 ?_
    refine x_iconst K dX6_clear_10 ?_
    refine x_iast K j rfl ha ho hj dX6_clear_11 ?_
    refine x_iinc_1 K dX6_clear_12 rfl ?_
    refine x_goto (tgt := 2) K dX6_clear_15 (by decide) ?_
    exact gWX.to rfl (gClr_1 σ k i j) (ih)
  · refine x_iload_1 K dX6_clear_2 ?_
    refine x_aload_0 K dX6_clear_3 ?_
    refine x_alen K ha ho dX6_clear_4 ?_
    refine x_icmp_ge (tgt := 18) K (by omega) dX6_clear_5 (by decide) (fun h5 => ?_) (fun h5 => absurd h5 (by omega))
    exact x_vret K hE rfl dX6_clear_18 (by decide) (by decide) rfl
theorem c6_transfer {E : gE} {σ : gS} {k0 i0 k i N : Nat} (h0 : gIA k0 = some (0, N)) (h1 : gIA k = some (0, N)) (ho0 : gOk k0 i0) (ho : gOk k i) : gCt E mX6_transfer 2 0 [rf k0 i0, rf k i] σ (.inl none) (gCp σ k0 i0 k i 0 0 N) := by
  refine gCt_of (L := [some (rf k0 i0), some (rf k i)]) (by decide +kernel) rfl rfl (Nat.le_of_ble_eq_true rfl) (fun X K hE => ?_)
  have hN := gIA_lt h0
  refine x_aload_0 K dX6_transfer_0 ?_
  refine x_iconst K dX6_transfer_1 ?_
  refine x_aload_1 K dX6_transfer_2 ?_
  refine x_iconst K dX6_transfer_3 ?_
  refine x_aload_0 K dX6_transfer_4 ?_
  refine x_alen K h0 ho0 dX6_transfer_5 ?_
  refine x_aload_1 K dX6_transfer_6 ?_
  refine x_alen K h1 ho dX6_transfer_7 ?_
  refine x_mmin K rfl (by omega) lwRX6_375 g_min ⟨by decide, (Nat.le_of_ble_eq_true rfl)⟩ ⟨by decide, by decide⟩ dX6_transfer_8 ?_
  refine x_copy K 0 0 N rfl rfl (by omega) rfl h0 h1 ho0 ho (by omega) (by omega) lwRX6_380 g_acopy ⟨by decide, (Nat.le_of_ble_eq_true rfl)⟩ dX6_transfer_11 ?_
  exact x_vret K hE rfl dX6_transfer_14 (by decide) (by decide) rfl
theorem c6_isWithin {E : gE} {σ : gS} (a b c : Int) (h : (-2147483648 ≤ a ∧ a < 2147483648) ∧ (-2147483648 ≤ b ∧ b < 2147483648) ∧ -2147483648 ≤ c ∧ c < 2147483648) : gCt E mX6_isWithin 1 0 [iv a, iv b, iv c] σ (.inl (some (iv (gB1 (b ≤ a ∧ a ≤ c))))) σ := by
  refine gCt_of (L := [some (iv a), some (iv b), some (iv c)]) (by decide +kernel) rfl rfl (Nat.le_of_ble_eq_true rfl) (fun X K hE => ?_)
  refine x_iload_0 K dX6_isWithin_0 ?_
  refine x_iload_1 K dX6_isWithin_1 ?_
  refine x_icmp_lt (tgt := 14) K (by omega) dX6_isWithin_2 (by decide) (fun h2 => ?_) (fun h2 => ?_)
  · refine x_iconst K dX6_isWithin_14 ?_
    exact x_zret K hE rfl dX6_isWithin_15 (by decide) (by decide) (by omega) (by unfold gB1; split <;> omega) rfl
  · refine x_iload_0 K dX6_isWithin_5 ?_
    refine x_iload_2 K dX6_isWithin_6 ?_
    refine x_icmp_gt (tgt := 14) K (by omega) dX6_isWithin_7 (by decide) (fun h7 => ?_) (fun h7 => ?_)
    · refine x_iconst K dX6_isWithin_14 ?_
      exact x_zret K hE rfl dX6_isWithin_15 (by decide) (by decide) (by omega) (by unfold gB1; split <;> omega) rfl
    · refine x_iconst K dX6_isWithin_10 ?_
      refine x_goto (tgt := 15) K dX6_isWithin_11 (by decide) ?_
      exact x_zret K hE rfl dX6_isWithin_15 (by decide) (by decide) (by omega) (by unfold gB1; split <;> omega) rfl
theorem c6_refused {E : gE} {σ : gS} (a b : Int) : gCt E mX6_refused 1 0 [iv a, iv b] σ (.inl (some (iv (100 * a + b)))) σ := by
  refine gCt_of (L := [some (iv a), some (iv b)]) (by decide +kernel) rfl rfl (Nat.le_of_ble_eq_true rfl) (fun X K hE => ?_)
  refine x_bipush K dX6_refused_0 rfl ?_
  refine x_iload_0 K dX6_refused_2 ?_
  refine x_imul K dX6_refused_3 ?_
  refine x_iload_1 K dX6_refused_4 ?_
  refine x_iadd K dX6_refused_5 ?_
  exact x_iret K hE rfl dX6_refused_6 (by decide) (by decide) rfl rfl
