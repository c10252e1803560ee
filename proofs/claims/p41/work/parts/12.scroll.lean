/-! ===== ScrollChecks$Scroll: reads ===== -/
theorem c4_hasRow {E : gE} {σ : gS} (i : Nat) (hi : i < 56) (a : Int) (hr : -2147483648 ≤ a ∧ a < 2147483648) (hf : 0 ≤ σ.1 3 i 4 ∧ σ.1 3 i 4 ≤ 48) : gCt E mX4_hasRow 1 0 [rf 3 i, iv a] σ (.inl (some (iv (gB1 (0 ≤ a ∧ a < σ.1 3 i 4))))) σ := by
  refine gCt_of (L := [some (rf 3 i), some (iv a)]) (by decide +kernel) rfl rfl (Nat.le_of_ble_eq_true rfl) (fun X K hE => ?_)
  refine x_iload_1 K dX4_hasRow_0 ?_
  refine x_if_lt (tgt := 16) K (by omega) dX4_hasRow_1 (by decide) (fun h1 => ?_) (fun h1 => ?_)
  · refine x_iconst K dX4_hasRow_16 ?_
    exact x_zret K hE rfl dX4_hasRow_17 (by decide) (by decide) (by omega) (by unfold gB1; split <;> omega) rfl
  · refine x_iload_1 K dX4_hasRow_4 ?_
    refine x_aload_0 K dX4_hasRow_5 ?_
    refine x_getI K gfRX4_28 ⟨by decide, hi⟩ dX4_hasRow_6 ?_
    refine x_icmp_ge (tgt := 16) K (by omega) dX4_hasRow_9 (by decide) (fun h9 => ?_) (fun h9 => ?_)
    · refine x_iconst K dX4_hasRow_16 ?_
      exact x_zret K hE rfl dX4_hasRow_17 (by decide) (by decide) (by omega) (by unfold gB1; split <;> omega) rfl
    · refine x_iconst K dX4_hasRow_12 ?_
      refine x_goto (tgt := 17) K dX4_hasRow_13 (by decide) ?_
      exact x_zret K hE rfl dX4_hasRow_17 (by decide) (by decide) (by omega) (by unfold gB1; split <;> omega) rfl
theorem c4_hasColumn {E : gE} {σ : gS} (i : Nat) (hi : i < 56) (a : Int) (hr : -2147483648 ≤ a ∧ a < 2147483648) (hf : 0 ≤ σ.1 3 i 5 ∧ σ.1 3 i 5 ≤ 48) : gCt E mX4_hasColumn 1 0 [rf 3 i, iv a] σ (.inl (some (iv (gB1 (0 ≤ a ∧ a < σ.1 3 i 5))))) σ := by
  refine gCt_of (L := [some (rf 3 i), some (iv a)]) (by decide +kernel) rfl rfl (Nat.le_of_ble_eq_true rfl) (fun X K hE => ?_)
  refine x_iload_1 K dX4_hasColumn_0 ?_
  refine x_if_lt (tgt := 16) K (by omega) dX4_hasColumn_1 (by decide) (fun h1 => ?_) (fun h1 => ?_)
  · refine x_iconst K dX4_hasColumn_16 ?_
    exact x_zret K hE rfl dX4_hasColumn_17 (by decide) (by decide) (by omega) (by unfold gB1; split <;> omega) rfl
  · refine x_iload_1 K dX4_hasColumn_4 ?_
    refine x_aload_0 K dX4_hasColumn_5 ?_
    refine x_getI K gfRX4_31 ⟨by decide, hi⟩ dX4_hasColumn_6 ?_
    refine x_icmp_ge (tgt := 16) K (by omega) dX4_hasColumn_9 (by decide) (fun h9 => ?_) (fun h9 => ?_)
    · refine x_iconst K dX4_hasColumn_16 ?_
      exact x_zret K hE rfl dX4_hasColumn_17 (by decide) (by decide) (by omega) (by unfold gB1; split <;> omega) rfl
    · refine x_iconst K dX4_hasColumn_12 ?_
      refine x_goto (tgt := 17) K dX4_hasColumn_13 (by decide) ?_
      exact x_zret K hE rfl dX4_hasColumn_17 (by decide) (by decide) (by omega) (by unfold gB1; split <;> omega) rfl
theorem c4_hasCell {E : gE} {σ : gS} (i : Nat) (hi : i < 56) (a b : Int) (hr : -2147483648 ≤ a ∧ a < 2147483648) (hr2 : -2147483648 ≤ b ∧ b < 2147483648) (hf : 0 ≤ σ.1 3 i 4 ∧ σ.1 3 i 4 ≤ 48) (hf2 : 0 ≤ σ.1 3 i 5 ∧ σ.1 3 i 5 ≤ 48) : gCt E mX4_hasCell 2 0 [rf 3 i, iv a, iv b] σ (.inl (some (iv (gB1 ((0 ≤ a ∧ a < σ.1 3 i 4) ∧ 0 ≤ b ∧ b < σ.1 3 i 5))))) σ := by
  refine gCt_of (L := [some (rf 3 i), some (iv a), some (iv b)]) (by decide +kernel) rfl rfl (Nat.le_of_ble_eq_true rfl) (fun X K hE => ?_)
  have b1 := gB1_bd (0 ≤ a ∧ a < σ.1 3 i 4)
  have b2 := gB1_bd (0 ≤ b ∧ b < σ.1 3 i 5)
  refine x_aload_0 K dX4_hasCell_0 ?_
  refine x_iload_1 K dX4_hasCell_1 ?_
  refine x_callV1 K (c4_hasRow i hi a hr hf) mtX4_hasRow miX4_hasRow rc3 ⟨by decide, hi⟩ lkRX4_52 ⟨by decide, by decide, by decide⟩ rfl (Nat.le_of_ble_eq_true rfl) dX4_hasCell_2 ?_
  refine x_if_eq (tgt := 20) K (by omega) dX4_hasCell_5 (by decide) (fun h5 => ?_) (fun h5 => ?_)
  · refine x_iconst K dX4_hasCell_20 ?_
    exact x_zret K hE rfl dX4_hasCell_21 (by decide) (by decide) (by omega) (by unfold gB1 at *; split <;> simp_all <;> omega) rfl
  · refine x_aload_0 K dX4_hasCell_8 ?_
    refine x_iload_2 K dX4_hasCell_9 ?_
    refine x_callV1 K (c4_hasColumn i hi b hr2 hf2) mtX4_hasColumn miX4_hasColumn rc3 ⟨by decide, hi⟩ lkRX4_56 ⟨by decide, by decide, by decide⟩ rfl (Nat.le_of_ble_eq_true rfl) dX4_hasCell_10 ?_
    refine x_if_eq (tgt := 20) K (by omega) dX4_hasCell_13 (by decide) (fun h13 => ?_) (fun h13 => ?_)
    · refine x_iconst K dX4_hasCell_20 ?_
      exact x_zret K hE rfl dX4_hasCell_21 (by decide) (by decide) (by omega) (by unfold gB1 at *; split <;> simp_all <;> omega) rfl
    · refine x_iconst K dX4_hasCell_16 ?_
      refine x_goto (tgt := 21) K dX4_hasCell_17 (by decide) ?_
      exact x_zret K hE rfl dX4_hasCell_21 (by decide) (by decide) (by omega) (by unfold gB1 at *; split <;> simp_all <;> omega) rfl
theorem c4_cells {E : gE} {σ : gS} (i : Nat) (hi : i < 56) : gCt E mX4_cells 1 0 [rf 3 i] σ (.inl (some (iv (σ.1 3 i 4 * σ.1 3 i 5)))) σ := by
  refine gCt_of (L := [some (rf 3 i)]) (by decide +kernel) rfl rfl (Nat.le_of_ble_eq_true rfl) (fun X K hE => ?_)
  refine x_aload_0 K dX4_cells_0 ?_
  refine x_getI K gfRX4_28 ⟨by decide, hi⟩ dX4_cells_1 ?_
  refine x_aload_0 K dX4_cells_4 ?_
  refine x_getI K gfRX4_31 ⟨by decide, hi⟩ dX4_cells_5 ?_
  refine x_imul K dX4_cells_8 ?_
  exact x_iret K hE rfl dX4_cells_9 (by decide) (by decide) rfl rfl
theorem c4_sign {E : gE} {σ : gS} (i : Nat) (hi : i < 56) (r c : Nat) (hr : r < 6) (hc : c < 8) : gCt E mX4_sign 2 0 [rf 3 i, iv (r : Int), iv (c : Int)] σ (.inl (some (iv (σ.1 4 i (8 * r + c))))) σ := by
  refine gCt_of (L := [some (rf 3 i), some (iv (r : Int)), some (iv (c : Int))]) (by decide +kernel) rfl rfl (Nat.le_of_ble_eq_true rfl) (fun X K hE => ?_)
  refine x_aload_0 K dX4_sign_0 ?_
  refine x_getR K gfRX4_9 ⟨by decide, hi⟩ dX4_sign_1 ?_
  refine x_iload_1 K dX4_sign_4 ?_
  refine x_bipush K dX4_sign_5 rfl ?_
  refine x_imul K dX4_sign_7 ?_
  refine x_iload_2 K dX4_sign_8 ?_
  refine x_iadd K dX4_sign_9 ?_
  refine gWX.top (b := ((8 * r + c : Nat) : Int)) (by omega) ?_
  refine x_callS2 K (c6_entry (k := 4) (i := i) rfl ⟨by decide, hi⟩ (8 * r + c) (by omega)) mtX6_entry msX6_entry lkRX4_59 ⟨by decide, by decide, by decide⟩ rfl (Nat.le_of_ble_eq_true rfl) dX4_sign_10 ?_
  exact x_iret K hE rfl dX4_sign_13 (by decide) (by decide) rfl rfl
theorem c4_isSmudged {E : gE} {σ : gS} (i : Nat) (hi : i < 56) (r c : Nat) (hr : r < 6) (hc : c < 8) (he : -1 ≤ σ.1 4 i (8 * r + c) ∧ σ.1 4 i (8 * r + c) ≤ 9) : gCt E mX4_isSmudged 3 0 [rf 3 i, iv (r : Int), iv (c : Int)] σ (.inl (some (iv (gB1 (σ.1 4 i (8 * r + c) = -1))))) σ := by
  refine gCt_of (L := [some (rf 3 i), some (iv (r : Int)), some (iv (c : Int))]) (by decide +kernel) rfl rfl (Nat.le_of_ble_eq_true rfl) (fun X K hE => ?_)
  refine x_aload_0 K dX4_isSmudged_0 ?_
  refine x_iload_1 K dX4_isSmudged_1 ?_
  refine x_iload_2 K dX4_isSmudged_2 ?_
  refine x_callV2 K (c4_sign i hi r c hr hc) mtX4_sign miX4_sign rc3 ⟨by decide, hi⟩ lkRX4_63 ⟨by decide, by decide, by decide⟩ rfl (Nat.le_of_ble_eq_true rfl) dX4_isSmudged_3 ?_
  refine x_iconst K dX4_isSmudged_6 ?_
  refine x_icmp_ne (tgt := 14) K (by omega) dX4_isSmudged_7 (by decide) (fun h7 => ?_) (fun h7 => ?_)
  · refine x_iconst K dX4_isSmudged_14 ?_
    exact x_zret K hE rfl dX4_isSmudged_15 (by decide) (by decide) (by omega) (by unfold gB1; split <;> omega) rfl
  · refine x_iconst K dX4_isSmudged_10 ?_
    refine x_goto (tgt := 15) K dX4_isSmudged_11 (by decide) ?_
    exact x_zret K hE rfl dX4_isSmudged_15 (by decide) (by decide) (by omega) (by unfold gB1; split <;> omega) rfl
theorem c4_setSign {E : gE} {σ : gS} (i : Nat) (hi : i < 56) (r c : Nat) (hr : r < 6) (hc : c < 8) (s : Int) (he : -1 ≤ σ.1 4 i (8 * r + c) ∧ σ.1 4 i (8 * r + c) ≤ 9) (hs : -1 ≤ s ∧ s ≤ 9) : gCt E mX4_setSign 2 0 [rf 3 i, iv (r : Int), iv (c : Int), iv s] σ (.inl none) (gSetS σ i r c s) := by
  refine gCt_of (L := [some (rf 3 i), some (iv (r : Int)), some (iv (c : Int)), some (iv s), none, none, none, none]) (by decide +kernel) rfl rfl (Nat.le_of_ble_eq_true rfl) (fun X K hE => ?_)
  refine x_iload_1 K dX4_setSign_0 ?_
  refine x_bipush K dX4_setSign_1 rfl ?_
  refine x_imul K dX4_setSign_3 ?_
  refine x_iload_2 K dX4_setSign_4 ?_
  refine x_iadd K dX4_setSign_5 ?_
  refine gWX.top (b := ((8 * r + c : Nat) : Int)) (by omega) ?_
  refine x_istore_4 K dX4_setSign_6 rfl ?_
  refine x_aload_0 K dX4_setSign_8 ?_
  refine x_getR K gfRX4_9 ⟨by decide, hi⟩ dX4_setSign_9 ?_
  refine x_iload_4 K dX4_setSign_12 ?_
  refine x_callS2 K (c6_entry (k := 4) (i := i) rfl ⟨by decide, hi⟩ (8 * r + c) (by omega)) mtX6_entry msX6_entry lkRX4_59 ⟨by decide, by decide, by decide⟩ rfl (Nat.le_of_ble_eq_true rfl) dX4_setSign_14 ?_
  refine x_istore_5 K dX4_setSign_17 rfl ?_
  refine x_iconst K dX4_setSign_19 ?_
  refine x_iload_3 K dX4_setSign_20 ?_
  refine x_mmax K rfl (by omega) lwRX4_67 g_max ⟨by decide, (Nat.le_of_ble_eq_true rfl)⟩ ⟨by decide, by decide⟩ dX4_setSign_21 ?_
  refine x_iconst K dX4_setSign_24 ?_
  refine x_iload_5 K dX4_setSign_25 ?_
  refine x_mmax K rfl (by omega) lwRX4_67 g_max ⟨by decide, (Nat.le_of_ble_eq_true rfl)⟩ ⟨by decide, by decide⟩ dX4_setSign_27 ?_
  refine x_isub K dX4_setSign_30 ?_
  refine x_istore_6 K dX4_setSign_31 rfl ?_
  refine x_iload_3 K dX4_setSign_33 ?_
  refine x_iconst K dX4_setSign_34 ?_
  refine gTernN (fun kt kf => x_icmp_ne (tgt := 42) K (by omega) dX4_setSign_35 (by decide) kt kf) (fun k => x_iconst K dX4_setSign_42 k) (fun k => x_iconst K dX4_setSign_38 (x_goto K dX4_setSign_39 (by decide) k)) ?_
  refine gWX.top (b := gB1 (s = -1)) rfl ?_
  refine x_iload_5 K dX4_setSign_43 ?_
  refine x_iconst K dX4_setSign_45 ?_
  refine gTernN (fun kt kf => x_icmp_ne (tgt := 53) K (by omega) dX4_setSign_46 (by decide) kt kf) (fun k => x_iconst K dX4_setSign_53 k) (fun k => x_iconst K dX4_setSign_49 (x_goto K dX4_setSign_50 (by decide) k)) ?_
  refine gWX.top (b := gB1 (σ.1 4 i (8 * r + c) = -1)) rfl ?_
  refine x_isub K dX4_setSign_54 ?_
  refine x_istore_7 K dX4_setSign_55 rfl ?_
  refine x_aload_0 K dX4_setSign_57 ?_
  refine x_getR K gfRX4_9 ⟨by decide, hi⟩ dX4_setSign_58 ?_
  refine x_iload_4 K dX4_setSign_61 ?_
  refine x_iload_3 K dX4_setSign_63 ?_
  refine x_callS3v K (c6_put (k := 4) (i := i) rfl ⟨by decide, hi⟩ (8 * r + c) (by omega) s) mtX6_put msX6_put lkRX4_72 ⟨by decide, by decide, by decide⟩ rfl (Nat.le_of_ble_eq_true rfl) dX4_setSign_64 ?_
  refine x_aload_0 K dX4_setSign_67 ?_
  refine x_getR K gfRX4_15 ⟨by decide, hi⟩ dX4_setSign_68 ?_
  refine x_iload_1 K dX4_setSign_71 ?_
  refine x_iload_6 K dX4_setSign_72 ?_
  refine x_callS3v K (c6_add (k := 5) (i := i) rfl ⟨by decide, hi⟩ (r) (by omega) (max 0 s - max 0 (σ.1 4 i (8 * r + c)))) mtX6_add msX6_add lkRX4_76 ⟨by decide, by decide, by decide⟩ rfl (Nat.le_of_ble_eq_true rfl) dX4_setSign_74 ?_
  refine x_aload_0 K dX4_setSign_77 ?_
  refine x_getR K gfRX4_15 ⟨by decide, hi⟩ dX4_setSign_78 ?_
  refine x_bipush K dX4_setSign_81 rfl ?_
  refine x_iload_2 K dX4_setSign_83 ?_
  refine x_iadd K dX4_setSign_84 ?_
  refine gWX.top (b := ((6 + c : Nat) : Int)) (by omega) ?_
  refine x_iload_6 K dX4_setSign_85 ?_
  refine x_callS3v K (c6_add (k := 5) (i := i) rfl ⟨by decide, hi⟩ (6 + c) (by omega) (max 0 s - max 0 (σ.1 4 i (8 * r + c)))) mtX6_add msX6_add lkRX4_76 ⟨by decide, by decide, by decide⟩ rfl (Nat.le_of_ble_eq_true rfl) dX4_setSign_87 ?_
  refine x_aload_0 K dX4_setSign_90 ?_
  refine x_getR K gfRX4_18 ⟨by decide, hi⟩ dX4_setSign_91 ?_
  refine x_iload_1 K dX4_setSign_94 ?_
  refine x_iload_7 K dX4_setSign_95 ?_
  refine x_callS3v K (c6_add (k := 6) (i := i) rfl ⟨by decide, hi⟩ (r) (by omega) (gB1 (s = -1) - gB1 (σ.1 4 i (8 * r + c) = -1))) mtX6_add msX6_add lkRX4_76 ⟨by decide, by decide, by decide⟩ rfl (Nat.le_of_ble_eq_true rfl) dX4_setSign_97 ?_
  refine x_aload_0 K dX4_setSign_100 ?_
  refine x_getR K gfRX4_18 ⟨by decide, hi⟩ dX4_setSign_101 ?_
  refine x_bipush K dX4_setSign_104 rfl ?_
  refine x_iload_2 K dX4_setSign_106 ?_
  refine x_iadd K dX4_setSign_107 ?_
  refine gWX.top (b := ((6 + c : Nat) : Int)) (by omega) ?_
  refine x_iload_7 K dX4_setSign_108 ?_
  refine x_callS3v K (c6_add (k := 6) (i := i) rfl ⟨by decide, hi⟩ (6 + c) (by omega) (gB1 (s = -1) - gB1 (σ.1 4 i (8 * r + c) = -1))) mtX6_add msX6_add lkRX4_76 ⟨by decide, by decide, by decide⟩ rfl (Nat.le_of_ble_eq_true rfl) dX4_setSign_110 ?_
  exact x_vret K hE rfl dX4_setSign_113 (by decide) (by decide) rfl
theorem c4_replaceSign {E : gE} {σ : gS} (i : Nat) (hi : i < 56) (r c : Nat) (hr : r < 6) (hc : c < 8) (s : Int) (he : -1 ≤ σ.1 4 i (8 * r + c) ∧ σ.1 4 i (8 * r + c) ≤ 9) (hs : -1 ≤ s ∧ s ≤ 9) : gCt E mX4_replaceSign 3 0 [rf 3 i, iv (r : Int), iv (c : Int), iv s] σ (.inl (some (iv (σ.1 4 i (8 * r + c))))) (gSetS σ i r c s) := by
  refine gCt_of (L := [some (rf 3 i), some (iv (r : Int)), some (iv (c : Int)), some (iv s), none]) (by decide +kernel) rfl rfl (Nat.le_of_ble_eq_true rfl) (fun X K hE => ?_)
  refine x_aload_0 K dX4_replaceSign_0 ?_
  refine x_iload_1 K dX4_replaceSign_1 ?_
  refine x_iload_2 K dX4_replaceSign_2 ?_
  refine x_callV2 K (c4_sign i hi r c hr hc) mtX4_sign miX4_sign rc3 ⟨by decide, hi⟩ lkRX4_63 ⟨by decide, by decide, by decide⟩ rfl (Nat.le_of_ble_eq_true rfl) dX4_replaceSign_3 ?_
  refine x_istore_4 K dX4_replaceSign_6 rfl ?_
  refine x_aload_0 K dX4_replaceSign_8 ?_
  refine x_iload_1 K dX4_replaceSign_9 ?_
  refine x_iload_2 K dX4_replaceSign_10 ?_
  refine x_iload_3 K dX4_replaceSign_11 ?_
  refine x_callV3v K (c4_setSign i hi r c hr hc s he hs) mtX4_setSign miX4_setSign rc3 ⟨by decide, hi⟩ lkRX4_79 ⟨by decide, by decide, by decide⟩ rfl (Nat.le_of_ble_eq_true rfl) dX4_replaceSign_12 ?_
  refine x_iload_4 K dX4_replaceSign_15 ?_
  exact x_iret K hE rfl dX4_replaceSign_17 (by decide) (by decide) rfl rfl
theorem c4_letSlip {E : gE} {σ : gS} (i : Nat) (hi : i < 56) (r c : Nat) (hr : r < 6) (hc : c < 8) (b : Int) (he : 0 ≤ σ.1 4 i (8 * r + c) ∧ σ.1 4 i (8 * r + c) ≤ 9) (hb : 0 ≤ b ∧ b ≤ 9) : gCt E mX4_letSlip 3 0 [rf 3 i, iv (r : Int), iv (c : Int), iv b] σ (.inl (some (iv ((σ.1 4 i (8 * r + c) + b) % 10)))) (gSetS σ i r c ((σ.1 4 i (8 * r + c) + b) % 10)) := by
  refine gCt_of (L := [some (rf 3 i), some (iv (r : Int)), some (iv (c : Int)), some (iv b), none]) (by decide +kernel) rfl rfl (Nat.le_of_ble_eq_true rfl) (fun X K hE => ?_)
  refine x_aload_0 K dX4_letSlip_0 ?_
  refine x_iload_1 K dX4_letSlip_1 ?_
  refine x_iload_2 K dX4_letSlip_2 ?_
  refine x_callV2 K (c4_sign i hi r c hr hc) mtX4_sign miX4_sign rc3 ⟨by decide, hi⟩ lkRX4_63 ⟨by decide, by decide, by decide⟩ rfl (Nat.le_of_ble_eq_true rfl) dX4_letSlip_3 ?_
  refine x_iload_3 K dX4_letSlip_6 ?_
  refine x_iadd K dX4_letSlip_7 ?_
  refine x_bipush K dX4_letSlip_8 rfl ?_
  refine x_irem K (by omega) dX4_letSlip_10 ?_
  refine x_istore_4 K dX4_letSlip_11 rfl ?_
  refine x_aload_0 K dX4_letSlip_13 ?_
  refine x_iload_1 K dX4_letSlip_14 ?_
  refine x_iload_2 K dX4_letSlip_15 ?_
  refine x_iload_4 K dX4_letSlip_16 ?_
  refine x_callV3v K (c4_setSign i hi r c hr hc _ (by omega) (by omega)) mtX4_setSign miX4_setSign rc3 ⟨by decide, hi⟩ lkRX4_79 ⟨by decide, by decide, by decide⟩ rfl (Nat.le_of_ble_eq_true rfl) dX4_letSlip_18 ?_
  refine x_iload_4 K dX4_letSlip_21 ?_
  exact x_iret K hE rfl dX4_letSlip_23 (by decide) (by decide) rfl rfl
theorem c4_toldSum {E : gE} {σ : gS} (i : Nat) (hi : i < 56) (b : Nat) (hb : b < 14) : gCt E mX4_toldSum 2 0 [rf 3 i, iv (b : Int)] σ (.inl (some (iv (σ.1 7 i b)))) σ := by
  refine gCt_of (L := [some (rf 3 i), some (iv (b : Int))]) (by decide +kernel) rfl rfl (Nat.le_of_ble_eq_true rfl) (fun X K hE => ?_)
  refine x_aload_0 K dX4_toldSum_0 ?_
  refine x_getR K gfRX4_21 ⟨by decide, hi⟩ dX4_toldSum_1 ?_
  refine x_iload_1 K dX4_toldSum_4 ?_
  refine x_callS2 K (c6_entry (k := 7) (i := i) rfl ⟨by decide, hi⟩ (b) (by omega)) mtX6_entry msX6_entry lkRX4_59 ⟨by decide, by decide, by decide⟩ rfl (Nat.le_of_ble_eq_true rfl) dX4_toldSum_5 ?_
  exact x_iret K hE rfl dX4_toldSum_8 (by decide) (by decide) rfl rfl
theorem c4_fault {E : gE} {σ : gS} (i : Nat) (hi : i < 56) (z : Nat → Int) (h : gScr σ i z) (hz : gZ z) (b : Nat) (hb : b < 14) : gCt E mX4_fault 2 0 [rf 3 i, iv (b : Int)] σ (.inl (some (iv (s_f z b)))) σ := by
  refine gCt_of (L := [some (rf 3 i), some (iv (b : Int))]) (by decide +kernel) rfl rfl (Nat.le_of_ble_eq_true rfl) (fun X K hE => ?_)
  have ⟨e0, e1, e2, e3, e4, e5, es, eb, em, et⟩ := h
  have ⟨q0, q1, q2, q3, q4, q5, q6, q7, q8⟩ := hz
  have b1 := eb b hb
  have b2 := et b hb
  have b3 := s_b_bd hz hb
  have b4 := q4 b hb
  refine x_aload_0 K dX4_fault_0 ?_
  refine x_getR K gfRX4_21 ⟨by decide, hi⟩ dX4_fault_1 ?_
  refine x_iload_1 K dX4_fault_4 ?_
  refine x_callS2 K (c6_entry (k := 7) (i := i) rfl ⟨by decide, hi⟩ (b) (by omega)) mtX6_entry msX6_entry lkRX4_59 ⟨by decide, by decide, by decide⟩ rfl (Nat.le_of_ble_eq_true rfl) dX4_fault_5 ?_
  refine x_aload_0 K dX4_fault_8 ?_
  refine x_getR K gfRX4_15 ⟨by decide, hi⟩ dX4_fault_9 ?_
  refine x_iload_1 K dX4_fault_12 ?_
  refine x_callS2 K (c6_entry (k := 5) (i := i) rfl ⟨by decide, hi⟩ (b) (by omega)) mtX6_entry msX6_entry lkRX4_59 ⟨by decide, by decide, by decide⟩ rfl (Nat.le_of_ble_eq_true rfl) dX4_fault_13 ?_
  refine x_bipush K dX4_fault_16 rfl ?_
  refine x_irem K (by omega) dX4_fault_18 ?_
  refine x_isub K dX4_fault_19 ?_
  refine x_bipush K dX4_fault_20 rfl ?_
  refine x_iadd K dX4_fault_22 ?_
  refine x_bipush K dX4_fault_23 rfl ?_
  refine x_irem K (by omega) dX4_fault_25 ?_
  exact x_iret K hE rfl dX4_fault_26 (by decide) (by decide) (by unfold s_f; rw [b1, b2]) rfl
theorem c4_isWrong {E : gE} {σ : gS} (i : Nat) (hi : i < 56) (z : Nat → Int) (h : gScr σ i z) (hz : gZ z) (b : Nat) (hb : b < 14) : gCt E mX4_isWrong 2 0 [rf 3 i, iv (b : Int)] σ (.inl (some (iv (gB1 (s_w z b = true))))) σ := by
  refine gCt_of (L := [some (rf 3 i), some (iv (b : Int))]) (by decide +kernel) rfl rfl (Nat.le_of_ble_eq_true rfl) (fun X K hE => ?_)
  have ⟨e0, e1, e2, e3, e4, e5, es, eb, em, et⟩ := h
  have ⟨q0, q1, q2, q3, q4, q5, q6, q7, q8⟩ := hz
  have b1 := eb b hb
  have b2 := et b hb
  have b3 := s_b_bd hz hb
  have b4 := q4 b hb
  have b5 := em b hb
  have b6 := s_m_bd z b
  have b7 : s_w z b = true ↔ (z 2 = 1 ∧ s_m z b = 0 ∧ z (6 + b) ≠ s_b z b % 10) := by unfold s_w; exact decide_eq_true_iff
  refine x_aload_0 K dX4_isWrong_0 ?_
  refine x_getI K gfRX4_34 ⟨by decide, hi⟩ dX4_isWrong_1 ?_
  refine x_if_eq (tgt := 44) K (by omega) dX4_isWrong_4 (by decide) (fun h4 => ?_) (fun h4 => ?_)
  · refine x_iconst K dX4_isWrong_44 ?_
    exact x_zret K hE rfl dX4_isWrong_45 (by decide) (by decide) (by omega) (by rw [gB1_iff b7]; unfold gB1; split <;> omega) rfl
  · refine x_aload_0 K dX4_isWrong_7 ?_
    refine x_getR K gfRX4_18 ⟨by decide, hi⟩ dX4_isWrong_8 ?_
    refine x_iload_1 K dX4_isWrong_11 ?_
    refine x_callS2 K (c6_entry (k := 6) (i := i) rfl ⟨by decide, hi⟩ (b) (by omega)) mtX6_entry msX6_entry lkRX4_59 ⟨by decide, by decide, by decide⟩ rfl (Nat.le_of_ble_eq_true rfl) dX4_isWrong_12 ?_
    refine x_if_ne (tgt := 44) K (by omega) dX4_isWrong_15 (by decide) (fun h15 => ?_) (fun h15 => ?_)
    · refine x_iconst K dX4_isWrong_44 ?_
      exact x_zret K hE rfl dX4_isWrong_45 (by decide) (by decide) (by omega) (by rw [gB1_iff b7]; unfold gB1; split <;> omega) rfl
    · refine x_aload_0 K dX4_isWrong_18 ?_
      refine x_getR K gfRX4_21 ⟨by decide, hi⟩ dX4_isWrong_19 ?_
      refine x_iload_1 K dX4_isWrong_22 ?_
      refine x_callS2 K (c6_entry (k := 7) (i := i) rfl ⟨by decide, hi⟩ (b) (by omega)) mtX6_entry msX6_entry lkRX4_59 ⟨by decide, by decide, by decide⟩ rfl (Nat.le_of_ble_eq_true rfl) dX4_isWrong_23 ?_
      refine x_aload_0 K dX4_isWrong_26 ?_
      refine x_getR K gfRX4_15 ⟨by decide, hi⟩ dX4_isWrong_27 ?_
      refine x_iload_1 K dX4_isWrong_30 ?_
      refine x_callS2 K (c6_entry (k := 5) (i := i) rfl ⟨by decide, hi⟩ (b) (by omega)) mtX6_entry msX6_entry lkRX4_59 ⟨by decide, by decide, by decide⟩ rfl (Nat.le_of_ble_eq_true rfl) dX4_isWrong_31 ?_
      refine x_bipush K dX4_isWrong_34 rfl ?_
      refine x_irem K (by omega) dX4_isWrong_36 ?_
      refine x_icmp_eq (tgt := 44) K (by omega) dX4_isWrong_37 (by decide) (fun h37 => ?_) (fun h37 => ?_)
      · refine x_iconst K dX4_isWrong_44 ?_
        exact x_zret K hE rfl dX4_isWrong_45 (by decide) (by decide) (by omega) (by rw [gB1_iff b7]; unfold gB1; split <;> omega) rfl
      · refine x_iconst K dX4_isWrong_40 ?_
        refine x_goto (tgt := 45) K dX4_isWrong_41 (by decide) ?_
        exact x_zret K hE rfl dX4_isWrong_45 (by decide) (by decide) (by omega) (by rw [gB1_iff b7]; unfold gB1; split <;> omega) rfl
theorem c4_smudgedCells {E : gE} {σ : gS} (i : Nat) (hi : i < 56) (z : Nat → Int) (h : gScr σ i z) (hz : gZ z) : gCt E mX4_smudgedCells 2 0 [rf 3 i] σ (.inl (some (iv (s_sm z)))) σ := by
  refine gCt_of (L := [some (rf 3 i), none, none]) (by decide +kernel) rfl rfl (Nat.le_of_ble_eq_true rfl) (fun X K hE => ?_)
  have ⟨e0, e1, e2, e3, e4, e5, es, eb, em, et⟩ := h
  have ⟨q0, q1, q2, q3, q4, q5, q6, q7, q8⟩ := hz
  refine x_iconst K dX4_smudgedCells_0 ?_
  refine x_istore_1 K dX4_smudgedCells_1 rfl ?_
  refine x_iconst K dX4_smudgedCells_2 ?_
  refine x_istore_2 K dX4_smudgedCells_3 rfl ?_
  refine gLp (P := fun r : Nat => gWX X E 0 0 4 [some (rf 3 i), some (iv (gSum (s_m z) r)), some (iv (r : Int))] [] (σ)) ((z 0).toNat) (fun k0 => ?_) (fun r hr ih => ?_) ?_
  · exact gWX.to rfl rfl (k0)
  · refine x_iload_2 K dX4_smudgedCells_4 ?_
    refine x_aload_0 K dX4_smudgedCells_5 ?_
    refine x_getI K gfRX4_28 ⟨by decide, hi⟩ dX4_smudgedCells_6 ?_
    refine x_icmp_ge (tgt := 29) K (by omega) dX4_smudgedCells_9 (by decide) (fun h9 => absurd h9 (by omega)) (fun h9 => ?_)
    refine x_iload_1 K dX4_smudgedCells_12 ?_
    refine x_aload_0 K dX4_smudgedCells_13 ?_
    refine x_getR K gfRX4_18 ⟨by decide, hi⟩ dX4_smudgedCells_14 ?_
    refine x_iload_2 K dX4_smudgedCells_17 ?_
    refine x_callS2 K (c6_entry (k := 6) (i := i) rfl ⟨by decide, hi⟩ (r) (by omega)) mtX6_entry msX6_entry lkRX4_59 ⟨by decide, by decide, by decide⟩ rfl (Nat.le_of_ble_eq_true rfl) dX4_smudgedCells_18 ?_
    refine gWX.top (b := s_m z r) (em r (by omega)) ?_
    refine x_iadd K dX4_smudgedCells_21 ?_
    refine x_istore_1 K dX4_smudgedCells_22 rfl ?_
    refine x_iinc_2 K dX4_smudgedCells_23 rfl ?_
    refine x_goto (tgt := 4) K dX4_smudgedCells_26 (by decide) ?_
    exact gWX.to rfl rfl (ih)
  · refine x_iload_2 K dX4_smudgedCells_4 ?_
    refine x_aload_0 K dX4_smudgedCells_5 ?_
    refine x_getI K gfRX4_28 ⟨by decide, hi⟩ dX4_smudgedCells_6 ?_
    refine x_icmp_ge (tgt := 29) K (by omega) dX4_smudgedCells_9 (by decide) (fun h9 => ?_) (fun h9 => absurd h9 (by omega))
    refine x_iload_1 K dX4_smudgedCells_29 ?_
    exact x_iret K hE rfl dX4_smudgedCells_30 (by decide) (by decide) rfl rfl
theorem c4_allSigns {E : gE} {σ : gS} (i : Nat) (hi : i < 56) (z : Nat → Int) (h : gScr σ i z) (hz : gZ z) : gCt E mX4_allSigns 2 0 [rf 3 i] σ (.inl (some (iv (gSum (s_b z) (z 0).toNat)))) σ := by
  refine gCt_of (L := [some (rf 3 i), none, none]) (by decide +kernel) rfl rfl (Nat.le_of_ble_eq_true rfl) (fun X K hE => ?_)
  have ⟨e0, e1, e2, e3, e4, e5, es, eb, em, et⟩ := h
  have ⟨q0, q1, q2, q3, q4, q5, q6, q7, q8⟩ := hz
  refine x_iconst K dX4_allSigns_0 ?_
  refine x_istore_1 K dX4_allSigns_1 rfl ?_
  refine x_iconst K dX4_allSigns_2 ?_
  refine x_istore_2 K dX4_allSigns_3 rfl ?_
  refine gLp (P := fun r : Nat => gWX X E 0 0 4 [some (rf 3 i), some (iv (gSum (s_b z) r)), some (iv (r : Int))] [] (σ)) ((z 0).toNat) (fun k0 => ?_) (fun r hr ih => ?_) ?_
  · exact gWX.to rfl rfl (k0)
  · refine x_iload_2 K dX4_allSigns_4 ?_
    refine x_aload_0 K dX4_allSigns_5 ?_
    refine x_getI K gfRX4_28 ⟨by decide, hi⟩ dX4_allSigns_6 ?_
    refine x_icmp_ge (tgt := 29) K (by omega) dX4_allSigns_9 (by decide) (fun h9 => absurd h9 (by omega)) (fun h9 => ?_)
    refine x_iload_1 K dX4_allSigns_12 ?_
    refine x_aload_0 K dX4_allSigns_13 ?_
    refine x_getR K gfRX4_15 ⟨by decide, hi⟩ dX4_allSigns_14 ?_
    refine x_iload_2 K dX4_allSigns_17 ?_
    refine x_callS2 K (c6_entry (k := 5) (i := i) rfl ⟨by decide, hi⟩ (r) (by omega)) mtX6_entry msX6_entry lkRX4_59 ⟨by decide, by decide, by decide⟩ rfl (Nat.le_of_ble_eq_true rfl) dX4_allSigns_18 ?_
    refine gWX.top (b := s_b z r) (eb r (by omega)) ?_
    refine x_iadd K dX4_allSigns_21 ?_
    refine x_istore_1 K dX4_allSigns_22 rfl ?_
    refine x_iinc_2 K dX4_allSigns_23 rfl ?_
    refine x_goto (tgt := 4) K dX4_allSigns_26 (by decide) ?_
    exact gWX.to rfl rfl (ih)
  · refine x_iload_2 K dX4_allSigns_4 ?_
    refine x_aload_0 K dX4_allSigns_5 ?_
    refine x_getI K gfRX4_28 ⟨by decide, hi⟩ dX4_allSigns_6 ?_
    refine x_icmp_ge (tgt := 29) K (by omega) dX4_allSigns_9 (by decide) (fun h9 => ?_) (fun h9 => absurd h9 (by omega))
    refine x_iload_1 K dX4_allSigns_29 ?_
    exact x_iret K hE rfl dX4_allSigns_30 (by decide) (by decide) rfl rfl
theorem c4_rowsWrong {E : gE} {σ : gS} (i : Nat) (hi : i < 56) (z : Nat → Int) (h : gScr σ i z) (hz : gZ z) : gCt E mX4_rowsWrong 3 0 [rf 3 i] σ (.inl (some (iv (s_wr z)))) σ := by
  refine gCt_of (L := [some (rf 3 i), none, none]) (by decide +kernel) rfl rfl (Nat.le_of_ble_eq_true rfl) (fun X K hE => ?_)
  refine x_iconst K dX4_rowsWrong_0 ?_
  refine x_istore_1 K dX4_rowsWrong_1 rfl ?_
  refine x_iconst K dX4_rowsWrong_2 ?_
  refine x_istore_2 K dX4_rowsWrong_3 rfl ?_
  refine gLp (P := fun b : Nat => gWX X E 0 0 4 [some (rf 3 i), some (iv (gSum (fun b => gB1 (s_w z b = true)) b)), some (iv (b : Int))] [] (σ)) (6) (fun k0 => ?_) (fun b hb ih => ?_) ?_
  · exact gWX.to rfl rfl (k0)
  · refine x_iload_2 K dX4_rowsWrong_4 ?_
    refine x_bipush K dX4_rowsWrong_5 rfl ?_
    refine x_icmp_ge (tgt := 32) K (by omega) dX4_rowsWrong_7 (by decide) (fun h7 => absurd h7 (by omega)) (fun h7 => ?_)
    refine x_iload_1 K dX4_rowsWrong_10 ?_
    refine x_aload_0 K dX4_rowsWrong_11 ?_
    refine x_iload_2 K dX4_rowsWrong_12 ?_
    refine x_callV1 K (c4_isWrong i hi z h hz b (by omega)) mtX4_isWrong miX4_isWrong rc3 ⟨by decide, hi⟩ lkRX4_97 ⟨by decide, by decide, by decide⟩ rfl (Nat.le_of_ble_eq_true rfl) dX4_rowsWrong_13 ?_
    have b9 := gB1_bd (s_w z b = true)
    refine gTern (fun kt kf => x_if_eq (tgt := 23) K (by omega) dX4_rowsWrong_16 (by decide) kt kf) (fun k => x_iconst K dX4_rowsWrong_23 k) (fun k => x_iconst K dX4_rowsWrong_19 (x_goto K dX4_rowsWrong_20 (by decide) k)) ?_
    refine gWX.top (b := gB1 (s_w z b = true)) (by unfold gB1; split <;> split <;> simp_all) ?_
    refine x_iadd K dX4_rowsWrong_24 ?_
    refine x_istore_1 K dX4_rowsWrong_25 rfl ?_
    refine x_iinc_2 K dX4_rowsWrong_26 rfl ?_
    refine x_goto (tgt := 4) K dX4_rowsWrong_29 (by decide) ?_
    exact gWX.to rfl rfl (ih)
  · refine x_iload_2 K dX4_rowsWrong_4 ?_
    refine x_bipush K dX4_rowsWrong_5 rfl ?_
    refine x_icmp_ge (tgt := 32) K (by omega) dX4_rowsWrong_7 (by decide) (fun h7 => ?_) (fun h7 => absurd h7 (by omega))
    refine x_iload_1 K dX4_rowsWrong_32 ?_
    exact x_iret K hE rfl dX4_rowsWrong_33 (by decide) (by decide) rfl rfl
theorem c4_columnsWrong {E : gE} {σ : gS} (i : Nat) (hi : i < 56) (z : Nat → Int) (h : gScr σ i z) (hz : gZ z) : gCt E mX4_columnsWrong 3 0 [rf 3 i] σ (.inl (some (iv (s_wc z)))) σ := by
  refine gCt_of (L := [some (rf 3 i), none, none]) (by decide +kernel) rfl rfl (Nat.le_of_ble_eq_true rfl) (fun X K hE => ?_)
  refine x_iconst K dX4_columnsWrong_0 ?_
  refine x_istore_1 K dX4_columnsWrong_1 rfl ?_
  refine x_bipush K dX4_columnsWrong_2 rfl ?_
  refine x_istore_2 K dX4_columnsWrong_4 rfl ?_
  refine gLp (P := fun b : Nat => gWX X E 0 0 5 [some (rf 3 i), some (iv (gSum (fun b => gB1 (s_w z (6 + b) = true)) b)), some (iv ((6 + b : Nat) : Int))] [] (σ)) (8) (fun k0 => ?_) (fun b hb ih => ?_) ?_
  · exact gWX.to rfl rfl (k0)
  · refine x_iload_2 K dX4_columnsWrong_5 ?_
    refine x_bipush K dX4_columnsWrong_6 rfl ?_
    refine x_icmp_ge (tgt := 33) K (by omega) dX4_columnsWrong_8 (by decide) (fun h8 => absurd h8 (by omega)) (fun h8 => ?_)
    refine x_iload_1 K dX4_columnsWrong_11 ?_
    refine x_aload_0 K dX4_columnsWrong_12 ?_
    refine x_iload_2 K dX4_columnsWrong_13 ?_
    refine x_callV1 K (c4_isWrong i hi z h hz (6 + b) (by omega)) mtX4_isWrong miX4_isWrong rc3 ⟨by decide, hi⟩ lkRX4_97 ⟨by decide, by decide, by decide⟩ rfl (Nat.le_of_ble_eq_true rfl) dX4_columnsWrong_14 ?_
    have b9 := gB1_bd (s_w z (6 + b) = true)
    refine gTern (fun kt kf => x_if_eq (tgt := 24) K (by omega) dX4_columnsWrong_17 (by decide) kt kf) (fun k => x_iconst K dX4_columnsWrong_24 k) (fun k => x_iconst K dX4_columnsWrong_20 (x_goto K dX4_columnsWrong_21 (by decide) k)) ?_
    refine gWX.top (b := gB1 (s_w z (6 + b) = true)) (by unfold gB1; split <;> split <;> simp_all) ?_
    refine x_iadd K dX4_columnsWrong_25 ?_
    refine x_istore_1 K dX4_columnsWrong_26 rfl ?_
    refine x_iinc_2 K dX4_columnsWrong_27 rfl ?_
    refine x_goto (tgt := 5) K dX4_columnsWrong_30 (by decide) ?_
    exact gWX.to rfl rfl (ih)
  · refine x_iload_2 K dX4_columnsWrong_5 ?_
    refine x_bipush K dX4_columnsWrong_6 rfl ?_
    refine x_icmp_ge (tgt := 33) K (by omega) dX4_columnsWrong_8 (by decide) (fun h8 => ?_) (fun h8 => absurd h8 (by omega))
    refine x_iload_1 K dX4_columnsWrong_33 ?_
    exact x_iret K hE rfl dX4_columnsWrong_34 (by decide) (by decide) rfl rfl
theorem c4_firstWrongFrom {E : gE} {σ : gS} (i : Nat) (hi : i < 56) (z : Nat → Int) (h : gScr σ i z) (hz : gZ z) (a : Nat) (ha : a ≤ 14) : gCt E mX4_firstWrongFrom 3 0 [rf 3 i, iv (a : Int)] σ (.inl (some (iv (s_fw z a)))) σ := by
  refine gCt_of (L := [some (rf 3 i), some (iv (a : Int)), none]) (by decide +kernel) rfl rfl (Nat.le_of_ble_eq_true rfl) (fun X K hE => ?_)
  refine x_iload_1 K dX4_firstWrongFrom_0 ?_
  refine x_istore_2 K dX4_firstWrongFrom_1 rfl ?_
  refine gLp (P := fun k : Nat => (s_fw z a = gFst (s_w z) (a + k) (14 - a - k)) → gWX X E 0 0 2 [some (rf 3 i), some (iv (a : Int)), some (iv ((a + k : Nat) : Int))] [] (σ)) (14 - a) (fun k0 => ?_) (fun k hk ih => ?_) ?_
  · exact gWX.to rfl rfl (k0 rfl)
  · intro hy
    rw [show 14 - a - k = (14 - a - (k + 1)) + 1 by omega] at hy
    unfold gFst at hy
    refine x_iload_2 K dX4_firstWrongFrom_2 ?_
    refine x_bipush K dX4_firstWrongFrom_3 rfl ?_
    refine x_icmp_ge (tgt := 24) K (by omega) dX4_firstWrongFrom_5 (by decide) (fun h5 => absurd h5 (by omega)) (fun h5 => ?_)
    refine x_aload_0 K dX4_firstWrongFrom_8 ?_
    refine x_iload_2 K dX4_firstWrongFrom_9 ?_
    refine x_callV1 K (c4_isWrong i hi z h hz (a + k) (by omega)) mtX4_isWrong miX4_isWrong rc3 ⟨by decide, hi⟩ lkRX4_97 ⟨by decide, by decide, by decide⟩ rfl (Nat.le_of_ble_eq_true rfl) dX4_firstWrongFrom_10 ?_
    have b9 := gB1_bd (s_w z (a + k) = true)
    refine x_if_eq (tgt := 18) K (by omega) dX4_firstWrongFrom_13 (by decide) (fun h13 => ?_) (fun h13 => ?_)
    · have hw : ¬ s_w z (a + k) = true := fun q => by rw [gB1_t q] at h13; omega
      rw [if_neg hw] at hy
      have hy2 : s_fw z a = gFst (s_w z) (a + (k + 1)) (14 - a - (k + 1)) := hy
      refine x_iinc_2 K dX4_firstWrongFrom_18 rfl ?_
      refine x_goto (tgt := 2) K dX4_firstWrongFrom_21 (by decide) ?_
      exact gWX.to rfl rfl (ih hy2)
    · have hw : s_w z (a + k) = true := Classical.byContradiction (fun q => h13 (gB1_f q))
      rw [if_pos hw] at hy
      refine x_iload_2 K dX4_firstWrongFrom_16 ?_
      exact x_iret K hE rfl dX4_firstWrongFrom_17 (by decide) (by decide) hy.symm rfl
  · intro hy
    rw [show 14 - a - (14 - a) = 0 by omega] at hy
    refine x_iload_2 K dX4_firstWrongFrom_2 ?_
    refine x_bipush K dX4_firstWrongFrom_3 rfl ?_
    refine x_icmp_ge (tgt := 24) K (by omega) dX4_firstWrongFrom_5 (by decide) (fun h5 => ?_) (fun h5 => absurd h5 (by omega))
    refine x_iconst K dX4_firstWrongFrom_24 ?_
    exact x_iret K hE rfl dX4_firstWrongFrom_25 (by decide) (by decide) hy.symm rfl
theorem c4_isAllRight {E : gE} {σ : gS} (i : Nat) (hi : i < 56) (z : Nat → Int) (h : gScr σ i z) (hz : gZ z) : gCt E mX4_isAllRight 4 0 [rf 3 i] σ (.inl (some (iv (gB1 (s_fw z 0 = -1))))) σ := by
  refine gCt_of (L := [some (rf 3 i)]) (by decide +kernel) rfl rfl (Nat.le_of_ble_eq_true rfl) (fun X K hE => ?_)
  have b1 := gFst_bd (s_w z) (14 - 0) 0
  refine x_aload_0 K dX4_isAllRight_0 ?_
  refine x_iconst K dX4_isAllRight_1 ?_
  refine x_callV1 K (c4_firstWrongFrom i hi z h hz 0 (by omega)) mtX4_firstWrongFrom miX4_firstWrongFrom rc3 ⟨by decide, hi⟩ lkRX4_100 ⟨by decide, by decide, by decide⟩ rfl (Nat.le_of_ble_eq_true rfl) dX4_isAllRight_2 ?_
  refine x_iconst K dX4_isAllRight_5 ?_
  refine x_icmp_ne (tgt := 13) K (by unfold s_fw; omega) dX4_isAllRight_6 (by decide) (fun h6 => ?_) (fun h6 => ?_)
  · refine x_iconst K dX4_isAllRight_13 ?_
    exact x_zret K hE rfl dX4_isAllRight_14 (by decide) (by decide) (by omega) (by unfold gB1; split <;> omega) rfl
  · refine x_iconst K dX4_isAllRight_9 ?_
    refine x_goto (tgt := 14) K dX4_isAllRight_10 (by decide) ?_
    exact x_zret K hE rfl dX4_isAllRight_14 (by decide) (by decide) (by omega) (by unfold gB1; split <;> omega) rfl
