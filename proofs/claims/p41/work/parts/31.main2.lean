/-! ===== ScrollChecks: trying, ranks, texts ===== -/
theorem c6_mendAgain_1 {E : gE} {σ : gS} (Y : Nat → Int) (h : gSh σ 0 Y) (hY : gY Y) (s : Int) (hs : -2147483648 ≤ s ∧ s < 2147483648) (hh : ¬ gHit Y s) : gCt E mX6_mendAgain 12 1 [rf 0 0, iv s] σ (.inr "java/lang/IndexOutOfBoundsException") σ := by
  refine gCt_of (L := [some (rf 0 0), some (iv s), none, none]) (by decide +kernel) rfl rfl (Nat.le_of_ble_eq_true rfl) (fun X K hE => ?_)
  refine x_aload_0 K dX6_mendAgain_0 ?_
  refine x_iload_1 K dX6_mendAgain_1 ?_
  refine x_callV1x K (c6_existing_x Y h hY s hs hh) mtX6_existing miX6_existing rc0 ⟨by decide, (by decide)⟩ lkRX6_64 ⟨by decide, by decide, by decide⟩ rfl (Nat.le_of_ble_eq_true rfl) dX6_mendAgain_2 hE
theorem c6_mendAgain_2 {E : gE} {σ : gS} (Y : Nat → Int) (h : gSh σ 0 Y) (hY : gY Y) (s : Int) (hs : -2147483648 ≤ s ∧ s < 2147483648) (hh : gHit Y s) (hz2 : zb Y s.toNat 2 = 0) : gCt E mX6_mendAgain 12 1 [rf 0 0, iv s] σ (.inr "java/util/NoSuchElementException") σ := by
  refine gCt_of (L := [some (rf 0 0), some (iv s), none, none]) (by decide +kernel) rfl rfl (Nat.le_of_ble_eq_true rfl) (fun X K hE => ?_)
  have hY0 := hY.1
  have hi : 5 * 0 + s.toNat < 56 := by omega
  have hz := hY.2 s.toNat (by omega)
  have hgs := h.2 s.toNat (by omega)
  have ⟨e0, e1, e2, e3, e4, e5, es, eb, em, et⟩ := hgs
  have ⟨z0, z1, z2, z3, _⟩ := hz
  have hz6 : σ.1 3 (5 * 0 + s.toNat) 6 = 0 := e2.trans hz2
  refine x_aload_0 K dX6_mendAgain_0 ?_
  refine x_iload_1 K dX6_mendAgain_1 ?_
  refine x_callV1 K (c6_existing Y h hY s hh) mtX6_existing miX6_existing rc0 ⟨by decide, (by decide)⟩ lkRX6_64 ⟨by decide, by decide, by decide⟩ rfl (Nat.le_of_ble_eq_true rfl) dX6_mendAgain_2 ?_
  refine x_callS1x K (c6_onlySealed_x (5 * 0 + s.toNat) hi hz6) mtX6_onlySealed msX6_onlySealed lkRX6_125 ⟨by decide, by decide, by decide⟩ rfl (Nat.le_of_ble_eq_true rfl) dX6_mendAgain_5 hE
theorem c6_mendAgain_3 {E : gE} {σ : gS} (Y : Nat → Int) (h : gSh σ 0 Y) (hY : gY Y) (s : Int) (hs : -2147483648 ≤ s ∧ s < 2147483648) (hh : gHit Y s) (hz2 : zb Y s.toNat 2 = 1) (hbad : 0 < s_sm (zb Y s.toNat) ∨ s_fw (zb Y s.toNat) 0 = -1) : gCt E mX6_mendAgain 12 1 [rf 0 0, iv s] σ (.inr "java/util/NoSuchElementException") σ := by
  refine gCt_of (L := [some (rf 0 0), some (iv s), none, none]) (by decide +kernel) rfl rfl (Nat.le_of_ble_eq_true rfl) (fun X K hE => ?_)
  have hY0 := hY.1
  have hi : 5 * 0 + s.toNat < 56 := by omega
  have hz := hY.2 s.toNat (by omega)
  have hgs := h.2 s.toNat (by omega)
  have ⟨e0, e1, e2, e3, e4, e5, es, eb, em, et⟩ := hgs
  have ⟨z0, z1, z2, z3, _⟩ := hz
  have hz6 : σ.1 3 (5 * 0 + s.toNat) 6 = 1 := e2.trans hz2
  have bsm := s_sm_bd hz
  have bfw := gB1_bd (s_fw (zb Y s.toNat) 0 = -1)
  refine x_aload_0 K dX6_mendAgain_0 ?_
  refine x_iload_1 K dX6_mendAgain_1 ?_
  refine x_callV1 K (c6_existing Y h hY s hh) mtX6_existing miX6_existing rc0 ⟨by decide, (by decide)⟩ lkRX6_64 ⟨by decide, by decide, by decide⟩ rfl (Nat.le_of_ble_eq_true rfl) dX6_mendAgain_2 ?_
  refine x_callS1 K (c6_onlySealed (5 * 0 + s.toNat) hi hz6) mtX6_onlySealed msX6_onlySealed lkRX6_125 ⟨by decide, by decide, by decide⟩ rfl (Nat.le_of_ble_eq_true rfl) dX6_mendAgain_5 ?_
  refine x_astore_2 K dX6_mendAgain_8 rfl ?_
  refine x_aload_2 K dX6_mendAgain_9 ?_
  refine x_callV0 K (c4_smudgedCells (5 * 0 + s.toNat) hi (zb Y s.toNat) hgs hz) mtX4_smudgedCells miX4_smudgedCells rc3 ⟨by decide, hi⟩ lkRX6_81 ⟨by decide, by decide, by decide⟩ rfl (Nat.le_of_ble_eq_true rfl) dX6_mendAgain_10 ?_
  refine x_if_gt (tgt := 23) K (by omega) dX6_mendAgain_13 (by decide) (fun h13 => ?_) (fun h13 => ?_)
  · exact x_throwN K gThN gTxt_173 hE rfl ⟨by decide, (Nat.le_of_ble_eq_true rfl)⟩ (by decide) (by decide) dX6_mendAgain_23 dX6_mendAgain_26 dX6_mendAgain_27 dX6_mendAgain_29 dX6_mendAgain_32
  · refine x_aload_2 K dX6_mendAgain_16 ?_
    refine x_callV0 K (c4_isAllRight (5 * 0 + s.toNat) hi (zb Y s.toNat) hgs hz) mtX4_isAllRight miX4_isAllRight rc3 ⟨by decide, hi⟩ lkRX6_169 ⟨by decide, by decide, by decide⟩ rfl (Nat.le_of_ble_eq_true rfl) dX6_mendAgain_17 ?_
    refine x_if_eq (tgt := 33) K (by omega) dX6_mendAgain_20 (by decide) (fun h20 => absurd (hbad.elim (fun q => absurd q h13) (fun q => gB1_t q)) (by omega)) (fun h20 => ?_)
    exact x_throwN K gThN gTxt_173 hE rfl ⟨by decide, (Nat.le_of_ble_eq_true rfl)⟩ (by decide) (by decide) dX6_mendAgain_23 dX6_mendAgain_26 dX6_mendAgain_27 dX6_mendAgain_29 dX6_mendAgain_32
theorem c6_mendAgain {E : gE} {σ : gS} (Y : Nat → Int) (h : gSh σ 0 Y) (hY : gY Y) (s : Int) (hs : -2147483648 ≤ s ∧ s < 2147483648) (hh : gHit Y s) (hz2 : zb Y s.toNat 2 = 1) (hg1 : s_sm (zb Y s.toNat) = 0) (hg2 : s_fw (zb Y s.toNat) 0 ≠ -1) (hmb : s_mb (zb Y s.toNat)) : gCt E mX6_mendAgain 12 0 [rf 0 0, iv s] σ (.inl (some (iv (10 * (s_r1 (zb Y s.toNat) : Int) + (s_c1 (zb Y s.toNat) : Int))))) (gPut σ 55 (zb Y s.toNat)) := by
  refine gCt_of (L := [some (rf 0 0), some (iv s), none, none]) (by decide +kernel) rfl rfl (Nat.le_of_ble_eq_true rfl) (fun X K hE => ?_)
  have hY0 := hY.1
  have hi : 5 * 0 + s.toNat < 56 := by omega
  have hz := hY.2 s.toNat (by omega)
  have hgs := h.2 s.toNat (by omega)
  have ⟨e0, e1, e2, e3, e4, e5, es, eb, em, et⟩ := hgs
  have ⟨z0, z1, z2, z3, _⟩ := hz
  have hz6 : σ.1 3 (5 * 0 + s.toNat) 6 = 1 := e2.trans hz2
  have bsm := s_sm_bd hz
  have bfw := gB1_bd (s_fw (zb Y s.toNat) 0 = -1)
  have f1 := s_fw_row (z := zb Y s.toNat) (by have := hmb.1; omega)
  have f2 := s_fw_col (z := zb Y s.toNat) (by have := hmb.2.1; omega)
  refine x_aload_0 K dX6_mendAgain_0 ?_
  refine x_iload_1 K dX6_mendAgain_1 ?_
  refine x_callV1 K (c6_existing Y h hY s hh) mtX6_existing miX6_existing rc0 ⟨by decide, (by decide)⟩ lkRX6_64 ⟨by decide, by decide, by decide⟩ rfl (Nat.le_of_ble_eq_true rfl) dX6_mendAgain_2 ?_
  refine x_callS1 K (c6_onlySealed (5 * 0 + s.toNat) hi hz6) mtX6_onlySealed msX6_onlySealed lkRX6_125 ⟨by decide, by decide, by decide⟩ rfl (Nat.le_of_ble_eq_true rfl) dX6_mendAgain_5 ?_
  refine x_astore_2 K dX6_mendAgain_8 rfl ?_
  refine x_aload_2 K dX6_mendAgain_9 ?_
  refine x_callV0 K (c4_smudgedCells (5 * 0 + s.toNat) hi (zb Y s.toNat) hgs hz) mtX4_smudgedCells miX4_smudgedCells rc3 ⟨by decide, hi⟩ lkRX6_81 ⟨by decide, by decide, by decide⟩ rfl (Nat.le_of_ble_eq_true rfl) dX6_mendAgain_10 ?_
  refine x_if_gt (tgt := 23) K (by omega) dX6_mendAgain_13 (by decide) (fun h13 => absurd h13 (by omega)) (fun h13 => ?_)
  refine x_aload_2 K dX6_mendAgain_16 ?_
  refine x_callV0 K (c4_isAllRight (5 * 0 + s.toNat) hi (zb Y s.toNat) hgs hz) mtX4_isAllRight miX4_isAllRight rc3 ⟨by decide, hi⟩ lkRX6_169 ⟨by decide, by decide, by decide⟩ rfl (Nat.le_of_ble_eq_true rfl) dX6_mendAgain_17 ?_
  refine x_if_eq (tgt := 33) K (by omega) dX6_mendAgain_20 (by decide) (fun h20 => ?_) (fun h20 => absurd (gB1_f hg2) h20)
  refine x_aload_0 K dX6_mendAgain_33 ?_
  refine x_getC K gfRX6_32 ⟨by decide, (by decide)⟩ dX6_mendAgain_34 ?_
  refine x_aload_2 K dX6_mendAgain_37 ?_
  refine x_callV1v K (c4_become 55 (by omega) (5 * 0 + s.toNat) hi (by omega) (zb Y s.toNat) hgs hz) mtX4_become miX4_become rc3 ⟨by decide, by decide⟩ lkRX6_175 ⟨by decide, by decide, by decide⟩ rfl (Nat.le_of_ble_eq_true rfl) dX6_mendAgain_38 ?_
  refine x_aload_0 K dX6_mendAgain_41 ?_
  refine x_getC K gfRX6_32 ⟨by decide, (by decide)⟩ dX6_mendAgain_42 ?_
  refine x_callV0 K (c4_findMendByTrying 55 (by omega) (zb Y s.toNat) (gScr_put _ _ _) hz hz2 (by omega)) mtX4_findMendByTrying miX4_findMendByTrying rc3 ⟨by decide, by decide⟩ lkRX6_179 ⟨by decide, by decide, by decide⟩ rfl (Nat.le_of_ble_eq_true rfl) dX6_mendAgain_45 ?_
  refine gWX.top (b := 10 * (s_r1 (zb Y s.toNat) : Int) + (s_c1 (zb Y s.toNat) : Int)) (if_pos hmb) ?_
  refine x_istore_3 K dX6_mendAgain_48 rfl ?_
  refine x_iload_3 K dX6_mendAgain_49 ?_
  refine x_iconst K dX6_mendAgain_50 ?_
  refine x_icmp_ne (tgt := 64) K (by omega) dX6_mendAgain_51 (by decide) (fun h51 => ?_) (fun h51 => absurd h51 (by omega))
  refine x_iload_3 K dX6_mendAgain_64 ?_
  exact x_iret K hE rfl dX6_mendAgain_65 (by decide) (by decide) rfl rfl
theorem c6_mendAgain_4 {E : gE} {σ : gS} (Y : Nat → Int) (h : gSh σ 0 Y) (hY : gY Y) (s : Int) (hs : -2147483648 ≤ s ∧ s < 2147483648) (hh : gHit Y s) (hz2 : zb Y s.toNat 2 = 1) (hg1 : s_sm (zb Y s.toNat) = 0) (hg2 : s_fw (zb Y s.toNat) 0 ≠ -1) (hmb : ¬ s_mb (zb Y s.toNat)) : gCt E mX6_mendAgain 12 1 [rf 0 0, iv s] σ (.inr "java/util/NoSuchElementException") (gPut σ 55 (zb Y s.toNat)) := by
  refine gCt_of (L := [some (rf 0 0), some (iv s), none, none]) (by decide +kernel) rfl rfl (Nat.le_of_ble_eq_true rfl) (fun X K hE => ?_)
  have hY0 := hY.1
  have hi : 5 * 0 + s.toNat < 56 := by omega
  have hz := hY.2 s.toNat (by omega)
  have hgs := h.2 s.toNat (by omega)
  have ⟨e0, e1, e2, e3, e4, e5, es, eb, em, et⟩ := hgs
  have ⟨z0, z1, z2, z3, _⟩ := hz
  have hz6 : σ.1 3 (5 * 0 + s.toNat) 6 = 1 := e2.trans hz2
  have bsm := s_sm_bd hz
  have bfw := gB1_bd (s_fw (zb Y s.toNat) 0 = -1)
  refine x_aload_0 K dX6_mendAgain_0 ?_
  refine x_iload_1 K dX6_mendAgain_1 ?_
  refine x_callV1 K (c6_existing Y h hY s hh) mtX6_existing miX6_existing rc0 ⟨by decide, (by decide)⟩ lkRX6_64 ⟨by decide, by decide, by decide⟩ rfl (Nat.le_of_ble_eq_true rfl) dX6_mendAgain_2 ?_
  refine x_callS1 K (c6_onlySealed (5 * 0 + s.toNat) hi hz6) mtX6_onlySealed msX6_onlySealed lkRX6_125 ⟨by decide, by decide, by decide⟩ rfl (Nat.le_of_ble_eq_true rfl) dX6_mendAgain_5 ?_
  refine x_astore_2 K dX6_mendAgain_8 rfl ?_
  refine x_aload_2 K dX6_mendAgain_9 ?_
  refine x_callV0 K (c4_smudgedCells (5 * 0 + s.toNat) hi (zb Y s.toNat) hgs hz) mtX4_smudgedCells miX4_smudgedCells rc3 ⟨by decide, hi⟩ lkRX6_81 ⟨by decide, by decide, by decide⟩ rfl (Nat.le_of_ble_eq_true rfl) dX6_mendAgain_10 ?_
  refine x_if_gt (tgt := 23) K (by omega) dX6_mendAgain_13 (by decide) (fun h13 => absurd h13 (by omega)) (fun h13 => ?_)
  refine x_aload_2 K dX6_mendAgain_16 ?_
  refine x_callV0 K (c4_isAllRight (5 * 0 + s.toNat) hi (zb Y s.toNat) hgs hz) mtX4_isAllRight miX4_isAllRight rc3 ⟨by decide, hi⟩ lkRX6_169 ⟨by decide, by decide, by decide⟩ rfl (Nat.le_of_ble_eq_true rfl) dX6_mendAgain_17 ?_
  refine x_if_eq (tgt := 33) K (by omega) dX6_mendAgain_20 (by decide) (fun h20 => ?_) (fun h20 => absurd (gB1_f hg2) h20)
  refine x_aload_0 K dX6_mendAgain_33 ?_
  refine x_getC K gfRX6_32 ⟨by decide, (by decide)⟩ dX6_mendAgain_34 ?_
  refine x_aload_2 K dX6_mendAgain_37 ?_
  refine x_callV1v K (c4_become 55 (by omega) (5 * 0 + s.toNat) hi (by omega) (zb Y s.toNat) hgs hz) mtX4_become miX4_become rc3 ⟨by decide, by decide⟩ lkRX6_175 ⟨by decide, by decide, by decide⟩ rfl (Nat.le_of_ble_eq_true rfl) dX6_mendAgain_38 ?_
  refine x_aload_0 K dX6_mendAgain_41 ?_
  refine x_getC K gfRX6_32 ⟨by decide, (by decide)⟩ dX6_mendAgain_42 ?_
  refine x_callV0 K (c4_findMendByTrying 55 (by omega) (zb Y s.toNat) (gScr_put _ _ _) hz hz2 (by omega)) mtX4_findMendByTrying miX4_findMendByTrying rc3 ⟨by decide, by decide⟩ lkRX6_179 ⟨by decide, by decide, by decide⟩ rfl (Nat.le_of_ble_eq_true rfl) dX6_mendAgain_45 ?_
  refine gWX.top (b := -1) (if_neg hmb) ?_
  refine x_istore_3 K dX6_mendAgain_48 rfl ?_
  refine x_iload_3 K dX6_mendAgain_49 ?_
  refine x_iconst K dX6_mendAgain_50 ?_
  refine x_icmp_ne (tgt := 64) K (by omega) dX6_mendAgain_51 (by decide) (fun h51 => absurd rfl h51) (fun h51 => ?_)
  exact x_throwN K gThN gTxt_182 hE rfl ⟨by decide, (Nat.le_of_ble_eq_true rfl)⟩ (by decide) (by decide) dX6_mendAgain_54 dX6_mendAgain_57 dX6_mendAgain_58 dX6_mendAgain_60 dX6_mendAgain_63
theorem c6_wouldFill_1 {E : gE} {σ : gS} (Y : Nat → Int) (h : gSh σ 0 Y) (hY : gY Y) (s r c : Int) (hs : -2147483648 ≤ s ∧ s < 2147483648) (hr : -2147483648 ≤ r ∧ r < 2147483648) (hc : -2147483648 ≤ c ∧ c < 2147483648) (hh : ¬ gCel Y s r c) : gCt E mX6_wouldFill 12 1 [rf 0 0, iv s, iv r, iv c] σ (.inr "java/lang/IndexOutOfBoundsException") σ := by
  refine gCt_of (L := [some (rf 0 0), some (iv s), some (iv r), some (iv c), none]) (by decide +kernel) rfl rfl (Nat.le_of_ble_eq_true rfl) (fun X K hE => ?_)
  refine x_aload_0 K dX6_wouldFill_0 ?_
  refine x_iload_1 K dX6_wouldFill_1 ?_
  refine x_iload_2 K dX6_wouldFill_2 ?_
  refine x_iload_3 K dX6_wouldFill_3 ?_
  refine x_callV3x K (c6_withCell_x Y h hY s r c hs hr hc hh) mtX6_withCell miX6_withCell rc0 ⟨by decide, (by decide)⟩ lkRX6_101 ⟨by decide, by decide, by decide⟩ rfl (Nat.le_of_ble_eq_true rfl) dX6_wouldFill_4 hE
theorem c6_wouldFill_2 {E : gE} {σ : gS} (Y : Nat → Int) (h : gSh σ 0 Y) (hY : gY Y) (s r c : Int) (hs : -2147483648 ≤ s ∧ s < 2147483648) (hr : -2147483648 ≤ r ∧ r < 2147483648) (hc : -2147483648 ≤ c ∧ c < 2147483648) (hh : gCel Y s r c) (hz2 : zb Y s.toNat 2 = 0) : gCt E mX6_wouldFill 12 1 [rf 0 0, iv s, iv r, iv c] σ (.inr "java/util/NoSuchElementException") σ := by
  refine gCt_of (L := [some (rf 0 0), some (iv s), some (iv r), some (iv c), none]) (by decide +kernel) rfl rfl (Nat.le_of_ble_eq_true rfl) (fun X K hE => ?_)
  have hY0 := hY.1
  have hhit := hh.1
  have hi : 5 * 0 + s.toNat < 56 := by omega
  have hz := hY.2 s.toNat (by omega)
  have hgs := h.2 s.toNat (by omega)
  have ⟨e0, e1, e2, e3, e4, e5, es, eb, em, et⟩ := hgs
  have ⟨z0, z1, z2, z3, _⟩ := hz
  have hz6 : σ.1 3 (5 * 0 + s.toNat) 6 = 0 := e2.trans hz2
  refine x_aload_0 K dX6_wouldFill_0 ?_
  refine x_iload_1 K dX6_wouldFill_1 ?_
  refine x_iload_2 K dX6_wouldFill_2 ?_
  refine x_iload_3 K dX6_wouldFill_3 ?_
  refine x_callV3 K (c6_withCell Y h hY s r c hr hc hh) mtX6_withCell miX6_withCell rc0 ⟨by decide, (by decide)⟩ lkRX6_101 ⟨by decide, by decide, by decide⟩ rfl (Nat.le_of_ble_eq_true rfl) dX6_wouldFill_4 ?_
  refine x_callS1x K (c6_onlySealed_x (5 * 0 + s.toNat) hi hz6) mtX6_onlySealed msX6_onlySealed lkRX6_125 ⟨by decide, by decide, by decide⟩ rfl (Nat.le_of_ble_eq_true rfl) dX6_wouldFill_7 hE
theorem c6_wouldFill_3 {E : gE} {σ : gS} (Y : Nat → Int) (h : gSh σ 0 Y) (hY : gY Y) (s r c : Int) (hs : -2147483648 ≤ s ∧ s < 2147483648) (hr : -2147483648 ≤ r ∧ r < 2147483648) (hc : -2147483648 ≤ c ∧ c < 2147483648) (hh : gCel Y s r c) (hz2 : zb Y s.toNat 2 = 1) (hns : zb Y s.toNat (20 + (8 * r.toNat + c.toNat)) ≠ -1) : gCt E mX6_wouldFill 12 1 [rf 0 0, iv s, iv r, iv c] σ (.inr "java/util/NoSuchElementException") σ := by
  refine gCt_of (L := [some (rf 0 0), some (iv s), some (iv r), some (iv c), none]) (by decide +kernel) rfl rfl (Nat.le_of_ble_eq_true rfl) (fun X K hE => ?_)
  have hY0 := hY.1
  have hhit := hh.1
  have hi : 5 * 0 + s.toNat < 56 := by omega
  have hz := hY.2 s.toNat (by omega)
  have hgs := h.2 s.toNat (by omega)
  have ⟨e0, e1, e2, e3, e4, e5, es, eb, em, et⟩ := hgs
  have ⟨z0, z1, z2, z3, _⟩ := hz
  have hz6 : σ.1 3 (5 * 0 + s.toNat) 6 = 1 := e2.trans hz2
  obtain ⟨r, rfl⟩ : ∃ r2 : Nat, r = (r2 : Int) := ⟨r.toNat, by omega⟩
  obtain ⟨c, rfl⟩ : ∃ c2 : Nat, c = (c2 : Int) := ⟨c.toNat, by omega⟩
  have hc0 : zb Y s.toNat (20 + (8 * r + c)) = zb Y s.toNat (20 + (8 * r + c)) := rfl
  have hzs := gZ_s hz (r := r) (c := c) (by omega) (by omega)
  have ev := es (8 * r + c) (by omega)
  have bs := gB1_bd (σ.1 4 (5 * 0 + s.toNat) (8 * r + c) = -1)
  have hns2 : zb Y s.toNat (20 + (8 * r + c)) ≠ -1 := hns
  refine x_aload_0 K dX6_wouldFill_0 ?_
  refine x_iload_1 K dX6_wouldFill_1 ?_
  refine x_iload_2 K dX6_wouldFill_2 ?_
  refine x_iload_3 K dX6_wouldFill_3 ?_
  refine x_callV3 K (c6_withCell Y h hY s r c hr hc hh) mtX6_withCell miX6_withCell rc0 ⟨by decide, (by decide)⟩ lkRX6_101 ⟨by decide, by decide, by decide⟩ rfl (Nat.le_of_ble_eq_true rfl) dX6_wouldFill_4 ?_
  refine x_callS1 K (c6_onlySealed (5 * 0 + s.toNat) hi hz6) mtX6_onlySealed msX6_onlySealed lkRX6_125 ⟨by decide, by decide, by decide⟩ rfl (Nat.le_of_ble_eq_true rfl) dX6_wouldFill_7 ?_
  refine x_astore_4 K dX6_wouldFill_10 rfl ?_
  refine x_aload_4 K dX6_wouldFill_12 ?_
  refine x_iload_2 K dX6_wouldFill_14 ?_
  refine x_iload_3 K dX6_wouldFill_15 ?_
  refine x_callV2 K (c4_isSmudged (5 * 0 + s.toNat) hi r c (by omega) (by omega) (by rw [ev]; exact hzs)) mtX4_isSmudged miX4_isSmudged rc3 ⟨by decide, hi⟩ lkRX6_187 ⟨by decide, by decide, by decide⟩ rfl (Nat.le_of_ble_eq_true rfl) dX6_wouldFill_16 ?_
  refine x_if_ne (tgt := 32) K (by omega) dX6_wouldFill_19 (by decide) (fun h19 => absurd (gB1_f (fun q => hns2 (ev.symm.trans q))) h19) (fun h19 => ?_)
  exact x_throwN K gThN gTxt_190 hE rfl ⟨by decide, (Nat.le_of_ble_eq_true rfl)⟩ (by decide) (by decide) dX6_wouldFill_22 dX6_wouldFill_25 dX6_wouldFill_26 dX6_wouldFill_28 dX6_wouldFill_31
theorem c6_wouldFill_4 {E : gE} {σ : gS} (Y : Nat → Int) (h : gSh σ 0 Y) (hY : gY Y) (s r c : Int) (hs : -2147483648 ≤ s ∧ s < 2147483648) (hr : -2147483648 ≤ r ∧ r < 2147483648) (hc : -2147483648 ≤ c ∧ c < 2147483648) (hh : gCel Y s r c) (hz2 : zb Y s.toNat 2 = 1) (hns : zb Y s.toNat (20 + (8 * r.toNat + c.toNat)) = -1) (hst : zFill (zb Y s.toNat) (20 + (8 * r.toNat + c.toNat)) = -1) : gCt E mX6_wouldFill 12 1 [rf 0 0, iv s, iv r, iv c] σ (.inr "java/util/NoSuchElementException") (gPut σ 55 (zFill (zb Y s.toNat))) := by
  refine gCt_of (L := [some (rf 0 0), some (iv s), some (iv r), some (iv c), none]) (by decide +kernel) rfl rfl (Nat.le_of_ble_eq_true rfl) (fun X K hE => ?_)
  have hY0 := hY.1
  have hhit := hh.1
  have hi : 5 * 0 + s.toNat < 56 := by omega
  have hz := hY.2 s.toNat (by omega)
  have hgs := h.2 s.toNat (by omega)
  have ⟨e0, e1, e2, e3, e4, e5, es, eb, em, et⟩ := hgs
  have ⟨z0, z1, z2, z3, _⟩ := hz
  have hz6 : σ.1 3 (5 * 0 + s.toNat) 6 = 1 := e2.trans hz2
  obtain ⟨r, rfl⟩ : ∃ r2 : Nat, r = (r2 : Int) := ⟨r.toNat, by omega⟩
  obtain ⟨c, rfl⟩ : ∃ c2 : Nat, c = (c2 : Int) := ⟨c.toNat, by omega⟩
  have hc0 : zb Y s.toNat (20 + (8 * r + c)) = zb Y s.toNat (20 + (8 * r + c)) := rfl
  have hzs := gZ_s hz (r := r) (c := c) (by omega) (by omega)
  have ev := es (8 * r + c) (by omega)
  have bs := gB1_bd (σ.1 4 (5 * 0 + s.toNat) (8 * r + c) = -1)
  have hns2 : zb Y s.toNat (20 + (8 * r + c)) = -1 := hns
  have hfz := zFill_Z hz
  have hfs := gZ_s hfz (r := r) (c := c) (by omega) (by omega)
  have ev2 : (gPut σ 55 (zFill (zb Y s.toNat))).1 4 55 (8 * r + c) = zFill (zb Y s.toNat) (20 + (8 * r + c)) := by rw [gPut_4, if_pos (by omega)]
  have bs2 := gB1_bd ((gPut σ 55 (zFill (zb Y s.toNat))).1 4 55 (8 * r + c) = -1)
  have hst2 : zFill (zb Y s.toNat) (20 + (8 * r + c)) = -1 := hst
  refine x_aload_0 K dX6_wouldFill_0 ?_
  refine x_iload_1 K dX6_wouldFill_1 ?_
  refine x_iload_2 K dX6_wouldFill_2 ?_
  refine x_iload_3 K dX6_wouldFill_3 ?_
  refine x_callV3 K (c6_withCell Y h hY s r c hr hc hh) mtX6_withCell miX6_withCell rc0 ⟨by decide, (by decide)⟩ lkRX6_101 ⟨by decide, by decide, by decide⟩ rfl (Nat.le_of_ble_eq_true rfl) dX6_wouldFill_4 ?_
  refine x_callS1 K (c6_onlySealed (5 * 0 + s.toNat) hi hz6) mtX6_onlySealed msX6_onlySealed lkRX6_125 ⟨by decide, by decide, by decide⟩ rfl (Nat.le_of_ble_eq_true rfl) dX6_wouldFill_7 ?_
  refine x_astore_4 K dX6_wouldFill_10 rfl ?_
  refine x_aload_4 K dX6_wouldFill_12 ?_
  refine x_iload_2 K dX6_wouldFill_14 ?_
  refine x_iload_3 K dX6_wouldFill_15 ?_
  refine x_callV2 K (c4_isSmudged (5 * 0 + s.toNat) hi r c (by omega) (by omega) (by rw [ev]; exact hzs)) mtX4_isSmudged miX4_isSmudged rc3 ⟨by decide, hi⟩ lkRX6_187 ⟨by decide, by decide, by decide⟩ rfl (Nat.le_of_ble_eq_true rfl) dX6_wouldFill_16 ?_
  refine x_if_ne (tgt := 32) K (by omega) dX6_wouldFill_19 (by decide) (fun h19 => ?_) (fun h19 => absurd (gB1_t (ev.trans hns2)) (by omega))
  refine x_aload_0 K dX6_wouldFill_32 ?_
  refine x_getC K gfRX6_32 ⟨by decide, (by decide)⟩ dX6_wouldFill_33 ?_
  refine x_aload_4 K dX6_wouldFill_36 ?_
  refine x_callV1v K (c4_become 55 (by omega) (5 * 0 + s.toNat) hi (by omega) (zb Y s.toNat) hgs hz) mtX4_become miX4_become rc3 ⟨by decide, by decide⟩ lkRX6_175 ⟨by decide, by decide, by decide⟩ rfl (Nat.le_of_ble_eq_true rfl) dX6_wouldFill_38 ?_
  refine x_aload_0 K dX6_wouldFill_41 ?_
  refine x_getC K gfRX6_32 ⟨by decide, (by decide)⟩ dX6_wouldFill_42 ?_
  refine x_callV0 K (c4_fillCells 55 (by omega) (zb Y s.toNat) (gScr_put σ 55 _) hz) mtX4_fillCells miX4_fillCells rc3 ⟨by decide, by decide⟩ lkRX6_192 ⟨by decide, by decide, by decide⟩ rfl (Nat.le_of_ble_eq_true rfl) dX6_wouldFill_45 ?_
  rw [gPut_put]
  refine x_pop K dX6_wouldFill_48 rfl ?_
  refine x_aload_0 K dX6_wouldFill_49 ?_
  refine x_getC K gfRX6_32 ⟨by decide, (by decide)⟩ dX6_wouldFill_50 ?_
  refine x_iload_2 K dX6_wouldFill_53 ?_
  refine x_iload_3 K dX6_wouldFill_54 ?_
  refine x_callV2 K (c4_isSmudged 55 (by omega) r c (by omega) (by omega) (by rw [ev2]; exact hfs)) mtX4_isSmudged miX4_isSmudged rc3 ⟨by decide, by decide⟩ lkRX6_187 ⟨by decide, by decide, by decide⟩ rfl (Nat.le_of_ble_eq_true rfl) dX6_wouldFill_55 ?_
  refine x_if_eq (tgt := 71) K (by omega) dX6_wouldFill_58 (by decide) (fun h58 => absurd (gB1_t (ev2.trans hst2)) (by omega)) (fun h58 => ?_)
  exact x_throwN K gThN gTxt_195 hE rfl ⟨by decide, (Nat.le_of_ble_eq_true rfl)⟩ (by decide) (by decide) dX6_wouldFill_61 dX6_wouldFill_64 dX6_wouldFill_65 dX6_wouldFill_67 dX6_wouldFill_70
theorem c6_wouldFill {E : gE} {σ : gS} (Y : Nat → Int) (h : gSh σ 0 Y) (hY : gY Y) (s r c : Int) (hs : -2147483648 ≤ s ∧ s < 2147483648) (hr : -2147483648 ≤ r ∧ r < 2147483648) (hc : -2147483648 ≤ c ∧ c < 2147483648) (hh : gCel Y s r c) (hz2 : zb Y s.toNat 2 = 1) (hns : zb Y s.toNat (20 + (8 * r.toNat + c.toNat)) = -1) (hst : zFill (zb Y s.toNat) (20 + (8 * r.toNat + c.toNat)) ≠ -1) : gCt E mX6_wouldFill 12 0 [rf 0 0, iv s, iv r, iv c] σ (.inl (some (iv (zFill (zb Y s.toNat) (20 + (8 * r.toNat + c.toNat)))))) (gPut σ 55 (zFill (zb Y s.toNat))) := by
  refine gCt_of (L := [some (rf 0 0), some (iv s), some (iv r), some (iv c), none]) (by decide +kernel) rfl rfl (Nat.le_of_ble_eq_true rfl) (fun X K hE => ?_)
  have hY0 := hY.1
  have hhit := hh.1
  have hi : 5 * 0 + s.toNat < 56 := by omega
  have hz := hY.2 s.toNat (by omega)
  have hgs := h.2 s.toNat (by omega)
  have ⟨e0, e1, e2, e3, e4, e5, es, eb, em, et⟩ := hgs
  have ⟨z0, z1, z2, z3, _⟩ := hz
  have hz6 : σ.1 3 (5 * 0 + s.toNat) 6 = 1 := e2.trans hz2
  obtain ⟨r, rfl⟩ : ∃ r2 : Nat, r = (r2 : Int) := ⟨r.toNat, by omega⟩
  obtain ⟨c, rfl⟩ : ∃ c2 : Nat, c = (c2 : Int) := ⟨c.toNat, by omega⟩
  have hc0 : zb Y s.toNat (20 + (8 * r + c)) = zb Y s.toNat (20 + (8 * r + c)) := rfl
  have hzs := gZ_s hz (r := r) (c := c) (by omega) (by omega)
  have ev := es (8 * r + c) (by omega)
  have bs := gB1_bd (σ.1 4 (5 * 0 + s.toNat) (8 * r + c) = -1)
  have hns2 : zb Y s.toNat (20 + (8 * r + c)) = -1 := hns
  have hfz := zFill_Z hz
  have hfs := gZ_s hfz (r := r) (c := c) (by omega) (by omega)
  have ev2 : (gPut σ 55 (zFill (zb Y s.toNat))).1 4 55 (8 * r + c) = zFill (zb Y s.toNat) (20 + (8 * r + c)) := by rw [gPut_4, if_pos (by omega)]
  have bs2 := gB1_bd ((gPut σ 55 (zFill (zb Y s.toNat))).1 4 55 (8 * r + c) = -1)
  have hst2 : zFill (zb Y s.toNat) (20 + (8 * r + c)) ≠ -1 := hst
  refine x_aload_0 K dX6_wouldFill_0 ?_
  refine x_iload_1 K dX6_wouldFill_1 ?_
  refine x_iload_2 K dX6_wouldFill_2 ?_
  refine x_iload_3 K dX6_wouldFill_3 ?_
  refine x_callV3 K (c6_withCell Y h hY s r c hr hc hh) mtX6_withCell miX6_withCell rc0 ⟨by decide, (by decide)⟩ lkRX6_101 ⟨by decide, by decide, by decide⟩ rfl (Nat.le_of_ble_eq_true rfl) dX6_wouldFill_4 ?_
  refine x_callS1 K (c6_onlySealed (5 * 0 + s.toNat) hi hz6) mtX6_onlySealed msX6_onlySealed lkRX6_125 ⟨by decide, by decide, by decide⟩ rfl (Nat.le_of_ble_eq_true rfl) dX6_wouldFill_7 ?_
  refine x_astore_4 K dX6_wouldFill_10 rfl ?_
  refine x_aload_4 K dX6_wouldFill_12 ?_
  refine x_iload_2 K dX6_wouldFill_14 ?_
  refine x_iload_3 K dX6_wouldFill_15 ?_
  refine x_callV2 K (c4_isSmudged (5 * 0 + s.toNat) hi r c (by omega) (by omega) (by rw [ev]; exact hzs)) mtX4_isSmudged miX4_isSmudged rc3 ⟨by decide, hi⟩ lkRX6_187 ⟨by decide, by decide, by decide⟩ rfl (Nat.le_of_ble_eq_true rfl) dX6_wouldFill_16 ?_
  refine x_if_ne (tgt := 32) K (by omega) dX6_wouldFill_19 (by decide) (fun h19 => ?_) (fun h19 => absurd (gB1_t (ev.trans hns2)) (by omega))
  refine x_aload_0 K dX6_wouldFill_32 ?_
  refine x_getC K gfRX6_32 ⟨by decide, (by decide)⟩ dX6_wouldFill_33 ?_
  refine x_aload_4 K dX6_wouldFill_36 ?_
  refine x_callV1v K (c4_become 55 (by omega) (5 * 0 + s.toNat) hi (by omega) (zb Y s.toNat) hgs hz) mtX4_become miX4_become rc3 ⟨by decide, by decide⟩ lkRX6_175 ⟨by decide, by decide, by decide⟩ rfl (Nat.le_of_ble_eq_true rfl) dX6_wouldFill_38 ?_
  refine x_aload_0 K dX6_wouldFill_41 ?_
  refine x_getC K gfRX6_32 ⟨by decide, (by decide)⟩ dX6_wouldFill_42 ?_
  refine x_callV0 K (c4_fillCells 55 (by omega) (zb Y s.toNat) (gScr_put σ 55 _) hz) mtX4_fillCells miX4_fillCells rc3 ⟨by decide, by decide⟩ lkRX6_192 ⟨by decide, by decide, by decide⟩ rfl (Nat.le_of_ble_eq_true rfl) dX6_wouldFill_45 ?_
  rw [gPut_put]
  refine x_pop K dX6_wouldFill_48 rfl ?_
  refine x_aload_0 K dX6_wouldFill_49 ?_
  refine x_getC K gfRX6_32 ⟨by decide, (by decide)⟩ dX6_wouldFill_50 ?_
  refine x_iload_2 K dX6_wouldFill_53 ?_
  refine x_iload_3 K dX6_wouldFill_54 ?_
  refine x_callV2 K (c4_isSmudged 55 (by omega) r c (by omega) (by omega) (by rw [ev2]; exact hfs)) mtX4_isSmudged miX4_isSmudged rc3 ⟨by decide, by decide⟩ lkRX6_187 ⟨by decide, by decide, by decide⟩ rfl (Nat.le_of_ble_eq_true rfl) dX6_wouldFill_55 ?_
  refine x_if_eq (tgt := 71) K (by omega) dX6_wouldFill_58 (by decide) (fun h58 => ?_) (fun h58 => absurd (gB1_f (fun q => hst2 (ev2.symm.trans q))) h58)
  refine x_aload_0 K dX6_wouldFill_71 ?_
  refine x_getC K gfRX6_32 ⟨by decide, (by decide)⟩ dX6_wouldFill_72 ?_
  refine x_iload_2 K dX6_wouldFill_75 ?_
  refine x_iload_3 K dX6_wouldFill_76 ?_
  refine x_callV2 K (c4_sign 55 (by omega) r c (by omega) (by omega)) mtX4_sign miX4_sign rc3 ⟨by decide, by decide⟩ lkRX6_105 ⟨by decide, by decide, by decide⟩ rfl (Nat.le_of_ble_eq_true rfl) dX6_wouldFill_77 ?_
  exact x_iret K hE rfl dX6_wouldFill_80 (by decide) (by decide) ev2 rfl
theorem c6_differ_1 {E : gE} {σ : gS} (Y : Nat → Int) (h : gSh σ 0 Y) (hY : gY Y) (s k : Int) (hs : -2147483648 ≤ s ∧ s < 2147483648) (hk : -2147483648 ≤ k ∧ k < 2147483648) (hh : ¬ gHit Y s) : gCt E mX6_differ 12 1 [rf 0 0, iv s, iv k] σ (.inr "java/lang/IndexOutOfBoundsException") σ := by
  refine gCt_of (L := [some (rf 0 0), some (iv s), some (iv k), none, none]) (by decide +kernel) rfl rfl (Nat.le_of_ble_eq_true rfl) (fun X K hE => ?_)
  refine x_aload_0 K dX6_differ_0 ?_
  refine x_iload_1 K dX6_differ_1 ?_
  refine x_callV1x K (c6_existing_x Y h hY s hs hh) mtX6_existing miX6_existing rc0 ⟨by decide, (by decide)⟩ lkRX6_64 ⟨by decide, by decide, by decide⟩ rfl (Nat.le_of_ble_eq_true rfl) dX6_differ_2 hE
theorem c6_differ_1b {E : gE} {σ : gS} (Y : Nat → Int) (h : gSh σ 0 Y) (hY : gY Y) (s k : Int) (hs : -2147483648 ≤ s ∧ s < 2147483648) (hk : -2147483648 ≤ k ∧ k < 2147483648) (hh : gHit Y s) (hh2 : ¬ gHit Y k) : gCt E mX6_differ 12 1 [rf 0 0, iv s, iv k] σ (.inr "java/lang/IndexOutOfBoundsException") σ := by
  refine gCt_of (L := [some (rf 0 0), some (iv s), some (iv k), none, none]) (by decide +kernel) rfl rfl (Nat.le_of_ble_eq_true rfl) (fun X K hE => ?_)
  refine x_aload_0 K dX6_differ_0 ?_
  refine x_iload_1 K dX6_differ_1 ?_
  refine x_callV1 K (c6_existing Y h hY s hh) mtX6_existing miX6_existing rc0 ⟨by decide, (by decide)⟩ lkRX6_64 ⟨by decide, by decide, by decide⟩ rfl (Nat.le_of_ble_eq_true rfl) dX6_differ_2 ?_
  refine x_astore_3 K dX6_differ_5 rfl ?_
  refine x_aload_0 K dX6_differ_6 ?_
  refine x_iload_2 K dX6_differ_7 ?_
  refine x_callV1x K (c6_existing_x Y h hY k hk hh2) mtX6_existing miX6_existing rc0 ⟨by decide, (by decide)⟩ lkRX6_64 ⟨by decide, by decide, by decide⟩ rfl (Nat.le_of_ble_eq_true rfl) dX6_differ_8 hE
theorem c6_differ_2 {E : gE} {σ : gS} (Y : Nat → Int) (h : gSh σ 0 Y) (hY : gY Y) (s k : Int) (hs : -2147483648 ≤ s ∧ s < 2147483648) (hk : -2147483648 ≤ k ∧ k < 2147483648) (hh : gHit Y s) (hh2 : gHit Y k) (hd : ¬ (zb Y s.toNat 0 = zb Y k.toNat 0 ∧ zb Y s.toNat 1 = zb Y k.toNat 1)) : gCt E mX6_differ 12 1 [rf 0 0, iv s, iv k] σ (.inr "java/lang/IllegalArgumentException") σ := by
  refine gCt_of (L := [some (rf 0 0), some (iv s), some (iv k), none, none]) (by decide +kernel) rfl rfl (Nat.le_of_ble_eq_true rfl) (fun X K hE => ?_)
  have hY0 := hY.1
  have hi : 5 * 0 + s.toNat < 56 := by omega
  have hz := hY.2 s.toNat (by omega)
  have hgs := h.2 s.toNat (by omega)
  have ⟨e0, e1, e2, e3, e4, e5, es, eb, em, et⟩ := hgs
  have ⟨z0, z1, z2, z3, _⟩ := hz
  have hi2 : 5 * 0 + k.toNat < 56 := by omega
  have hzz := hY.2 k.toNat (by omega)
  have hgs2 := h.2 k.toNat (by omega)
  have ⟨u0, u1, _⟩ := hgs2
  have ⟨y0, y1, _⟩ := hzz
  refine x_aload_0 K dX6_differ_0 ?_
  refine x_iload_1 K dX6_differ_1 ?_
  refine x_callV1 K (c6_existing Y h hY s hh) mtX6_existing miX6_existing rc0 ⟨by decide, (by decide)⟩ lkRX6_64 ⟨by decide, by decide, by decide⟩ rfl (Nat.le_of_ble_eq_true rfl) dX6_differ_2 ?_
  refine x_astore_3 K dX6_differ_5 rfl ?_
  refine x_aload_0 K dX6_differ_6 ?_
  refine x_iload_2 K dX6_differ_7 ?_
  refine x_callV1 K (c6_existing Y h hY k hh2) mtX6_existing miX6_existing rc0 ⟨by decide, (by decide)⟩ lkRX6_64 ⟨by decide, by decide, by decide⟩ rfl (Nat.le_of_ble_eq_true rfl) dX6_differ_8 ?_
  refine x_astore_4 K dX6_differ_11 rfl ?_
  refine x_aload_3 K dX6_differ_13 ?_
  refine x_getI K gfRX6_68 ⟨by decide, hi⟩ dX6_differ_14 ?_
  refine x_aload_4 K dX6_differ_17 ?_
  refine x_getI K gfRX6_68 ⟨by decide, hi2⟩ dX6_differ_19 ?_
  refine x_icmp_ne (tgt := 37) K (by omega) dX6_differ_22 (by decide) (fun h22 => ?_) (fun h22 => ?_)
  · exact x_throw K gThr_IllegalArgumentException gTxt_197 hE rfl ⟨by decide, (Nat.le_of_ble_eq_true rfl)⟩ (by decide) (by decide) dX6_differ_37 dX6_differ_40 dX6_differ_41 dX6_differ_43 dX6_differ_46
  · refine x_aload_3 K dX6_differ_25 ?_
    refine x_getI K gfRX6_71 ⟨by decide, hi⟩ dX6_differ_26 ?_
    refine x_aload_4 K dX6_differ_29 ?_
    refine x_getI K gfRX6_71 ⟨by decide, hi2⟩ dX6_differ_31 ?_
    refine x_icmp_eq (tgt := 47) K (by omega) dX6_differ_34 (by decide) (fun h34 => absurd (show _ ∧ _ from ⟨by omega, by omega⟩) hd) (fun h34 => ?_)
    exact x_throw K gThr_IllegalArgumentException gTxt_197 hE rfl ⟨by decide, (Nat.le_of_ble_eq_true rfl)⟩ (by decide) (by decide) dX6_differ_37 dX6_differ_40 dX6_differ_41 dX6_differ_43 dX6_differ_46
theorem c6_differ {E : gE} {σ : gS} (Y : Nat → Int) (h : gSh σ 0 Y) (hY : gY Y) (s k : Int) (hs : -2147483648 ≤ s ∧ s < 2147483648) (hk : -2147483648 ≤ k ∧ k < 2147483648) (hh : gHit Y s) (hh2 : gHit Y k) (hd : (zb Y s.toNat 0 = zb Y k.toNat 0 ∧ zb Y s.toNat 1 = zb Y k.toNat 1)) : gCt E mX6_differ 12 0 [rf 0 0, iv s, iv k] σ (.inl (some (iv (s_di (zb Y s.toNat) (zb Y k.toNat))))) σ := by
  refine gCt_of (L := [some (rf 0 0), some (iv s), some (iv k), none, none]) (by decide +kernel) rfl rfl (Nat.le_of_ble_eq_true rfl) (fun X K hE => ?_)
  have hY0 := hY.1
  have hi : 5 * 0 + s.toNat < 56 := by omega
  have hz := hY.2 s.toNat (by omega)
  have hgs := h.2 s.toNat (by omega)
  have ⟨e0, e1, e2, e3, e4, e5, es, eb, em, et⟩ := hgs
  have ⟨z0, z1, z2, z3, _⟩ := hz
  have hi2 : 5 * 0 + k.toNat < 56 := by omega
  have hzz := hY.2 k.toNat (by omega)
  have hgs2 := h.2 k.toNat (by omega)
  have ⟨u0, u1, _⟩ := hgs2
  have ⟨y0, y1, _⟩ := hzz
  refine x_aload_0 K dX6_differ_0 ?_
  refine x_iload_1 K dX6_differ_1 ?_
  refine x_callV1 K (c6_existing Y h hY s hh) mtX6_existing miX6_existing rc0 ⟨by decide, (by decide)⟩ lkRX6_64 ⟨by decide, by decide, by decide⟩ rfl (Nat.le_of_ble_eq_true rfl) dX6_differ_2 ?_
  refine x_astore_3 K dX6_differ_5 rfl ?_
  refine x_aload_0 K dX6_differ_6 ?_
  refine x_iload_2 K dX6_differ_7 ?_
  refine x_callV1 K (c6_existing Y h hY k hh2) mtX6_existing miX6_existing rc0 ⟨by decide, (by decide)⟩ lkRX6_64 ⟨by decide, by decide, by decide⟩ rfl (Nat.le_of_ble_eq_true rfl) dX6_differ_8 ?_
  refine x_astore_4 K dX6_differ_11 rfl ?_
  refine x_aload_3 K dX6_differ_13 ?_
  refine x_getI K gfRX6_68 ⟨by decide, hi⟩ dX6_differ_14 ?_
  refine x_aload_4 K dX6_differ_17 ?_
  refine x_getI K gfRX6_68 ⟨by decide, hi2⟩ dX6_differ_19 ?_
  refine x_icmp_ne (tgt := 37) K (by omega) dX6_differ_22 (by decide) (fun h22 => absurd h22 (by omega)) (fun h22 => ?_)
  refine x_aload_3 K dX6_differ_25 ?_
  refine x_getI K gfRX6_71 ⟨by decide, hi⟩ dX6_differ_26 ?_
  refine x_aload_4 K dX6_differ_29 ?_
  refine x_getI K gfRX6_71 ⟨by decide, hi2⟩ dX6_differ_31 ?_
  refine x_icmp_eq (tgt := 47) K (by omega) dX6_differ_34 (by decide) (fun h34 => ?_) (fun h34 => absurd h34 (by omega))
  refine x_aload_3 K dX6_differ_47 ?_
  refine x_aload_4 K dX6_differ_48 ?_
  refine x_callV1 K (c4_differencesTo (5 * 0 + s.toNat) hi (zb Y s.toNat) hgs hz (5 * 0 + k.toNat) hi2 (zb Y k.toNat) hgs2 hzz) mtX4_differencesTo miX4_differencesTo rc3 ⟨by decide, hi⟩ lkRX6_199 ⟨by decide, by decide, by decide⟩ rfl (Nat.le_of_ble_eq_true rfl) dX6_differ_50 ?_
  exact x_iret K hE rfl dX6_differ_53 (by decide) (by decide) rfl rfl
theorem c6_ranked {E : gE} {σ : gS} (Y : Nat → Int) (h : gSh σ 0 Y) (hY : gY Y) (p : Int) (hp : -2147483648 ≤ p ∧ p < 2147483648) (hh : s_rk Y p ≠ -1) : gCt E mX6_ranked 12 0 [rf 0 0, iv p] σ (.inl (some (iv (s_rk Y p)))) σ := by
  refine gCt_of (L := [some (rf 0 0), some (iv p), none]) (by decide +kernel) rfl rfl (Nat.le_of_ble_eq_true rfl) (fun X K hE => ?_)
  refine x_aload_0 K dX6_ranked_0 ?_
  refine x_getC K gfRX6_12 ⟨by decide, (by decide)⟩ dX6_ranked_1 ?_
  refine x_iload_1 K dX6_ranked_4 ?_
  refine x_callV1 K (c5_numberAtRank 0 (by omega) Y h hY p hp) mtX5_numberAtRank miX5_numberAtRank rc1 ⟨by decide, (by decide)⟩ lkRX6_203 ⟨by decide, by decide, by decide⟩ rfl (Nat.le_of_ble_eq_true rfl) dX6_ranked_5 ?_
  have brk : -1 ≤ s_rk Y p ∧ s_rk Y p < ((0 + (Y 0).toNat : Nat) : Int) := gFst_bd _ _ _
  have hY0 := hY.1
  refine x_istore_2 K dX6_ranked_8 rfl ?_
  refine x_iload_2 K dX6_ranked_9 ?_
  refine x_iconst K dX6_ranked_10 ?_
  refine x_icmp_ne (tgt := 24) K (by omega) dX6_ranked_11 (by decide) (fun h11 => ?_) (fun h11 => absurd h11 hh)
  refine x_iload_2 K dX6_ranked_24 ?_
  exact x_iret K hE rfl dX6_ranked_25 (by decide) (by decide) rfl rfl
theorem c6_ranked_1 {E : gE} {σ : gS} (Y : Nat → Int) (h : gSh σ 0 Y) (hY : gY Y) (p : Int) (hp : -2147483648 ≤ p ∧ p < 2147483648) (hh : s_rk Y p = -1) : gCt E mX6_ranked 12 1 [rf 0 0, iv p] σ (.inr "java/util/NoSuchElementException") σ := by
  refine gCt_of (L := [some (rf 0 0), some (iv p), none]) (by decide +kernel) rfl rfl (Nat.le_of_ble_eq_true rfl) (fun X K hE => ?_)
  refine x_aload_0 K dX6_ranked_0 ?_
  refine x_getC K gfRX6_12 ⟨by decide, (by decide)⟩ dX6_ranked_1 ?_
  refine x_iload_1 K dX6_ranked_4 ?_
  refine x_callV1 K (c5_numberAtRank 0 (by omega) Y h hY p hp) mtX5_numberAtRank miX5_numberAtRank rc1 ⟨by decide, (by decide)⟩ lkRX6_203 ⟨by decide, by decide, by decide⟩ rfl (Nat.le_of_ble_eq_true rfl) dX6_ranked_5 ?_
  have brk : -1 ≤ s_rk Y p ∧ s_rk Y p < ((0 + (Y 0).toNat : Nat) : Int) := gFst_bd _ _ _
  have hY0 := hY.1
  refine x_istore_2 K dX6_ranked_8 rfl ?_
  refine x_iload_2 K dX6_ranked_9 ?_
  refine x_iconst K dX6_ranked_10 ?_
  refine x_icmp_ne (tgt := 24) K (by omega) dX6_ranked_11 (by decide) (fun h11 => absurd hh h11) (fun h11 => ?_)
  exact x_throwN K gThN gTxt_206 hE rfl ⟨by decide, (Nat.le_of_ble_eq_true rfl)⟩ (by decide) (by decide) dX6_ranked_14 dX6_ranked_17 dX6_ranked_18 dX6_ranked_20 dX6_ranked_23
theorem c6_count_1 {E : gE} {σ : gS} (Y : Nat → Int) (h : gSh σ 0 Y) (hY : gY Y) (s k : Int) (hs : -2147483648 ≤ s ∧ s < 2147483648) (hk : -2147483648 ≤ k ∧ k < 2147483648) (hh : ¬ gHit Y s) : gCt E mX6_count 12 1 [rf 0 0, iv s, iv k] σ (.inr "java/lang/IndexOutOfBoundsException") σ := by
  refine gCt_of (L := [some (rf 0 0), some (iv s), some (iv k), none]) (by decide +kernel) rfl rfl (Nat.le_of_ble_eq_true rfl) (fun X K hE => ?_)
  refine x_aload_0 K dX6_count_0 ?_
  refine x_iload_1 K dX6_count_1 ?_
  refine x_callV1x K (c6_existing_x Y h hY s hs hh) mtX6_existing miX6_existing rc0 ⟨by decide, (by decide)⟩ lkRX6_64 ⟨by decide, by decide, by decide⟩ rfl (Nat.le_of_ble_eq_true rfl) dX6_count_2 hE
theorem c6_count_2 {E : gE} {σ : gS} (Y : Nat → Int) (h : gSh σ 0 Y) (hY : gY Y) (s k : Int) (hs : -2147483648 ≤ s ∧ s < 2147483648) (hk : -2147483648 ≤ k ∧ k < 2147483648) (hh : gHit Y s) (hk2 : ¬ (0 ≤ k ∧ k ≤ 9)) : gCt E mX6_count 12 1 [rf 0 0, iv s, iv k] σ (.inr "java/lang/IllegalArgumentException") σ := by
  refine gCt_of (L := [some (rf 0 0), some (iv s), some (iv k), none]) (by decide +kernel) rfl rfl (Nat.le_of_ble_eq_true rfl) (fun X K hE => ?_)
  have hY0 := hY.1
  have hi : 5 * 0 + s.toNat < 56 := by omega
  have hz := hY.2 s.toNat (by omega)
  have hgs := h.2 s.toNat (by omega)
  have ⟨e0, e1, e2, e3, e4, e5, es, eb, em, et⟩ := hgs
  have ⟨z0, z1, z2, z3, _⟩ := hz
  refine x_aload_0 K dX6_count_0 ?_
  refine x_iload_1 K dX6_count_1 ?_
  refine x_callV1 K (c6_existing Y h hY s hh) mtX6_existing miX6_existing rc0 ⟨by decide, (by decide)⟩ lkRX6_64 ⟨by decide, by decide, by decide⟩ rfl (Nat.le_of_ble_eq_true rfl) dX6_count_2 ?_
  refine x_astore_3 K dX6_count_5 rfl ?_
  refine x_iload_2 K dX6_count_6 ?_
  refine x_iconst K dX6_count_7 ?_
  refine x_bipush K dX6_count_8 rfl ?_
  refine x_callS3 K (c6_isWithin k 0 9 (by omega)) mtX6_isWithin msX6_isWithin lkRX6_208 ⟨by decide, by decide, by decide⟩ rfl (Nat.le_of_ble_eq_true rfl) dX6_count_10 ?_
  have bw := gB1_bd (0 ≤ k ∧ k ≤ 9)
  refine x_if_ne (tgt := 26) K (by omega) dX6_count_13 (by decide) (fun h13 => absurd (gB1_f hk2) h13) (fun h13 => ?_)
  exact x_throw K gThr_IllegalArgumentException gTxt_212 hE rfl ⟨by decide, (Nat.le_of_ble_eq_true rfl)⟩ (by decide) (by decide) dX6_count_16 dX6_count_19 dX6_count_20 dX6_count_22 dX6_count_25
theorem c6_count {E : gE} {σ : gS} (Y : Nat → Int) (h : gSh σ 0 Y) (hY : gY Y) (s k : Int) (hs : -2147483648 ≤ s ∧ s < 2147483648) (hk : -2147483648 ≤ k ∧ k < 2147483648) (hh : gHit Y s) (hk2 : 0 ≤ k ∧ k ≤ 9) : gCt E mX6_count 12 0 [rf 0 0, iv s, iv k] σ (.inl (some (iv (s_ho (zb Y s.toNat) k)))) σ := by
  refine gCt_of (L := [some (rf 0 0), some (iv s), some (iv k), none]) (by decide +kernel) rfl rfl (Nat.le_of_ble_eq_true rfl) (fun X K hE => ?_)
  have hY0 := hY.1
  have hi : 5 * 0 + s.toNat < 56 := by omega
  have hz := hY.2 s.toNat (by omega)
  have hgs := h.2 s.toNat (by omega)
  have ⟨e0, e1, e2, e3, e4, e5, es, eb, em, et⟩ := hgs
  have ⟨z0, z1, z2, z3, _⟩ := hz
  refine x_aload_0 K dX6_count_0 ?_
  refine x_iload_1 K dX6_count_1 ?_
  refine x_callV1 K (c6_existing Y h hY s hh) mtX6_existing miX6_existing rc0 ⟨by decide, (by decide)⟩ lkRX6_64 ⟨by decide, by decide, by decide⟩ rfl (Nat.le_of_ble_eq_true rfl) dX6_count_2 ?_
  refine x_astore_3 K dX6_count_5 rfl ?_
  refine x_iload_2 K dX6_count_6 ?_
  refine x_iconst K dX6_count_7 ?_
  refine x_bipush K dX6_count_8 rfl ?_
  refine x_callS3 K (c6_isWithin k 0 9 (by omega)) mtX6_isWithin msX6_isWithin lkRX6_208 ⟨by decide, by decide, by decide⟩ rfl (Nat.le_of_ble_eq_true rfl) dX6_count_10 ?_
  have bw := gB1_bd (0 ≤ k ∧ k ≤ 9)
  refine x_if_ne (tgt := 26) K (by omega) dX6_count_13 (by decide) (fun h13 => ?_) (fun h13 => absurd (gB1_t hk2) (by omega))
  refine x_aload_3 K dX6_count_26 ?_
  refine x_iload_2 K dX6_count_27 ?_
  refine x_callV1 K (c4_howOften (5 * 0 + s.toNat) hi (zb Y s.toNat) hgs hz k hk2) mtX4_howOften miX4_howOften rc3 ⟨by decide, hi⟩ lkRX6_214 ⟨by decide, by decide, by decide⟩ rfl (Nat.le_of_ble_eq_true rfl) dX6_count_28 ?_
  exact x_iret K hE rfl dX6_count_31 (by decide) (by decide) rfl rfl
theorem gScr_sn {σ : gS} {i : Nat} {z : Nat → Int} (h : gScr σ i z) : gScr (gSn0 σ) i z := gScr_ext (fun a c h3 h7 => gSn0_at σ a i c (by omega)) h
theorem gSn0_n (σ : gS) : (gSn0 σ).1 12 0 3 = 0 := gU_same _ _ _ _ _
theorem gSn0_1 (σ : gS) : (gSn0 σ).1 12 0 1 = σ.1 12 0 1 := gSn0_at σ 12 0 1 (by omega)
def gLi (σ : gS) (z : Nat → Int) (r : Nat) : gS := gTx (gSn0 σ) (gLn z r)
theorem c6_line_1 {E : gE} {σ : gS} (Y : Nat → Int) (h : gSh σ 0 Y) (hY : gY Y) (s r : Int) (hs : -2147483648 ≤ s ∧ s < 2147483648) (hr : -2147483648 ≤ r ∧ r < 2147483648) (hh : ¬ gRow Y s r) : gCt E mX6_line 12 1 [rf 0 0, iv s, iv r] σ (.inr "java/lang/IndexOutOfBoundsException") σ := by
  refine gCt_of (L := [some (rf 0 0), some (iv s), some (iv r), none]) (by decide +kernel) rfl rfl (Nat.le_of_ble_eq_true rfl) (fun X K hE => ?_)
  refine x_aload_0 K dX6_line_0 ?_
  refine x_iload_1 K dX6_line_1 ?_
  refine x_iload_2 K dX6_line_2 ?_
  refine x_callV2x K (c6_withRow_x Y h hY s r hs hr hh) mtX6_withRow miX6_withRow rc0 ⟨by decide, (by decide)⟩ lkRX6_121 ⟨by decide, by decide, by decide⟩ rfl (Nat.le_of_ble_eq_true rfl) dX6_line_3 hE
theorem c6_line {E : gE} {σ : gS} (Y : Nat → Int) (h : gSh σ 0 Y) (hY : gY Y) (s r : Int) (hs : -2147483648 ≤ s ∧ s < 2147483648) (hr : -2147483648 ≤ r ∧ r < 2147483648) (hh : gRow Y s r) (h1 : σ.1 12 0 1 = 0) (h3 : 0 ≤ σ.1 12 0 3 ∧ σ.1 12 0 3 ≤ 16) : gCt E mX6_line 12 0 [rf 0 0, iv s, iv r] σ (.inl (some (iv (((gLn (zb Y s.toNat) r.toNat).length : Int))))) (gLi σ (zb Y s.toNat) r.toNat) := by
  refine gCt_of (L := [some (rf 0 0), some (iv s), some (iv r), none]) (by decide +kernel) rfl rfl (Nat.le_of_ble_eq_true rfl) (fun X K hE => ?_)
  have hY0 := hY.1
  have hhit := hh.1
  have hi : 5 * 0 + s.toNat < 56 := by omega
  have hz := hY.2 s.toNat (by omega)
  have hgs := h.2 s.toNat (by omega)
  have ⟨e0, e1, e2, e3, e4, e5, es, eb, em, et⟩ := hgs
  have ⟨z0, z1, z2, z3, _⟩ := hz
  obtain ⟨r, rfl⟩ : ∃ r2 : Nat, r = (r2 : Int) := ⟨r.toNat, by omega⟩
  refine x_aload_0 K dX6_line_0 ?_
  refine x_iload_1 K dX6_line_1 ?_
  refine x_iload_2 K dX6_line_2 ?_
  refine x_callV2 K (c6_withRow Y h hY s r hr hh) mtX6_withRow miX6_withRow rc0 ⟨by decide, (by decide)⟩ lkRX6_121 ⟨by decide, by decide, by decide⟩ rfl (Nat.le_of_ble_eq_true rfl) dX6_line_3 ?_
  refine x_astore_3 K dX6_line_6 rfl ?_
  refine x_aload_0 K dX6_line_7 ?_
  refine x_getC K gfRX6_46 ⟨by decide, (by decide)⟩ dX6_line_8 ?_
  refine x_iconst K dX6_line_11 ?_
  refine x_callV1v K (cJ4_setLength h1 h3) mtJ4_setLength_d00df miJ4_setLength_d00df rc12 ⟨by decide, by decide⟩ lkRX6_217 ⟨by decide, by decide, by decide⟩ rfl (Nat.le_of_ble_eq_true rfl) dX6_line_12 ?_
  refine x_aload_3 K dX6_line_15 ?_
  refine x_aload_0 K dX6_line_16 ?_
  refine x_getC K gfRX6_46 ⟨by decide, (by decide)⟩ dX6_line_17 ?_
  refine x_iload_2 K dX6_line_20 ?_
  refine x_callV2v K (c4_writeRowOn (σ := gSn0 σ) (5 * 0 + s.toNat) hi (zb Y s.toNat) (gScr_sn hgs) hz r (by omega) ((gSn0_1 σ).trans h1) (gSn0_n σ)) mtX4_writeRowOn miX4_writeRowOn rc3 ⟨by decide, hi⟩ lkRX6_221 ⟨by decide, by decide, by decide⟩ rfl (Nat.le_of_ble_eq_true rfl) dX6_line_21 ?_
  refine x_aload_0 K dX6_line_24 ?_
  refine x_getC K gfRX6_46 ⟨by decide, (by decide)⟩ dX6_line_25 ?_
  refine x_callV0 K cJ4_length mtJ4_length_8abf5 miJ4_length_8abf5 rc12 ⟨by decide, by decide⟩ lkRX6_225 ⟨by decide, by decide, by decide⟩ rfl (Nat.le_of_ble_eq_true rfl) dX6_line_28 ?_
  exact x_iret K hE rfl dX6_line_31 (by decide) (by decide) (gTx_n _ _) rfl
theorem c6_character_1 {E : gE} {σ : gS} (k : Nat) (hk : σ.1 12 0 3 = (k : Int)) (hk2 : k ≤ 16) (i : Int) (hi : -2147483648 ≤ i ∧ i < 2147483648) (hh : ¬ (0 ≤ i ∧ i < (k : Int))) : gCt E mX6_character 12 1 [rf 0 0, iv i] σ (.inr "java/lang/IndexOutOfBoundsException") σ := by
  refine gCt_of (L := [some (rf 0 0), some (iv i)]) (by decide +kernel) rfl rfl (Nat.le_of_ble_eq_true rfl) (fun X K hE => ?_)
  refine x_iload_1 K dX6_character_0 ?_
  refine x_if_lt (tgt := 15) K (by omega) dX6_character_1 (by decide) (fun h1 => ?_) (fun h1 => ?_)
  · exact x_throw K gThr_IndexOutOfBoundsException gTxt_230 hE rfl ⟨by decide, (Nat.le_of_ble_eq_true rfl)⟩ (by decide) (by decide) dX6_character_15 dX6_character_18 dX6_character_19 dX6_character_21 dX6_character_24
  · refine x_iload_1 K dX6_character_4 ?_
    refine x_aload_0 K dX6_character_5 ?_
    refine x_getC K gfRX6_46 ⟨by decide, (by decide)⟩ dX6_character_6 ?_
    refine x_callV0 K cJ4_length mtJ4_length_8abf5 miJ4_length_8abf5 rc12 ⟨by decide, by decide⟩ lkRX6_225 ⟨by decide, by decide, by decide⟩ rfl (Nat.le_of_ble_eq_true rfl) dX6_character_9 ?_
    refine x_icmp_lt (tgt := 25) K (by omega) dX6_character_12 (by decide) (fun h12 => absurd (show _ ∧ _ from ⟨by omega, by omega⟩) hh) (fun h12 => ?_)
    exact x_throw K gThr_IndexOutOfBoundsException gTxt_230 hE rfl ⟨by decide, (Nat.le_of_ble_eq_true rfl)⟩ (by decide) (by decide) dX6_character_15 dX6_character_18 dX6_character_19 dX6_character_21 dX6_character_24
theorem c6_character {E : gE} {σ : gS} (k : Nat) (hk : σ.1 12 0 3 = (k : Int)) (hk2 : k ≤ 16) (i : Int) (hi : -2147483648 ≤ i ∧ i < 2147483648) (hh : 0 ≤ i ∧ i < (k : Int)) (h1 : σ.1 12 0 1 = 0) (hb : 0 ≤ σ.1 13 0 i.toNat ∧ σ.1 13 0 i.toNat < 128) : gCt E mX6_character 12 0 [rf 0 0, iv i] σ (.inl (some (iv (σ.1 13 0 i.toNat)))) σ := by
  refine gCt_of (L := [some (rf 0 0), some (iv i)]) (by decide +kernel) rfl rfl (Nat.le_of_ble_eq_true rfl) (fun X K hE => ?_)
  obtain ⟨i, rfl⟩ : ∃ i2 : Nat, i = (i2 : Int) := ⟨i.toNat, by omega⟩
  have hb2 : 0 ≤ σ.1 13 0 i ∧ σ.1 13 0 i < 128 := hb
  refine x_iload_1 K dX6_character_0 ?_
  refine x_if_lt (tgt := 15) K (by omega) dX6_character_1 (by decide) (fun h1x => absurd h1x (by omega)) (fun h1x => ?_)
  refine x_iload_1 K dX6_character_4 ?_
  refine x_aload_0 K dX6_character_5 ?_
  refine x_getC K gfRX6_46 ⟨by decide, (by decide)⟩ dX6_character_6 ?_
  refine x_callV0 K cJ4_length mtJ4_length_8abf5 miJ4_length_8abf5 rc12 ⟨by decide, by decide⟩ lkRX6_225 ⟨by decide, by decide, by decide⟩ rfl (Nat.le_of_ble_eq_true rfl) dX6_character_9 ?_
  refine x_icmp_lt (tgt := 25) K (by omega) dX6_character_12 (by decide) (fun h12 => ?_) (fun h12 => absurd h12 (by omega))
  refine x_aload_0 K dX6_character_25 ?_
  refine x_getC K gfRX6_46 ⟨by decide, (by decide)⟩ dX6_character_26 ?_
  refine x_iload_1 K dX6_character_29 ?_
  refine x_callV1 K (cJ4_charAt h1 k hk hk2 i (by omega) hb2) mtJ4_charAt_5068e miJ4_charAt_5068e rc12 ⟨by decide, by decide⟩ lkRX6_233 ⟨by decide, by decide, by decide⟩ rfl (Nat.le_of_ble_eq_true rfl) dX6_character_30 ?_
  exact x_cret K hE rfl dX6_character_33 (by decide) (by decide) (by omega) rfl rfl
theorem c6_append_1 {E : gE} {σ : gS} (T : Nat → Int) (l : Nat) (h : gIn σ T l) (hl : l = 60) (c : Int) : gCt E mX6_append 12 1 [rf 0 0, iv c] σ (.inr "java/lang/IllegalStateException") σ := by
  refine gCt_of (L := [some (rf 0 0), some (iv c)]) (by decide +kernel) rfl rfl (Nat.le_of_ble_eq_true rfl) (fun X K hE => ?_)
  refine x_aload_0 K dX6_append_0 ?_
  refine x_getC K gfRX6_39 ⟨by decide, (by decide)⟩ dX6_append_1 ?_
  refine x_callV0 K (c3_isFull T l h) mtX3_isFull miX3_isFull rc10 ⟨by decide, by decide⟩ lkRX6_237 ⟨by decide, by decide, by decide⟩ rfl (Nat.le_of_ble_eq_true rfl) dX6_append_4 ?_
  have bf := gB1_bd (l = 60)
  refine x_if_eq (tgt := 20) K (by omega) dX6_append_7 (by decide) (fun h7 => absurd (gB1_t hl) (by omega)) (fun h7 => ?_)
  exact x_throw K gThr_IllegalStateException gTxt_242 hE rfl ⟨by decide, (Nat.le_of_ble_eq_true rfl)⟩ (by decide) (by decide) dX6_append_10 dX6_append_13 dX6_append_14 dX6_append_16 dX6_append_19
theorem c6_append {E : gE} {σ : gS} (T : Nat → Int) (l : Nat) (h : gIn σ T l) (hl : l < 60) (c : Int) (hc : 0 ≤ c ∧ c < 65536) : gCt E mX6_append 12 0 [rf 0 0, iv c] σ (.inl (some (iv ((l : Int) + 1)))) (gU (gU σ 11 0 l c) 10 0 1 ((l : Int) + 1)) := by
  refine gCt_of (L := [some (rf 0 0), some (iv c)]) (by decide +kernel) rfl rfl (Nat.le_of_ble_eq_true rfl) (fun X K hE => ?_)
  refine x_aload_0 K dX6_append_0 ?_
  refine x_getC K gfRX6_39 ⟨by decide, (by decide)⟩ dX6_append_1 ?_
  refine x_callV0 K (c3_isFull T l h) mtX3_isFull miX3_isFull rc10 ⟨by decide, by decide⟩ lkRX6_237 ⟨by decide, by decide, by decide⟩ rfl (Nat.le_of_ble_eq_true rfl) dX6_append_4 ?_
  have bf := gB1_bd (l = 60)
  refine x_if_eq (tgt := 20) K (by omega) dX6_append_7 (by decide) (fun h7 => ?_) (fun h7 => absurd (gB1_f (by omega)) h7)
  refine x_aload_0 K dX6_append_20 ?_
  refine x_getC K gfRX6_39 ⟨by decide, (by decide)⟩ dX6_append_21 ?_
  refine x_iload_1 K dX6_append_24 ?_
  refine x_callV1v K (c3_add T l h hl c hc) mtX3_add miX3_add rc10 ⟨by decide, by decide⟩ lkRX6_245 ⟨by decide, by decide, by decide⟩ rfl (Nat.le_of_ble_eq_true rfl) dX6_append_25 ?_
  refine x_aload_0 K dX6_append_28 ?_
  refine x_getC K gfRX6_39 ⟨by decide, (by decide)⟩ dX6_append_29 ?_
  refine x_getI K gfRX6_249 ⟨by decide, (by decide)⟩ dX6_append_32 ?_
  exact x_iret K hE rfl dX6_append_35 (by decide) (by decide) (gU_same _ _ _ _ _) rfl
-- not reached: X6_errorPosition
theorem c6_refusal_1 {E : gE} {σ : gS} (hb : σ.1 0 0 9 = 0 ∨ 1 ≤ σ.1 0 0 9 ∧ σ.1 0 0 9 ≤ 7) (b : Int) (hb01 : 0 ≤ b ∧ b ≤ 1) (hh : σ.1 0 0 9 = 0) : gCt E mX6_refusal 12 1 [rf 0 0, iv b] σ (.inr "java/util/NoSuchElementException") σ := by
  refine gCt_of (L := [some (rf 0 0), some (iv b)]) (by decide +kernel) rfl rfl (Nat.le_of_ble_eq_true rfl) (fun X K hE => ?_)
  refine x_aload_0 K dX6_refusal_0 ?_
  refine x_getI K gfRX6_274 ⟨by decide, (by decide)⟩ dX6_refusal_1 ?_
  refine x_if_ne (tgt := 18) K (by omega) dX6_refusal_4 (by decide) (fun h4 => absurd hh h4) (fun h4 => ?_)
  exact x_throwwN K gThN gTxt_277 hE rfl ⟨by decide, (Nat.le_of_ble_eq_true rfl)⟩ (by decide) (by decide) dX6_refusal_7 dX6_refusal_10 dX6_refusal_11 dX6_refusal_14 dX6_refusal_17
theorem c6_refusal {E : gE} {σ : gS} (hb : σ.1 0 0 9 = 0 ∨ 1 ≤ σ.1 0 0 9 ∧ σ.1 0 0 9 ≤ 7) (b : Int) (hb01 : 0 ≤ b ∧ b ≤ 1) (hh : σ.1 0 0 9 ≠ 0) : gCt E mX6_refusal 12 0 [rf 0 0, iv b] σ (.inl (some (iv (if b = 0 then σ.1 0 0 9 else σ.1 0 0 10)))) σ := by
  refine gCt_of (L := [some (rf 0 0), some (iv b)]) (by decide +kernel) rfl rfl (Nat.le_of_ble_eq_true rfl) (fun X K hE => ?_)
  refine x_aload_0 K dX6_refusal_0 ?_
  refine x_getI K gfRX6_274 ⟨by decide, (by decide)⟩ dX6_refusal_1 ?_
  refine x_if_ne (tgt := 18) K (by omega) dX6_refusal_4 (by decide) (fun h4 => ?_) (fun h4 => absurd h4 hh)
  refine x_iload_1 K dX6_refusal_18 ?_
  refine x_if_eq (tgt := 29) K (by omega) dX6_refusal_19 (by decide) (fun h19 => ?_) (fun h19 => ?_)
  · refine x_aload_0 K dX6_refusal_29 ?_
    refine x_getI K gfRX6_274 ⟨by decide, (by decide)⟩ dX6_refusal_30 ?_
    exact x_iret K hE rfl dX6_refusal_33 (by decide) (by decide) (by first | exact (if_pos h19).symm | exact (if_neg h19).symm) rfl
  · refine x_aload_0 K dX6_refusal_22 ?_
    refine x_getI K gfRX6_279 ⟨by decide, (by decide)⟩ dX6_refusal_23 ?_
    refine x_goto (tgt := 33) K dX6_refusal_26 (by decide) ?_
    exact x_iret K hE rfl dX6_refusal_33 (by decide) (by decide) (by first | exact (if_pos h19).symm | exact (if_neg h19).symm) rfl
theorem c6_isWell {E : gE} {σ : gS} (Y : Nat → Int) (h : gSh σ 0 Y) (hY : gY Y) : gCt E mX6_isWell 12 0 [rf 0 0] σ (.inl (some (iv (s_well Y)))) σ := by
  refine gCt_of (L := [some (rf 0 0)]) (by decide +kernel) rfl rfl (Nat.le_of_ble_eq_true rfl) (fun X K hE => ?_)
  refine x_aload_0 K dX6_isWell_0 ?_
  refine x_getC K gfRX6_12 ⟨by decide, (by decide)⟩ dX6_isWell_1 ?_
  refine x_callV0 K (c5_isConsistent 0 (by omega) Y h hY) mtX5_isConsistent miX5_isConsistent rc1 ⟨by decide, by decide⟩ lkRX6_298 ⟨by decide, by decide, by decide⟩ rfl (Nat.le_of_ble_eq_true rfl) dX6_isWell_4 ?_
  exact x_zret K hE rfl dX6_isWell_7 (by decide) (by decide) (by have := gB1_bd (Int32.ofInt (s_me Y) = Int32.ofInt (Y 3) ∧ Int32.ofInt (s_fi Y) = Int32.ofInt (Y 4)); unfold s_well; omega) rfl rfl
theorem c6_account_1 {E : gE} {σ : gS} (k : Int) (hk : -2147483648 ≤ k ∧ k < 2147483648) (hk2 : ¬ (0 ≤ k ∧ k ≤ 11)) : gCt E mX6_account 12 1 [rf 0 0, iv k] σ (.inr "java/lang/IllegalArgumentException") σ := by
  refine gCt_of (L := [some (rf 0 0), some (iv k)]) (by decide +kernel) rfl rfl (Nat.le_of_ble_eq_true rfl) (fun X K hE => ?_)
  refine x_iload_1 K dX6_account_0 ?_
  refine x_tblOut (tgt := 88) K (by omega) (by omega) dX6_account_1 (by decide) ?_
  refine x_iload_1 K dX6_account_88 ?_
  refine x_iconst K dX6_account_89 ?_
  refine x_iconst K dX6_account_90 ?_
  refine x_callS3 K (c6_isWithin k 0 5 (by omega)) mtX6_isWithin msX6_isWithin lkRX6_208 ⟨by decide, by decide, by decide⟩ rfl (Nat.le_of_ble_eq_true rfl) dX6_account_91 ?_
  have bw := gB1_bd (0 ≤ k ∧ k ≤ 5)
  have bw2 : gB1 (0 ≤ k ∧ k ≤ 5) = 0 := gB1_f (by omega)
  refine x_if_ne (tgt := 108) K (by omega) dX6_account_94 (by decide) (fun h94 => absurd bw2 h94) (fun h94 => ?_)
  exact x_throww K gThr_IllegalArgumentException gTxt_293 hE rfl ⟨by decide, (Nat.le_of_ble_eq_true rfl)⟩ (by decide) (by decide) dX6_account_97 dX6_account_100 dX6_account_101 dX6_account_104 dX6_account_107
theorem c6_account_a {E : gE} {σ : gS} (Y : Nat → Int) (h : gSh σ 0 Y) (hY : gY Y) (k : Nat) (hk : k ≤ 5) : gCt E mX6_account 12 0 [rf 0 0, iv (k : Int)] σ (.inl (some (iv (s_au Y k)))) σ := by
  refine gCt_of (L := [some (rf 0 0), some (iv (k : Int))]) (by decide +kernel) rfl rfl (Nat.le_of_ble_eq_true rfl) (fun X K hE => ?_)
  refine x_iload_1 K dX6_account_0 ?_
  refine x_tblOut (tgt := 88) K (by omega) (by omega) dX6_account_1 (by decide) ?_
  refine x_iload_1 K dX6_account_88 ?_
  refine x_iconst K dX6_account_89 ?_
  refine x_iconst K dX6_account_90 ?_
  refine x_callS3 K (c6_isWithin (k : Int) 0 5 (by omega)) mtX6_isWithin msX6_isWithin lkRX6_208 ⟨by decide, by decide, by decide⟩ rfl (Nat.le_of_ble_eq_true rfl) dX6_account_91 ?_
  have bw2 : gB1 (0 ≤ (k : Int) ∧ (k : Int) ≤ 5) = 1 := gB1_t (by omega)
  refine x_if_ne (tgt := 108) K (by omega) dX6_account_94 (by decide) (fun h94 => ?_) (fun h94 => absurd h94 (by omega))
  refine x_aload_0 K dX6_account_108 ?_
  refine x_getC K gfRX6_12 ⟨by decide, (by decide)⟩ dX6_account_109 ?_
  refine x_iload_1 K dX6_account_112 ?_
  refine x_callV1 K (c5_addedUp 0 (by omega) Y h hY k hk) mtX5_addedUp miX5_addedUp rc1 ⟨by decide, by decide⟩ lkRX6_295 ⟨by decide, by decide, by decide⟩ rfl (Nat.le_of_ble_eq_true rfl) dX6_account_113 ?_
  exact x_iret K hE rfl dX6_account_116 (by decide) (by decide) rfl rfl
def s_ac (σ : gS) (k : Nat) : Int := if k = 10 then σ.1 10 0 1 else if k = 11 then σ.1 8 0 1 else σ.1 1 0 (k - 4)
theorem c6_account_b {E : gE} {σ : gS} (k : Nat) (hk : 6 ≤ k ∧ k ≤ 11) : gCt E mX6_account 12 0 [rf 0 0, iv (k : Int)] σ (.inl (some (iv (s_ac σ k)))) σ := by
  refine gCt_of (L := [some (rf 0 0), some (iv (k : Int))]) (by decide +kernel) rfl rfl (Nat.le_of_ble_eq_true rfl) (fun X K hE => ?_)
  refine x_iload_1 K dX6_account_0 ?_
  obtain rfl | rfl | rfl | rfl | rfl | rfl : k = 6 ∨ k = 7 ∨ k = 8 ∨ k = 9 ∨ k = 10 ∨ k = 11 := by omega
  · refine x_tblIn (tgt := 40) K 0 (by decide) (by decide) (by decide) rfl dX6_account_1 (by decide) ?_
    refine x_aload_0 K dX6_account_40 ?_
    refine x_getC K gfRX6_12 ⟨by decide, (by decide)⟩ dX6_account_41 ?_
    refine x_getI K gfRX6_282 ⟨by decide, by decide⟩ dX6_account_44 ?_
    exact x_iret K hE rfl dX6_account_47 (by decide) (by decide) rfl rfl
  · refine x_tblIn (tgt := 48) K 1 (by decide) (by decide) (by decide) rfl dX6_account_1 (by decide) ?_
    refine x_aload_0 K dX6_account_48 ?_
    refine x_getC K gfRX6_12 ⟨by decide, (by decide)⟩ dX6_account_49 ?_
    refine x_getI K gfRX6_285 ⟨by decide, by decide⟩ dX6_account_52 ?_
    exact x_iret K hE rfl dX6_account_55 (by decide) (by decide) rfl rfl
  · refine x_tblIn (tgt := 56) K 2 (by decide) (by decide) (by decide) rfl dX6_account_1 (by decide) ?_
    refine x_aload_0 K dX6_account_56 ?_
    refine x_getC K gfRX6_12 ⟨by decide, (by decide)⟩ dX6_account_57 ?_
    refine x_getI K gfRX6_288 ⟨by decide, by decide⟩ dX6_account_60 ?_
    exact x_iret K hE rfl dX6_account_63 (by decide) (by decide) rfl rfl
  · refine x_tblIn (tgt := 64) K 3 (by decide) (by decide) (by decide) rfl dX6_account_1 (by decide) ?_
    refine x_aload_0 K dX6_account_64 ?_
    refine x_getC K gfRX6_12 ⟨by decide, (by decide)⟩ dX6_account_65 ?_
    refine x_getI K gfRX6_289 ⟨by decide, by decide⟩ dX6_account_68 ?_
    exact x_iret K hE rfl dX6_account_71 (by decide) (by decide) rfl rfl
  · refine x_tblIn (tgt := 72) K 4 (by decide) (by decide) (by decide) rfl dX6_account_1 (by decide) ?_
    refine x_aload_0 K dX6_account_72 ?_
    refine x_getC K gfRX6_39 ⟨by decide, (by decide)⟩ dX6_account_73 ?_
    refine x_getI K gfRX6_249 ⟨by decide, by decide⟩ dX6_account_76 ?_
    exact x_iret K hE rfl dX6_account_79 (by decide) (by decide) rfl rfl
  · refine x_tblIn (tgt := 80) K 5 (by decide) (by decide) (by decide) rfl dX6_account_1 (by decide) ?_
    refine x_aload_0 K dX6_account_80 ?_
    refine x_getC K gfRX6_25 ⟨by decide, (by decide)⟩ dX6_account_81 ?_
    refine x_getI K gfRX6_290 ⟨by decide, by decide⟩ dX6_account_84 ?_
    exact x_iret K hE rfl dX6_account_87 (by decide) (by decide) rfl rfl
