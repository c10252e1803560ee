/-! ===== ScrollChecks$Shelf: what changes it ===== -/
theorem c5_findG {E : gE} {σ : gS} (sh : Nat) (hs : sh < 11) (N : Int) (hc : σ.1 1 sh 1 = N) (h5 : N ≤ 5) (n : Nat) (hn : (n : Int) < N) : gCt E mX5_find 1 0 [rf 1 sh, iv (n : Int)] σ (.inl (some (rf 3 (5 * sh + n)))) σ := by
  refine gCt_of (L := [some (rf 1 sh), some (iv (n : Int))]) (by decide +kernel) rfl rfl (Nat.le_of_ble_eq_true rfl) (fun X K hE => ?_)
  refine x_iload_1 K dX5_find_0 ?_
  refine x_if_lt (tgt := 30) K (by omega) dX5_find_1 (by decide) (fun h1 => absurd h1 (by omega)) (fun h1 => ?_)
  refine x_iload_1 K dX5_find_4 ?_
  refine x_aload_0 K dX5_find_5 ?_
  refine x_getI K gfRX5_18 ⟨by decide, hs⟩ dX5_find_6 ?_
  refine x_icmp_ge (tgt := 30) K (by omega) dX5_find_9 (by decide) (fun h9 => absurd h9 (by omega)) (fun h9 => ?_)
  refine x_iload_1 K dX5_find_12 ?_
  refine x_aload_0 K dX5_find_13 ?_
  refine x_getR K gfRX5_11 ⟨by decide, hs⟩ dX5_find_14 ?_
  refine x_alen2 K hs dX5_find_17 ?_
  refine x_icmp_ge (tgt := 30) K (by omega) dX5_find_18 (by decide) (fun h18 => absurd h18 (by omega)) (fun h18 => ?_)
  refine x_aload_0 K dX5_find_21 ?_
  refine x_getR K gfRX5_11 ⟨by decide, hs⟩ dX5_find_22 ?_
  refine x_iload_1 K dX5_find_25 ?_
  refine x_aald2 K n rfl hs (by omega) dX5_find_26 ?_
  refine x_goto (tgt := 31) K dX5_find_27 (by decide) ?_
  exact x_aret K hE rfl dX5_find_31 (by decide) (by decide) rfl rfl
theorem gShP_c (σ : gS) (sh : Nat) (i : Nat) (z : Nat → Int) (v : Int) : (gPut (gU σ 1 sh 1 v) i z).1 1 sh 1 = v := by rw [gPut_ok _ _ _ (by omega), gU_same]
theorem gScr_u1 {σ : gS} {i : Nat} {z : Nat → Int} (h : gScr σ i z) (sh j : Nat) (v : Int) : gScr (gU σ 1 sh j v) i z := gScr_ext (fun a c h3 h7 => by rw [gU_at, if_neg (by omega)]) h
theorem c5_beginScroll {E : gE} {σ : gS} (sh : Nat) (hs : sh < 11) (Y : Nat → Int) (h : gSh σ sh Y) (hY : gY Y) (r c : Int) (h5 : ¬ 5 ≤ Y 0) : gCt E mX5_beginScroll 3 0 [rf 1 sh, iv r, iv c] σ (.inl (some (iv (Y 0)))) (gShPut σ sh (ySet (yF Y 0 (Y 0 + 1)) (Y 0).toNat (zNew r c))) := by
  refine gCt_of (L := [some (rf 1 sh), some (iv r), some (iv c), none]) (by decide +kernel) rfl rfl (Nat.le_of_ble_eq_true rfl) (fun X K hE => ?_)
  have hN := K.2.2.2.2.1
  have ⟨⟨f1, f2, f3, f4, f5⟩, hsc⟩ := h
  have hY0 := hY.1
  have hi : 5 * sh + (Y 0).toNat < 56 := by omega
  refine x_aload_0 K dX5_beginScroll_0 ?_
  refine x_dup K dX5_beginScroll_1 rfl ?_
  refine x_getI K gfRX5_18 ⟨by decide, hs⟩ dX5_beginScroll_2 ?_
  refine gWX.top (b := Y 0) f1 ?_
  refine x_iconst K dX5_beginScroll_5 ?_
  refine x_iadd K dX5_beginScroll_6 ?_
  refine x_putI K gpRX5_18 ⟨by decide, hs⟩ dX5_beginScroll_7 ?_
  refine x_aload_0 K dX5_beginScroll_10 ?_
  refine x_aload_0 K dX5_beginScroll_11 ?_
  refine x_getI K gfRX5_18 ⟨by decide, hs⟩ dX5_beginScroll_12 ?_
  refine gWX.top (b := Y 0 + 1) (gU_same _ _ _ _ _) ?_
  refine x_iconst K dX5_beginScroll_15 ?_
  refine x_isub K dX5_beginScroll_16 ?_
  refine gWX.top (b := ((Y 0).toNat : Int)) (by omega) ?_
  refine x_callV1 K (c5_findG (σ := gU σ 1 sh 1 (Y 0 + 1)) sh hs (Y 0 + 1) (gU_same _ _ _ _ _) (by omega) (Y 0).toNat (by omega)) mtX5_find miX5_find rc1 ⟨by decide, hs⟩ lkRX5_34 ⟨by decide, by decide, by decide⟩ rfl (Nat.le_of_ble_eq_true rfl) dX5_beginScroll_17 ?_
  refine x_astore_3 K dX5_beginScroll_20 rfl ?_
  refine x_aload_3 K dX5_beginScroll_21 ?_
  refine x_ifnull K dX5_beginScroll_22 ?_
  refine x_aload_3 K dX5_beginScroll_25 ?_
  refine x_iload_1 K dX5_beginScroll_26 ?_
  refine x_iload_2 K dX5_beginScroll_27 ?_
  refine x_callV2v K (c4_begin (5 * sh + (Y 0).toNat) hi r c) mtX4_begin miX4_begin rc3 ⟨by decide, hi⟩ lkRX5_123 ⟨by decide, by decide, by decide⟩ rfl (Nat.le_of_ble_eq_true rfl) dX5_beginScroll_28 ?_
  refine x_aload_0 K dX5_beginScroll_31 ?_
  refine x_getI K gfRX5_18 ⟨by decide, hs⟩ dX5_beginScroll_32 ?_
  refine gWX.top (b := Y 0 + 1) (gShP_c _ _ _ _ _) ?_
  refine x_iconst K dX5_beginScroll_35 ?_
  refine x_isub K dX5_beginScroll_36 ?_
  exact x_iret K hE rfl dX5_beginScroll_37 (by decide) (by decide) (by omega) (gShPut_N h hY h5 _)
theorem c5_addCopy {E : gE} {σ : gS} (sh : Nat) (hs : sh < 11) (Y : Nat → Int) (h : gSh σ sh Y) (hY : gY Y) (s : Int) (hh : gHit Y s) (h5 : ¬ 5 ≤ Y 0) : gCt E mX5_addCopy 4 0 [rf 1 sh, rf 3 (5 * sh + s.toNat), iv s] σ (.inl (some (iv (Y 0)))) (gShPut σ sh (ySet (yF Y 0 (Y 0 + 1)) (Y 0).toNat (zCopy (zb Y s.toNat) s))) := by
  refine gCt_of (L := [some (rf 1 sh), some (rf 3 (5 * sh + s.toNat)), some (iv s), none]) (by decide +kernel) rfl rfl (Nat.le_of_ble_eq_true rfl) (fun X K hE => ?_)
  have hN := K.2.2.2.2.1
  have ⟨⟨f1, f2, f3, f4, f5⟩, hsc⟩ := h
  have hY0 := hY.1
  have hi : 5 * sh + (Y 0).toNat < 56 := by omega
  have hk : 5 * sh + s.toNat < 56 := by omega
  have hz := hY.2 s.toNat (by omega)
  have hgs := gScr_u1 (hsc s.toNat (by omega)) sh 1 (Y 0 + 1)
  refine x_aload_0 K dX5_addCopy_0 ?_
  refine x_dup K dX5_addCopy_1 rfl ?_
  refine x_getI K gfRX5_18 ⟨by decide, hs⟩ dX5_addCopy_2 ?_
  refine gWX.top (b := Y 0) f1 ?_
  refine x_iconst K dX5_addCopy_5 ?_
  refine x_iadd K dX5_addCopy_6 ?_
  refine x_putI K gpRX5_18 ⟨by decide, hs⟩ dX5_addCopy_7 ?_
  refine x_aload_0 K dX5_addCopy_10 ?_
  refine x_aload_0 K dX5_addCopy_11 ?_
  refine x_getI K gfRX5_18 ⟨by decide, hs⟩ dX5_addCopy_12 ?_
  refine gWX.top (b := Y 0 + 1) (gU_same _ _ _ _ _) ?_
  refine x_iconst K dX5_addCopy_15 ?_
  refine x_isub K dX5_addCopy_16 ?_
  refine gWX.top (b := ((Y 0).toNat : Int)) (by omega) ?_
  refine x_callV1 K (c5_findG (σ := gU σ 1 sh 1 (Y 0 + 1)) sh hs (Y 0 + 1) (gU_same _ _ _ _ _) (by omega) (Y 0).toNat (by omega)) mtX5_find miX5_find rc1 ⟨by decide, hs⟩ lkRX5_34 ⟨by decide, by decide, by decide⟩ rfl (Nat.le_of_ble_eq_true rfl) dX5_addCopy_17 ?_
  refine x_astore_3 K dX5_addCopy_20 rfl ?_
  refine x_aload_3 K dX5_addCopy_21 ?_
  refine x_ifnull K dX5_addCopy_22 ?_
  refine x_aload_3 K dX5_addCopy_25 ?_
  refine x_aload_1 K dX5_addCopy_26 ?_
  refine x_callV1v K (c4_become (5 * sh + (Y 0).toNat) hi (5 * sh + s.toNat) hk (by omega) (zb Y s.toNat) hgs hz) mtX4_become miX4_become rc3 ⟨by decide, hi⟩ lkRX5_38 ⟨by decide, by decide, by decide⟩ rfl (Nat.le_of_ble_eq_true rfl) dX5_addCopy_27 ?_
  refine x_aload_3 K dX5_addCopy_30 ?_
  refine x_iload_2 K dX5_addCopy_31 ?_
  refine x_callV1v K (c4_countAsCopyOf (5 * sh + (Y 0).toNat) hi (zb Y s.toNat) (gScr_put _ _ _) s) mtX4_countAsCopyOf miX4_countAsCopyOf rc3 ⟨by decide, hi⟩ lkRX5_127 ⟨by decide, by decide, by decide⟩ rfl (Nat.le_of_ble_eq_true rfl) dX5_addCopy_32 ?_
  rw [gPut_put]
  refine x_aload_0 K dX5_addCopy_35 ?_
  refine x_getI K gfRX5_18 ⟨by decide, hs⟩ dX5_addCopy_36 ?_
  refine gWX.top (b := Y 0 + 1) (gShP_c _ _ _ _ _) ?_
  refine x_iconst K dX5_addCopy_39 ?_
  refine x_isub K dX5_addCopy_40 ?_
  exact x_iret K hE rfl dX5_addCopy_41 (by decide) (by decide) (by omega) (gShPut_N h hY h5 _)
theorem c5_become {E : gE} {σ : gS} (sh : Nat) (hs : sh < 11) (sh2 : Nat) (hs2 : sh2 < 11) (hne : sh ≠ sh2) (Y : Nat → Int) (h : gSh σ sh2 Y) (hY : gY Y) : gCt E mX5_become 4 0 [rf 1 sh, rf 1 sh2] σ (.inl none) (gShPut σ sh Y) := by
  refine gCt_of (L := [some (rf 1 sh), some (rf 1 sh2), none, none, none]) (by decide +kernel) rfl rfl (Nat.le_of_ble_eq_true rfl) (fun X K hE => ?_)
  have hN := K.2.2.2.2.1
  have ⟨⟨f1, f2, f3, f4, f5⟩, hsc⟩ := h
  have hY0 := hY.1
  refine x_aload_0 K dX5_become_0 ?_
  refine x_aload_1 K dX5_become_1 ?_
  refine x_getI K gfRX5_18 ⟨by decide, hs2⟩ dX5_become_2 ?_
  refine gWX.top (b := Y 0) f1 ?_
  refine x_putI K gpRX5_18 ⟨by decide, hs⟩ dX5_become_5 ?_
  refine x_aload_0 K dX5_become_8 ?_
  refine x_aload_1 K dX5_become_9 ?_
  refine x_getI K gfRX5_22 ⟨by decide, hs2⟩ dX5_become_10 ?_
  refine gWX.top (b := Y 1) (by simp only [gU_at]; (repeat rw [if_neg (by omega)]); exact f2) ?_
  refine x_putI K gpRX5_22 ⟨by decide, hs⟩ dX5_become_13 ?_
  refine x_aload_0 K dX5_become_16 ?_
  refine x_aload_1 K dX5_become_17 ?_
  refine x_getI K gfRX5_25 ⟨by decide, hs2⟩ dX5_become_18 ?_
  refine gWX.top (b := Y 2) (by simp only [gU_at]; (repeat rw [if_neg (by omega)]); exact f3) ?_
  refine x_putI K gpRX5_25 ⟨by decide, hs⟩ dX5_become_21 ?_
  refine x_aload_0 K dX5_become_24 ?_
  refine x_aload_1 K dX5_become_25 ?_
  refine x_getI K gfRX5_28 ⟨by decide, hs2⟩ dX5_become_26 ?_
  refine gWX.top (b := Y 3) (by simp only [gU_at]; (repeat rw [if_neg (by omega)]); exact f4) ?_
  refine x_putI K gpRX5_28 ⟨by decide, hs⟩ dX5_become_29 ?_
  refine x_aload_0 K dX5_become_32 ?_
  refine x_aload_1 K dX5_become_33 ?_
  refine x_getI K gfRX5_31 ⟨by decide, hs2⟩ dX5_become_34 ?_
  refine gWX.top (b := Y 4) (by simp only [gU_at]; (repeat rw [if_neg (by omega)]); exact f5) ?_
  refine x_putI K gpRX5_31 ⟨by decide, hs⟩ dX5_become_37 ?_
  refine gWX.eq (σ' := gShPm σ sh Y 0) (gShPm_0 Y) ?_
  refine x_iconst K dX5_become_40 ?_
  refine x_istore_2 K dX5_become_41 rfl ?_
  refine gLp (P := fun n : Nat => gWX X E 0 0 42 [some (rf 1 sh), some (rf 1 sh2), some (iv (n : Int)), none, none] [] (gShPm σ sh Y n)) ((Y 0).toNat) (fun k0 => ?_) (fun n hn ih => ?_) ?_
  · exact gWX.to rfl rfl (k0)
  · refine x_iload_2 K dX5_become_42 ?_
    refine x_aload_0 K dX5_become_43 ?_
    refine x_getI K gfRX5_18 ⟨by decide, hs⟩ dX5_become_44 ?_
    refine gWX.top (b := Y 0) (gShPm_f σ sh Y _ (c := 1) (by omega)) ?_
    refine x_icmp_ge (tgt := 84) K (by omega) dX5_become_47 (by decide) (fun h47 => absurd h47 (by omega)) (fun h47 => ?_)
    refine x_aload_0 K dX5_become_50 ?_
    refine x_iload_2 K dX5_become_51 ?_
    refine x_callV1 K (c5_findG (σ := gShPm σ sh Y n) sh hs (Y 0) (gShPm_f σ sh Y _ (c := 1) (by omega)) (by omega) n (by omega)) mtX5_find miX5_find rc1 ⟨by decide, hs⟩ lkRX5_34 ⟨by decide, by decide, by decide⟩ rfl (Nat.le_of_ble_eq_true rfl) dX5_become_52 ?_
    refine x_astore_3 K dX5_become_55 rfl ?_
    refine x_aload_1 K dX5_become_56 ?_
    refine x_iload_2 K dX5_become_57 ?_
    refine x_callV1 K (c5_findG (σ := gShPm σ sh Y n) sh2 hs2 (Y 0) ((gShPm_off σ sh Y n (by unfold gShC; omega)).trans f1) (by omega) n (by omega)) mtX5_find miX5_find rc1 ⟨by decide, hs2⟩ lkRX5_34 ⟨by decide, by decide, by decide⟩ rfl (Nat.le_of_ble_eq_true rfl) dX5_become_58 ?_
    refine x_astore_4 K dX5_become_61 rfl ?_
    refine x_aload_3 K dX5_become_63 ?_
    refine x_ifnull K dX5_become_64 ?_
    refine x_aload_4 K dX5_become_67 ?_
    refine x_ifnull K dX5_become_69 ?_
    refine x_aload_3 K dX5_become_72 ?_
    refine x_aload_4 K dX5_become_73 ?_
    have hi : 5 * sh + n < 56 := by omega
    have hk : 5 * sh2 + n < 56 := by omega
    refine x_callV1v K (c4_become (5 * sh + n) hi (5 * sh2 + n) hk (by omega) (zb Y n) (gScr_ext (fun a c h3 h7 => gShPm_off σ sh Y n (by unfold gShC; omega)) (hsc n (by omega))) (hY.2 n (by omega))) mtX4_become miX4_become rc3 ⟨by decide, hi⟩ lkRX5_38 ⟨by decide, by decide, by decide⟩ rfl (Nat.le_of_ble_eq_true rfl) dX5_become_75 ?_
    refine x_iinc_2 K dX5_become_78 rfl ?_
    refine x_goto (tgt := 42) K dX5_become_81 (by decide) ?_
    exact gWX.fgt 3 (gWX.fgt 4 (gWX.to rfl (gShPm_1 Y (by omega)) ih))
  · refine x_iload_2 K dX5_become_42 ?_
    refine x_aload_0 K dX5_become_43 ?_
    refine x_getI K gfRX5_18 ⟨by decide, hs⟩ dX5_become_44 ?_
    refine gWX.top (b := Y 0) (gShPm_f σ sh Y _ (c := 1) (by omega)) ?_
    refine x_icmp_ge (tgt := 84) K (by omega) dX5_become_47 (by decide) (fun h47 => ?_) (fun h47 => absurd h47 (by omega))
    exact x_vret K hE rfl dX5_become_84 (by decide) (by decide) rfl
set_option maxHeartbeats 4000000 in
theorem c5_carryOut {E : gE} {σ : gS} (sh : Nat) (hs : sh < 11) (Y : Nat → Int) (h : gSh σ sh Y) (hY : gY Y) (d : Nat) (hd : d < 8) (s r c k : Int) (hob : gOb d Y s r c k = 0) : gCt E mX5_carryOut 5 0 [rf 1 sh, gDv E d, iv s, iv r, iv c, iv k] σ (.inl (some (iv (gCoA d Y s r c k)))) (gShPut σ sh (gCoY d Y s r c k)) := by
  refine gCt_of (L := [some (rf 1 sh), some (gDv E d), some (iv s), some (iv r), some (iv c), some (iv k), none, none]) (by decide +kernel) rfl rfl (Nat.le_of_ble_eq_true rfl) (fun X K hE => ?_)
  have hN := K.2.2.2.2.1
  have ⟨⟨f1, f2, f3, f4, f5⟩, hsc⟩ := h
  have hY0 := hY.1
  obtain ⟨a0, a1, a2, a3, a4, a5, a6, a7, a8, a9⟩ := gOb_0 hob hY hd
  by_cases hd0 : d = 0
  · refine x_aloadc_1 K dX5_carryOut_0 ?_
    refine x_gets K (g_mem 352 (by decide +kernel)) (g_mem 11 (by decide +kernel)) (g_mem 361 (by decide +kernel)) (gD_rd hN (i := 0) (by omega)) dX5_carryOut_1 ?_
    refine x_acmp_ne (tgt := 15) K dX5_carryOut_4 (by decide) (fun h4 => absurd ((gD_ne hN hd).mpr hd0) h4) (fun h4 => ?_)
    refine x_aload_0 K dX5_carryOut_7 ?_
    refine x_iload_3 K dX5_carryOut_8 ?_
    refine x_iload_4 K dX5_carryOut_9 ?_
    refine x_callV2 K (c5_beginScroll sh hs Y h hY r c (a0 hd0).2) mtX5_beginScroll miX5_beginScroll rc1 ⟨by decide, hs⟩ lkRX5_93 ⟨by decide, by decide, by decide⟩ rfl (Nat.le_of_ble_eq_true rfl) dX5_carryOut_11 ?_
    exact x_iret K hE rfl dX5_carryOut_14 (by decide) (by decide) (by subst hd0; rfl) (by subst hd0; rfl)
  obtain ⟨hh, hz⟩ := a1 hd0
  have hi : 5 * sh + s.toNat < 56 := by omega
  have hgs := hsc s.toNat (by omega)
  have ⟨e0, e1, e2, e3, e4, e5, es, eb, em, et⟩ := hgs
  have ⟨z0, z1, z2, _⟩ := hz
  refine x_aloadc_1 K dX5_carryOut_0 ?_
  refine x_gets K (g_mem 352 (by decide +kernel)) (g_mem 11 (by decide +kernel)) (g_mem 361 (by decide +kernel)) (gD_rd hN (i := 0) (by omega)) dX5_carryOut_1 ?_
  refine x_acmp_ne (tgt := 15) K dX5_carryOut_4 (by decide) (fun h4 => ?_) (fun h4 => absurd ((gD_ne hN hd).mp h4) hd0)
  refine x_aload_0 K dX5_carryOut_15 ?_
  refine x_iload_2 K dX5_carryOut_16 ?_
  refine x_callV1 K (c5_find sh hs Y h hY s hh) mtX5_find miX5_find rc1 ⟨by decide, hs⟩ lkRX5_34 ⟨by decide, by decide, by decide⟩ rfl (Nat.le_of_ble_eq_true rfl) dX5_carryOut_17 ?_
  refine x_astore_6 K dX5_carryOut_20 rfl ?_
  refine x_aload_6 K dX5_carryOut_22 ?_
  refine x_ifnonnull (tgt := 29) K dX5_carryOut_24 (by decide) ?_
  refine x_gets K (g_mem 387 (by decide +kernel)) (g_mem 12 (by decide +kernel)) (g_mem 386 (by decide +kernel)) (gSm_T hN).1 dX5_carryOut_29 ?_
  refine x_aloadc_1 K dX5_carryOut_32 ?_
  refine x_callU0 K (x := ⟨"ScrollChecks$Deed", "ordinal", "()I"⟩) (C := "ScrollChecks$Deed") (cJx_ordinal (gDa E d) (d : Int) (gD_ord hN hd)) mtJx29ce0_ordinal_8abf5 ⟨(g_mem 389 (by decide +kernel)), (gNw_w (g_mem 391 (by decide +kernel)) rfl), (g_mem 392 (by decide +kernel)), rfl⟩ (gD_O hN hd) (g_mem 388 (by decide +kernel)) ⟨by decide, by decide, by decide⟩ rfl (Nat.le_of_ble_eq_true rfl) dX5_carryOut_33 ?_
  refine x_ialdK K (gSm_T hN).2 d rfl (by omega) (by omega) dX5_carryOut_36 ?_
  obtain rfl | rfl | rfl | rfl | rfl | rfl | rfl : d = 1 ∨ d = 2 ∨ d = 3 ∨ d = 4 ∨ d = 5 ∨ d = 6 ∨ d = 7 := by omega
  · have hcell := a2 (by omega)
    obtain ⟨r, rfl⟩ : ∃ r2 : Nat, r = (r2 : Int) := ⟨r.toNat, by omega⟩
    obtain ⟨c, rfl⟩ : ∃ c2 : Nat, c = (c2 : Int) := ⟨c.toNat, by omega⟩
    have hr6 : r < 6 := by omega
    have hc8 : c < 8 := by omega
    have hzs := gZ_s hz hr6 hc8
    have hk := a3 rfl
    refine x_tblIn (tgt := 76) K 0 (by decide) (by decide) (by decide) rfl dX5_carryOut_37 (by decide) ?_
    refine x_aload_6 K dX5_carryOut_76 ?_
    refine x_iload_3 K dX5_carryOut_78 ?_
    refine x_iload_4 K dX5_carryOut_79 ?_
    refine x_iload_5 K dX5_carryOut_81 ?_
    refine x_callV3 K (c4_replaceSign (5 * sh + s.toNat) hi r c hr6 hc8 k (by rw [es _ (by omega)]; exact hzs) (by omega)) mtX4_replaceSign miX4_replaceSign rc3 ⟨by decide, hi⟩ lkRX5_96 ⟨by decide, by decide, by decide⟩ rfl (Nat.le_of_ble_eq_true rfl) dX5_carryOut_83 ?_
    rw [gSetS_put hgs k hr6 hc8]
    exact x_iret K hE rfl dX5_carryOut_86 (by decide) (by decide) (es _ (by omega)) (gShPut_S h hY (by omega) _)
  · have hcell := a2 (by omega)
    obtain ⟨r, rfl⟩ : ∃ r2 : Nat, r = (r2 : Int) := ⟨r.toNat, by omega⟩
    obtain ⟨c, rfl⟩ : ∃ c2 : Nat, c = (c2 : Int) := ⟨c.toNat, by omega⟩
    have hr6 : r < 6 := by omega
    have hc8 : c < 8 := by omega
    have hzs := gZ_s hz hr6 hc8
    have hk := a4 rfl
    have hns := a5 (by omega)
    have hns2 : zb Y s.toNat (20 + (8 * r + c)) ≠ -1 := hns
    have hg1 := gScr_u1 hgs sh 2 (Y 1 + 1)
    have hv := hg1.2.2.2.2.2.2.1 (8 * r + c) (by omega)
    refine x_tblIn (tgt := 87) K 1 (by decide) (by decide) (by decide) rfl dX5_carryOut_37 (by decide) ?_
    refine x_aload_0 K dX5_carryOut_87 ?_
    refine x_dup K dX5_carryOut_88 rfl ?_
    refine x_getI K gfRX5_22 ⟨by decide, hs⟩ dX5_carryOut_89 ?_
    refine gWX.top (b := Y 1) f2 ?_
    refine x_iconst K dX5_carryOut_92 ?_
    refine x_iadd K dX5_carryOut_93 ?_
    refine x_putI K gpRX5_22 ⟨by decide, hs⟩ dX5_carryOut_94 ?_
    refine x_aload_6 K dX5_carryOut_97 ?_
    refine x_iload_3 K dX5_carryOut_99 ?_
    refine x_iload_4 K dX5_carryOut_100 ?_
    refine x_iload_5 K dX5_carryOut_102 ?_
    refine x_callV3 K (c4_letSlip (σ := gU σ 1 sh 2 (Y 1 + 1)) (5 * sh + s.toNat) hi r c hr6 hc8 k (by rw [hv]; omega) (by omega)) mtX4_letSlip miX4_letSlip rc3 ⟨by decide, hi⟩ lkRX5_100 ⟨by decide, by decide, by decide⟩ rfl (Nat.le_of_ble_eq_true rfl) dX5_carryOut_104 ?_
    rw [gSetS_put hg1 _ hr6 hc8, hv]
    exact x_iret K hE rfl dX5_carryOut_107 (by decide) (by decide) rfl (gShPut_FS h hY (by omega) _ (k := 1) (by omega) (by omega) _)
  · have hcell := a2 (by omega)
    obtain ⟨r, rfl⟩ : ∃ r2 : Nat, r = (r2 : Int) := ⟨r.toNat, by omega⟩
    obtain ⟨c, rfl⟩ : ∃ c2 : Nat, c = (c2 : Int) := ⟨c.toNat, by omega⟩
    have hr6 : r < 6 := by omega
    have hc8 : c < 8 := by omega
    have hzs := gZ_s hz hr6 hc8
    have hns := a5 (by omega)
    have hns2 : zb Y s.toNat (20 + (8 * r + c)) ≠ -1 := hns
    have hg1 := gScr_u1 hgs sh 3 (Y 2 + 1)
    have hv := hg1.2.2.2.2.2.2.1 (8 * r + c) (by omega)
    refine x_tblIn (tgt := 108) K 2 (by decide) (by decide) (by decide) rfl dX5_carryOut_37 (by decide) ?_
    refine x_aload_0 K dX5_carryOut_108 ?_
    refine x_dup K dX5_carryOut_109 rfl ?_
    refine x_getI K gfRX5_25 ⟨by decide, hs⟩ dX5_carryOut_110 ?_
    refine gWX.top (b := Y 2) f3 ?_
    refine x_iconst K dX5_carryOut_113 ?_
    refine x_iadd K dX5_carryOut_114 ?_
    refine x_putI K gpRX5_25 ⟨by decide, hs⟩ dX5_carryOut_115 ?_
    refine x_aload_6 K dX5_carryOut_118 ?_
    refine x_iload_3 K dX5_carryOut_120 ?_
    refine x_iload_4 K dX5_carryOut_121 ?_
    refine x_iconst K dX5_carryOut_123 ?_
    refine x_callV3v K (c4_setSign (σ := gU σ 1 sh 3 (Y 2 + 1)) (5 * sh + s.toNat) hi r c hr6 hc8 (-1) (by rw [hv]; omega) (by omega)) mtX4_setSign miX4_setSign rc3 ⟨by decide, hi⟩ lkRX5_103 ⟨by decide, by decide, by decide⟩ rfl (Nat.le_of_ble_eq_true rfl) dX5_carryOut_124 ?_
    rw [gSetS_put hg1 _ hr6 hc8]
    refine x_aload_6 K dX5_carryOut_127 ?_
    refine x_callV0 K (c4_smudgedCells (5 * sh + s.toNat) hi (zset (zb Y s.toNat) r c (-1)) (gScr_put _ _ _) (gZ_set hz (by omega) (by omega) (by omega))) mtX4_smudgedCells miX4_smudgedCells rc3 ⟨by decide, hi⟩ lkRX5_107 ⟨by decide, by decide, by decide⟩ rfl (Nat.le_of_ble_eq_true rfl) dX5_carryOut_129 ?_
    exact x_iret K hE rfl dX5_carryOut_132 (by decide) (by decide) rfl (gShPut_FS h hY (by omega) _ (k := 2) (by omega) (by omega) _)
  · refine x_tblIn (tgt := 133) K 3 (by decide) (by decide) (by decide) rfl dX5_carryOut_37 (by decide) ?_
    refine x_aload_6 K dX5_carryOut_133 ?_
    refine x_callV0 K (c4_tellSums (5 * sh + s.toNat) hi (zb Y s.toNat) hgs hz) mtX4_tellSums miX4_tellSums rc3 ⟨by decide, hi⟩ lkRX5_110 ⟨by decide, by decide, by decide⟩ rfl (Nat.le_of_ble_eq_true rfl) dX5_carryOut_135 ?_
    exact x_iret K hE rfl dX5_carryOut_138 (by decide) (by decide) rfl (gShPut_S h hY (by omega) _)
  · refine x_tblIn (tgt := 139) K 4 (by decide) (by decide) (by decide) rfl dX5_carryOut_37 (by decide) ?_
    refine x_aload_0 K dX5_carryOut_139 ?_
    refine x_aload_6 K dX5_carryOut_140 ?_
    refine x_iload_2 K dX5_carryOut_142 ?_
    refine x_callV2 K (c5_addCopy sh hs Y h hY s hh (a7 rfl)) mtX5_addCopy miX5_addCopy rc1 ⟨by decide, hs⟩ lkRX5_113 ⟨by decide, by decide, by decide⟩ rfl (Nat.le_of_ble_eq_true rfl) dX5_carryOut_143 ?_
    exact x_iret K hE rfl dX5_carryOut_146 (by decide) (by decide) rfl rfl
  · obtain ⟨w1, w2, w3⟩ := s_om_0 hz hh.1 (a8 rfl)
    have hg1 := gScr_u1 hgs sh 4 (Y 3 + 1)
    refine x_tblIn (tgt := 147) K 5 (by decide) (by decide) (by decide) rfl dX5_carryOut_37 (by decide) ?_
    refine x_aload_0 K dX5_carryOut_147 ?_
    refine x_dup K dX5_carryOut_148 rfl ?_
    refine x_getI K gfRX5_28 ⟨by decide, hs⟩ dX5_carryOut_149 ?_
    refine gWX.top (b := Y 3) f4 ?_
    refine x_iconst K dX5_carryOut_152 ?_
    refine x_iadd K dX5_carryOut_153 ?_
    refine x_putI K gpRX5_28 ⟨by decide, hs⟩ dX5_carryOut_154 ?_
    refine x_aload_6 K dX5_carryOut_157 ?_
    refine x_callV0 K (c4_mendCell (σ := gU σ 1 sh 4 (Y 3 + 1)) (5 * sh + s.toNat) hi (zb Y s.toNat) hg1 hz (by have := w3.1; omega) (by have := w3.2.1; omega)) mtX4_mendCell miX4_mendCell rc3 ⟨by decide, hi⟩ lkRX5_117 ⟨by decide, by decide, by decide⟩ rfl (Nat.le_of_ble_eq_true rfl) dX5_carryOut_159 ?_
    exact x_iret K hE rfl dX5_carryOut_162 (by decide) (by decide) rfl (gShPut_FS h hY (by omega) _ (k := 3) (by omega) (by omega) _)
  · refine x_tblOut (tgt := 163) K (by decide) (by decide) dX5_carryOut_37 (by decide) ?_
    refine x_aload_6 K dX5_carryOut_163 ?_
    refine x_callV0 K (c4_fillCells (5 * sh + s.toNat) hi (zb Y s.toNat) hgs hz) mtX4_fillCells miX4_fillCells rc3 ⟨by decide, hi⟩ lkRX5_120 ⟨by decide, by decide, by decide⟩ rfl (Nat.le_of_ble_eq_true rfl) dX5_carryOut_165 ?_
    refine x_istore_7 K dX5_carryOut_168 rfl ?_
    refine x_aload_0 K dX5_carryOut_170 ?_
    refine x_dup K dX5_carryOut_171 rfl ?_
    refine x_getI K gfRX5_31 ⟨by decide, hs⟩ dX5_carryOut_172 ?_
    refine gWX.top (b := Y 4) ((gPut_ok _ _ _ (by omega)).trans f5) ?_
    refine x_iload_7 K dX5_carryOut_175 ?_
    refine x_iadd K dX5_carryOut_177 ?_
    refine x_putI K gpRX5_31 ⟨by decide, hs⟩ dX5_carryOut_178 ?_
    refine x_iload_7 K dX5_carryOut_181 ?_
    exact x_iret K hE rfl dX5_carryOut_183 (by decide) (by decide) rfl (gShPut_SF h hY (by omega) _ (k := 4) (by omega) (by omega) _)
