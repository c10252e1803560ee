/-! ===== ScrollChecks$Shelf ===== -/
theorem c5_find {E : gE} {σ : gS} (sh : Nat) (hs : sh < 11) (Y : Nat → Int) (h : gSh σ sh Y) (hY : gY Y) (s : Int) (hh : gHit Y s) : gCt E mX5_find 1 0 [rf 1 sh, iv s] σ (.inl (some (rf 3 (5 * sh + s.toNat)))) σ := by
  refine gCt_of (L := [some (rf 1 sh), some (iv s)]) (by decide +kernel) rfl rfl (Nat.le_of_ble_eq_true rfl) (fun X K hE => ?_)
  have hN := K.2.2.2.2.1
  have ⟨⟨f1, f2, f3, f4, f5⟩, hsc⟩ := h
  have hY0 := hY.1
  refine x_iload_1 K dX5_find_0 ?_
  refine x_if_lt (tgt := 30) K (by omega) dX5_find_1 (by decide) (fun h1 => absurd h1 (by omega)) (fun h1 => ?_)
  refine x_iload_1 K dX5_find_4 ?_
  refine x_aload_0 K dX5_find_5 ?_
  refine x_getI K gfRX5_18 ⟨by decide, hs⟩ dX5_find_6 ?_
  refine x_icmp_ge (tgt := 30) K (by omega) dX5_find_9 (by decide) (fun h9 => absurd h9 (by omega)) (fun h9 => ?_)
  refine x_iload_1 K dX5_find_12 ?_
  refine x_aload_0 K dX5_find_13 ?_
  refine x_getR K gfRX5_11 ⟨by decide, hs⟩ dX5_find_14 ?_
  refine x_alen2 K hs dX5_find_17 ?_
  refine x_icmp_ge (tgt := 30) K (by omega) dX5_find_18 (by decide) (fun h18 => absurd h18 (by omega)) (fun h18 => ?_)
  refine x_aload_0 K dX5_find_21 ?_
  refine x_getR K gfRX5_11 ⟨by decide, hs⟩ dX5_find_22 ?_
  refine x_iload_1 K dX5_find_25 ?_
  refine x_aald2 K s.toNat (by omega) hs (by omega) dX5_find_26 ?_
  refine x_goto (tgt := 31) K dX5_find_27 (by decide) ?_
  exact x_aret K hE rfl dX5_find_31 (by decide) (by decide) rfl rfl
theorem c5_findN {E : gE} {σ : gS} (sh : Nat) (hs : sh < 11) (Y : Nat → Int) (h : gSh σ sh Y) (hY : gY Y) (s : Int) (hr : -2147483648 ≤ s ∧ s < 2147483648) (hh : ¬ gHit Y s) : gCt E mX5_find 1 0 [rf 1 sh, iv s] σ (.inl (some (.inl .null))) σ := by
  refine gCt_of (L := [some (rf 1 sh), some (iv s)]) (by decide +kernel) rfl rfl (Nat.le_of_ble_eq_true rfl) (fun X K hE => ?_)
  have hN := K.2.2.2.2.1
  have ⟨⟨f1, f2, f3, f4, f5⟩, hsc⟩ := h
  have hY0 := hY.1
  refine x_iload_1 K dX5_find_0 ?_
  refine x_if_lt (tgt := 30) K (by omega) dX5_find_1 (by decide) (fun h1 => ?_) (fun h1 => ?_)
  · refine x_null K dX5_find_30 ?_
    exact x_aretN K hE rfl dX5_find_31 (by decide) (by decide) rfl
  · refine x_iload_1 K dX5_find_4 ?_
    refine x_aload_0 K dX5_find_5 ?_
    refine x_getI K gfRX5_18 ⟨by decide, hs⟩ dX5_find_6 ?_
    refine x_icmp_ge (tgt := 30) K (by omega) dX5_find_9 (by decide) (fun h9 => ?_) (fun h9 => absurd hh (fun q => q ⟨by omega, by omega⟩))
    refine x_null K dX5_find_30 ?_
    exact x_aretN K hE rfl dX5_find_31 (by decide) (by decide) rfl
theorem c5_obstacleToAdding {E : gE} {σ : gS} (sh : Nat) (hs : sh < 11) (Y : Nat → Int) (h : gSh σ sh Y) (hY : gY Y) : gCt E mX5_obstacleToAdding 2 0 [rf 1 sh] σ (.inl (some (iv (o_ad Y)))) σ := by
  refine gCt_of (L := [some (rf 1 sh)]) (by decide +kernel) rfl rfl (Nat.le_of_ble_eq_true rfl) (fun X K hE => ?_)
  have hN := K.2.2.2.2.1
  have ⟨⟨f1, f2, f3, f4, f5⟩, hsc⟩ := h
  have hY0 := hY.1
  refine x_aload_0 K dX5_obstacleToAdding_0 ?_
  refine x_getI K gfRX5_18 ⟨by decide, hs⟩ dX5_obstacleToAdding_1 ?_
  refine x_iconst K dX5_obstacleToAdding_4 ?_
  refine x_icmp_lt (tgt := 16) K (by omega) dX5_obstacleToAdding_5 (by decide) (fun h5 => ?_) (fun h5 => ?_)
  · refine x_iconst K dX5_obstacleToAdding_16 ?_
    exact x_iret K hE rfl dX5_obstacleToAdding_17 (by decide) (by decide) (by unfold o_ad; split <;> omega) rfl
  · refine x_iconst K dX5_obstacleToAdding_8 ?_
    refine x_iconst K dX5_obstacleToAdding_9 ?_
    refine x_callS2 K (c6_refused _ _) mtX6_refused msX6_refused lkRX5_90 ⟨by decide, by decide, by decide⟩ rfl (Nat.le_of_ble_eq_true rfl) dX5_obstacleToAdding_10 ?_
    refine x_goto (tgt := 17) K dX5_obstacleToAdding_13 (by decide) ?_
    exact x_iret K hE rfl dX5_obstacleToAdding_17 (by decide) (by decide) (by unfold o_ad; split <;> omega) rfl
theorem c5_obstacleToBeginning {E : gE} {σ : gS} (sh : Nat) (hs : sh < 11) (Y : Nat → Int) (h : gSh σ sh Y) (hY : gY Y) (r c : Int) (hrr : -2147483648 ≤ r ∧ r < 2147483648) (hrc : -2147483648 ≤ c ∧ c < 2147483648) : gCt E mX5_obstacleToBeginning 3 0 [rf 1 sh, iv r, iv c] σ (.inl (some (iv (if (1 ≤ r ∧ r ≤ 6) ∧ 1 ≤ c ∧ c ≤ 8 then o_ad Y else 2)))) σ := by
  refine gCt_of (L := [some (rf 1 sh), some (iv r), some (iv c)]) (by decide +kernel) rfl rfl (Nat.le_of_ble_eq_true rfl) (fun X K hE => ?_)
  have hN := K.2.2.2.2.1
  have ⟨⟨f1, f2, f3, f4, f5⟩, hsc⟩ := h
  have hY0 := hY.1
  have b1 := gB1_bd (1 ≤ r ∧ r ≤ 6)
  have b2 := gB1_bd (1 ≤ c ∧ c ≤ 8)
  refine x_iload_1 K dX5_obstacleToBeginning_0 ?_
  refine x_iconst K dX5_obstacleToBeginning_1 ?_
  refine x_bipush K dX5_obstacleToBeginning_2 rfl ?_
  refine x_callS3 K (c6_isWithin r 1 6 (by omega)) mtX6_isWithin msX6_isWithin lkRX5_70 ⟨by decide, by decide, by decide⟩ rfl (Nat.le_of_ble_eq_true rfl) dX5_obstacleToBeginning_4 ?_
  refine x_if_eq (tgt := 20) K (by omega) dX5_obstacleToBeginning_7 (by decide) (fun h7 => ?_) (fun h7 => ?_)
  · have q1 : ¬ (1 ≤ r ∧ r ≤ 6) := fun q => by rw [gB1_t q] at h7; omega
    refine x_iconst K dX5_obstacleToBeginning_20 ?_
    exact x_iret K hE rfl dX5_obstacleToBeginning_21 (by decide) (by decide) (by first | exact (if_neg (fun q => q1 q.1)).symm | exact (if_neg (fun q => q2 q.2)).symm) rfl
  · have q1 : 1 ≤ r ∧ r ≤ 6 := Classical.byContradiction (fun q => h7 (gB1_f q))
    refine x_iload_2 K dX5_obstacleToBeginning_10 ?_
    refine x_iconst K dX5_obstacleToBeginning_11 ?_
    refine x_bipush K dX5_obstacleToBeginning_12 rfl ?_
    refine x_callS3 K (c6_isWithin c 1 8 (by omega)) mtX6_isWithin msX6_isWithin lkRX5_70 ⟨by decide, by decide, by decide⟩ rfl (Nat.le_of_ble_eq_true rfl) dX5_obstacleToBeginning_14 ?_
    refine x_if_ne (tgt := 22) K (by omega) dX5_obstacleToBeginning_17 (by decide) (fun h17 => ?_) (fun h17 => ?_)
    · have q2 : 1 ≤ c ∧ c ≤ 8 := Classical.byContradiction (fun q => h17 (gB1_f q))
      refine x_aload_0 K dX5_obstacleToBeginning_22 ?_
      refine x_callV0 K (c5_obstacleToAdding sh hs Y h hY) mtX5_obstacleToAdding miX5_obstacleToAdding rc1 ⟨by decide, hs⟩ lkRX5_80 ⟨by decide, by decide, by decide⟩ rfl (Nat.le_of_ble_eq_true rfl) dX5_obstacleToBeginning_23 ?_
      exact x_iret K hE rfl dX5_obstacleToBeginning_26 (by decide) (by decide) (if_pos ⟨q1, q2⟩).symm rfl
    · have q2 : ¬ (1 ≤ c ∧ c ≤ 8) := fun q => by rw [gB1_t q] at h17; omega
      refine x_iconst K dX5_obstacleToBeginning_20 ?_
      exact x_iret K hE rfl dX5_obstacleToBeginning_21 (by decide) (by decide) (by first | exact (if_neg (fun q => q1 q.1)).symm | exact (if_neg (fun q => q2 q.2)).symm) rfl
set_option maxHeartbeats 2000000 in
set_option maxHeartbeats 4000000 in
theorem c5_obstacleTo {E : gE} {σ : gS} (sh : Nat) (hs : sh < 11) (Y : Nat → Int) (h : gSh σ sh Y) (hY : gY Y) (d : Nat) (hd : d < 8) (s r c k : Int) (hrs9 : -2147483648 ≤ s ∧ s < 2147483648) (hrr : -2147483648 ≤ r ∧ r < 2147483648) (hrc : -2147483648 ≤ c ∧ c < 2147483648) (hrk : -2147483648 ≤ k ∧ k < 2147483648) : gCt E mX5_obstacleTo 5 0 [rf 1 sh, gDv E d, iv s, iv r, iv c, iv k] σ (.inl (some (iv (gOb d Y s r c k)))) σ := by
  refine gCt_of (L := [some (rf 1 sh), some (gDv E d), some (iv s), some (iv r), some (iv c), some (iv k), none]) (by decide +kernel) rfl rfl (Nat.le_of_ble_eq_true rfl) (fun X K hE => ?_)
  have hN := K.2.2.2.2.1
  have ⟨⟨f1, f2, f3, f4, f5⟩, hsc⟩ := h
  have hY0 := hY.1
  by_cases hd0 : d = 0
  · refine x_aloadc_1 K dX5_obstacleTo_0 ?_
    refine x_gets K (g_mem 352 (by decide +kernel)) (g_mem 11 (by decide +kernel)) (g_mem 361 (by decide +kernel)) (gD_rd hN (i := 0) (by omega)) dX5_obstacleTo_1 ?_
    refine x_acmp_ne (tgt := 15) K dX5_obstacleTo_4 (by decide) (fun h4 => absurd ((gD_ne hN hd).mpr hd0) h4) (fun h4 => ?_)
    refine x_aload_0 K dX5_obstacleTo_7 ?_
    refine x_iload_3 K dX5_obstacleTo_8 ?_
    refine x_iload_4 K dX5_obstacleTo_9 ?_
    refine x_callV2 K (c5_obstacleToBeginning sh hs Y h hY r c hrr hrc) mtX5_obstacleToBeginning miX5_obstacleToBeginning rc1 ⟨by decide, hs⟩ lkRX5_48 ⟨by decide, by decide, by decide⟩ rfl (Nat.le_of_ble_eq_true rfl) dX5_obstacleTo_11 ?_
    exact x_iret K hE rfl dX5_obstacleTo_14 (by decide) (by decide) (by subst hd0; rfl) rfl
  by_cases hh : gHit Y s
  · have hi : 5 * sh + s.toNat < 56 := by omega
    have hz := hY.2 s.toNat (by omega)
    have hgs := hsc s.toNat (by omega)
    have ⟨e0, e1, e2, e3, e4, e5, es, eb, em, et⟩ := hgs
    have ⟨z0, z1, z2, _⟩ := hz
    have bc := gB1_bd ((0 ≤ r ∧ r < σ.1 3 (5 * sh + s.toNat) 4) ∧ 0 ≤ c ∧ c < σ.1 3 (5 * sh + s.toNat) 5)
    refine x_aloadc_1 K dX5_obstacleTo_0 ?_
    refine x_gets K (g_mem 352 (by decide +kernel)) (g_mem 11 (by decide +kernel)) (g_mem 361 (by decide +kernel)) (gD_rd hN (i := 0) (by omega)) dX5_obstacleTo_1 ?_
    refine x_acmp_ne (tgt := 15) K dX5_obstacleTo_4 (by decide) (fun h4 => ?_) (fun h4 => absurd ((gD_ne hN hd).mp h4) hd0)
    refine x_aload_0 K dX5_obstacleTo_15 ?_
    refine x_iload_2 K dX5_obstacleTo_16 ?_
    refine x_callV1 K (c5_find sh hs Y h hY s hh) mtX5_find miX5_find rc1 ⟨by decide, hs⟩ lkRX5_34 ⟨by decide, by decide, by decide⟩ rfl (Nat.le_of_ble_eq_true rfl) dX5_obstacleTo_17 ?_
    refine x_astore_6 K dX5_obstacleTo_20 rfl ?_
    refine x_aload_6 K dX5_obstacleTo_22 ?_
    refine x_ifnull K dX5_obstacleTo_24 ?_
    refine x_aloadc_1 K dX5_obstacleTo_27 ?_
    refine x_getKN K (gD_cell hN hd) (gNw_w (w := Cond.fieldLinkNest RX5 52 "ScrollChecks$Deed" "isOfCell" "Z" "ScrollChecks") (g_mem 1431 (by decide +kernel)) rfl) dX5_obstacleTo_28 ?_
    refine x_if_eq (tgt := 47) K (by unfold gDc; split <;> omega) dX5_obstacleTo_31 (by decide) (fun h31 => ?_) (fun h31 => ?_)
    · have hcl : d ≤ 3 → ((0 ≤ r ∧ r < zb Y s.toNat 0) ∧ 0 ≤ c ∧ c < zb Y s.toNat 1) := fun q => by unfold gDc at h31; rw [if_pos (by omega)] at h31; omega
      refine x_gets K (g_mem 387 (by decide +kernel)) (g_mem 12 (by decide +kernel)) (g_mem 386 (by decide +kernel)) (gSm_T hN).1 dX5_obstacleTo_47 ?_
      refine x_aloadc_1 K dX5_obstacleTo_50 ?_
      refine x_callU0 K (x := ⟨"ScrollChecks$Deed", "ordinal", "()I"⟩) (C := "ScrollChecks$Deed") (cJx_ordinal (gDa E d) (d : Int) (gD_ord hN hd)) mtJx29ce0_ordinal_8abf5 ⟨(g_mem 389 (by decide +kernel)), (gNw_w (g_mem 391 (by decide +kernel)) rfl), (g_mem 392 (by decide +kernel)), rfl⟩ (gD_O hN hd) (g_mem 388 (by decide +kernel)) ⟨by decide, by decide, by decide⟩ rfl (Nat.le_of_ble_eq_true rfl) dX5_obstacleTo_51 ?_
      refine x_ialdK K (gSm_T hN).2 d rfl (by omega) (by omega) dX5_obstacleTo_54 ?_
      obtain rfl | rfl | rfl | rfl | rfl | rfl | rfl : d = 1 ∨ d = 2 ∨ d = 3 ∨ d = 4 ∨ d = 5 ∨ d = 6 ∨ d = 7 := by omega
      · have hcell := hcl (by omega)
        obtain ⟨r, rfl⟩ : ∃ r2 : Nat, r = (r2 : Int) := ⟨r.toNat, by omega⟩
        obtain ⟨c, rfl⟩ : ∃ c2 : Nat, c = (c2 : Int) := ⟨c.toNat, by omega⟩
        refine x_tblIn (tgt := 92) K 0 (by decide) (by decide) (by decide) rfl dX5_obstacleTo_55 (by decide) ?_
        refine x_iload_5 K dX5_obstacleTo_92 ?_
        refine x_iconst K dX5_obstacleTo_94 ?_
        refine x_bipush K dX5_obstacleTo_95 rfl ?_
        refine x_callS3 K (c6_isWithin k 0 9 (by omega)) mtX6_isWithin msX6_isWithin lkRX5_70 ⟨by decide, by decide, by decide⟩ rfl (Nat.le_of_ble_eq_true rfl) dX5_obstacleTo_97 ?_
        have b1 := gB1_bd (0 ≤ k ∧ k ≤ 9)
        refine x_if_eq (tgt := 107) K (by omega) dX5_obstacleTo_100 (by decide) (fun h100 => ?_) (fun h100 => ?_)
        · have q1 : ¬ (0 ≤ k ∧ k ≤ 9) := fun q => by rw [gB1_t q] at h100; omega
          refine x_iconst K dX5_obstacleTo_107 ?_
          exact x_iret K hE rfl dX5_obstacleTo_108 (by decide) (by decide) (by unfold gOb; rw [if_neg (by omega), if_neg (fun q => q hh), if_neg (fun q => q.2 hcell), if_pos rfl]; first | rw [if_pos q1] | rw [if_neg q1]) rfl
        · have q1 : 0 ≤ k ∧ k ≤ 9 := Classical.byContradiction (fun q => h100 (gB1_f q))
          refine x_iconst K dX5_obstacleTo_103 ?_
          refine x_goto (tgt := 108) K dX5_obstacleTo_104 (by decide) ?_
          exact x_iret K hE rfl dX5_obstacleTo_108 (by decide) (by decide) (by unfold gOb; rw [if_neg (by omega), if_neg (fun q => q hh), if_neg (fun q => q.2 hcell), if_pos rfl]; first | rw [if_pos q1] | rw [if_neg q1]) rfl
      · have hcell := hcl (by omega)
        obtain ⟨r, rfl⟩ : ∃ r2 : Nat, r = (r2 : Int) := ⟨r.toNat, by omega⟩
        obtain ⟨c, rfl⟩ : ∃ c2 : Nat, c = (c2 : Int) := ⟨c.toNat, by omega⟩
        refine x_tblIn (tgt := 109) K 1 (by decide) (by decide) (by decide) rfl dX5_obstacleTo_55 (by decide) ?_
        refine x_iload_5 K dX5_obstacleTo_109 ?_
        refine x_iconst K dX5_obstacleTo_111 ?_
        refine x_bipush K dX5_obstacleTo_112 rfl ?_
        refine x_callS3 K (c6_isWithin k 1 9 (by omega)) mtX6_isWithin msX6_isWithin lkRX5_70 ⟨by decide, by decide, by decide⟩ rfl (Nat.le_of_ble_eq_true rfl) dX5_obstacleTo_114 ?_
        have b1 := gB1_bd (1 ≤ k ∧ k ≤ 9)
        refine x_if_eq (tgt := 131) K (by omega) dX5_obstacleTo_117 (by decide) (fun h117 => ?_) (fun h117 => ?_)
        · have q1 : ¬ (1 ≤ k ∧ k ≤ 9) := fun q => by rw [gB1_t q] at h117; omega
          refine x_iconst K dX5_obstacleTo_131 ?_
          exact x_iret K hE rfl dX5_obstacleTo_132 (by decide) (by decide) (by
  have e : gOb 2 Y s (r : Int) (c : Int) k = if 1 ≤ k ∧ k ≤ 9 then o_t (zb Y s.toNat) (r : Int) (c : Int) else 2 := by unfold gOb; rw [if_neg (by omega), if_neg (fun q => q hh), if_neg (fun q => q.2 hcell), if_neg (by omega), if_pos rfl]
  first
    | exact (e.trans (if_pos q1)).symm
    | exact (e.trans (if_neg q1)).symm) rfl
        · have q1 : 1 ≤ k ∧ k ≤ 9 := Classical.byContradiction (fun q => h117 (gB1_f q))
          refine x_aload_6 K dX5_obstacleTo_120 ?_
          refine x_iload_3 K dX5_obstacleTo_122 ?_
          refine x_iload_4 K dX5_obstacleTo_123 ?_
          refine x_callV2 K (c4_obstacleToTouching (5 * sh + s.toNat) hi (zb Y s.toNat) hgs hz r c (by omega) (by omega)) mtX4_obstacleToTouching miX4_obstacleToTouching rc3 ⟨by decide, hi⟩ lkRX5_74 ⟨by decide, by decide, by decide⟩ rfl (Nat.le_of_ble_eq_true rfl) dX5_obstacleTo_125 ?_
          refine x_goto (tgt := 132) K dX5_obstacleTo_128 (by decide) ?_
          exact x_iret K hE rfl dX5_obstacleTo_132 (by decide) (by decide) (by
  have e : gOb 2 Y s (r : Int) (c : Int) k = if 1 ≤ k ∧ k ≤ 9 then o_t (zb Y s.toNat) (r : Int) (c : Int) else 2 := by unfold gOb; rw [if_neg (by omega), if_neg (fun q => q hh), if_neg (fun q => q.2 hcell), if_neg (by omega), if_pos rfl]
  first
    | exact (e.trans (if_pos q1)).symm
    | exact (e.trans (if_neg q1)).symm) rfl
      · have hcell := hcl (by omega)
        obtain ⟨r, rfl⟩ : ∃ r2 : Nat, r = (r2 : Int) := ⟨r.toNat, by omega⟩
        obtain ⟨c, rfl⟩ : ∃ c2 : Nat, c = (c2 : Int) := ⟨c.toNat, by omega⟩
        refine x_tblIn (tgt := 133) K 2 (by decide) (by decide) (by decide) rfl dX5_obstacleTo_55 (by decide) ?_
        refine x_aload_6 K dX5_obstacleTo_133 ?_
        refine x_iload_3 K dX5_obstacleTo_135 ?_
        refine x_iload_4 K dX5_obstacleTo_136 ?_
        refine x_callV2 K (c4_obstacleToTouching (5 * sh + s.toNat) hi (zb Y s.toNat) hgs hz r c (by omega) (by omega)) mtX4_obstacleToTouching miX4_obstacleToTouching rc3 ⟨by decide, hi⟩ lkRX5_74 ⟨by decide, by decide, by decide⟩ rfl (Nat.le_of_ble_eq_true rfl) dX5_obstacleTo_138 ?_
        exact x_iret K hE rfl dX5_obstacleTo_141 (by decide) (by decide) (by
  have e : gOb 3 Y s (r : Int) (c : Int) k = o_t (zb Y s.toNat) (r : Int) (c : Int) := by unfold gOb; rw [if_neg (by omega), if_neg (fun q => q hh), if_neg (fun q => q.2 hcell), if_neg (by omega), if_neg (by omega), if_pos rfl]
  exact e.symm) rfl
      · refine x_tblIn (tgt := 142) K 3 (by decide) (by decide) (by decide) rfl dX5_obstacleTo_55 (by decide) ?_
        refine x_aload_6 K dX5_obstacleTo_142 ?_
        refine x_callV0 K (c4_obstacleToSealing (5 * sh + s.toNat) hi (zb Y s.toNat) hgs hz) mtX4_obstacleToSealing miX4_obstacleToSealing rc3 ⟨by decide, hi⟩ lkRX5_77 ⟨by decide, by decide, by decide⟩ rfl (Nat.le_of_ble_eq_true rfl) dX5_obstacleTo_144 ?_
        exact x_iret K hE rfl dX5_obstacleTo_147 (by decide) (by decide) (by
  have e : gOb 4 Y s r c k = o_s (zb Y s.toNat) := by unfold gOb; rw [if_neg (by omega), if_neg (fun q => q hh), if_neg (fun q => absurd q.1 (by omega)), if_neg (by omega), if_neg (by omega), if_neg (by omega), if_pos rfl]
  exact e.symm) rfl
      · refine x_tblIn (tgt := 148) K 4 (by decide) (by decide) (by decide) rfl dX5_obstacleTo_55 (by decide) ?_
        refine x_aload_0 K dX5_obstacleTo_148 ?_
        refine x_callV0 K (c5_obstacleToAdding sh hs Y h hY) mtX5_obstacleToAdding miX5_obstacleToAdding rc1 ⟨by decide, hs⟩ lkRX5_80 ⟨by decide, by decide, by decide⟩ rfl (Nat.le_of_ble_eq_true rfl) dX5_obstacleTo_149 ?_
        exact x_iret K hE rfl dX5_obstacleTo_152 (by decide) (by decide) (by
  have e : gOb 5 Y s r c k = o_ad Y := by unfold gOb; rw [if_neg (by omega), if_neg (fun q => q hh), if_neg (fun q => absurd q.1 (by omega)), if_neg (by omega), if_neg (by omega), if_neg (by omega), if_neg (by omega), if_pos rfl]
  exact e.symm) rfl
      · refine x_tblIn (tgt := 153) K 5 (by decide) (by decide) (by decide) rfl dX5_obstacleTo_55 (by decide) ?_
        refine x_aload_6 K dX5_obstacleTo_153 ?_
        refine x_iload_2 K dX5_obstacleTo_155 ?_
        refine x_callV1 K (c4_obstacleToMending (5 * sh + s.toNat) hi (zb Y s.toNat) hgs hz s) mtX4_obstacleToMending miX4_obstacleToMending rc3 ⟨by decide, hi⟩ lkRX5_83 ⟨by decide, by decide, by decide⟩ rfl (Nat.le_of_ble_eq_true rfl) dX5_obstacleTo_156 ?_
        exact x_iret K hE rfl dX5_obstacleTo_159 (by decide) (by decide) (by
  have e : gOb 6 Y s r c k = s_om (zb Y s.toNat) s := by unfold gOb; rw [if_neg (by omega), if_neg (fun q => q hh), if_neg (fun q => absurd q.1 (by omega)), if_neg (by omega), if_neg (by omega), if_neg (by omega), if_neg (by omega), if_neg (by omega), if_pos rfl]
  exact e.symm) rfl
      · refine x_tblOut (tgt := 160) K (by decide) (by decide) dX5_obstacleTo_55 (by decide) ?_
        refine x_aload_6 K dX5_obstacleTo_160 ?_
        refine x_iload_2 K dX5_obstacleTo_162 ?_
        refine x_callV1 K (c4_obstacleToFilling (5 * sh + s.toNat) hi (zb Y s.toNat) hgs hz s) mtX4_obstacleToFilling miX4_obstacleToFilling rc3 ⟨by decide, hi⟩ lkRX5_87 ⟨by decide, by decide, by decide⟩ rfl (Nat.le_of_ble_eq_true rfl) dX5_obstacleTo_163 ?_
        exact x_iret K hE rfl dX5_obstacleTo_166 (by decide) (by decide) (by
  have e : gOb 7 Y s r c k = o_fl (zb Y s.toNat) s := by unfold gOb; rw [if_neg (by omega), if_neg (fun q => q hh), if_neg (fun q => absurd q.1 (by omega)), if_neg (by omega), if_neg (by omega), if_neg (by omega), if_neg (by omega), if_neg (by omega), if_neg (by omega)]
  exact e.symm) rfl
    · have hd3 : d ≤ 3 := by unfold gDc at h31; split at h31 <;> omega
      refine x_aload_6 K dX5_obstacleTo_34 ?_
      refine x_iload_3 K dX5_obstacleTo_36 ?_
      refine x_iload_4 K dX5_obstacleTo_37 ?_
      refine x_callV2 K (c4_hasCell (5 * sh + s.toNat) hi r c hrr hrc (by rw [e0]; omega) (by rw [e1]; omega)) mtX4_hasCell miX4_hasCell rc3 ⟨by decide, hi⟩ lkRX5_56 ⟨by decide, by decide, by decide⟩ rfl (Nat.le_of_ble_eq_true rfl) dX5_obstacleTo_39 ?_
      refine x_if_ne (tgt := 47) K (by omega) dX5_obstacleTo_42 (by decide) (fun h42 => ?_) (fun h42 => ?_)
      · have hcl : d ≤ 3 → ((0 ≤ r ∧ r < zb Y s.toNat 0) ∧ 0 ≤ c ∧ c < zb Y s.toNat 1) := fun _ => by
          have q := Classical.byContradiction (fun q => h42 (gB1_f q))
          rw [e0, e1] at q
          exact q
        refine x_gets K (g_mem 387 (by decide +kernel)) (g_mem 12 (by decide +kernel)) (g_mem 386 (by decide +kernel)) (gSm_T hN).1 dX5_obstacleTo_47 ?_
        refine x_aloadc_1 K dX5_obstacleTo_50 ?_
        refine x_callU0 K (x := ⟨"ScrollChecks$Deed", "ordinal", "()I"⟩) (C := "ScrollChecks$Deed") (cJx_ordinal (gDa E d) (d : Int) (gD_ord hN hd)) mtJx29ce0_ordinal_8abf5 ⟨(g_mem 389 (by decide +kernel)), (gNw_w (g_mem 391 (by decide +kernel)) rfl), (g_mem 392 (by decide +kernel)), rfl⟩ (gD_O hN hd) (g_mem 388 (by decide +kernel)) ⟨by decide, by decide, by decide⟩ rfl (Nat.le_of_ble_eq_true rfl) dX5_obstacleTo_51 ?_
        refine x_ialdK K (gSm_T hN).2 d rfl (by omega) (by omega) dX5_obstacleTo_54 ?_
        obtain rfl | rfl | rfl | rfl | rfl | rfl | rfl : d = 1 ∨ d = 2 ∨ d = 3 ∨ d = 4 ∨ d = 5 ∨ d = 6 ∨ d = 7 := by omega
        · have hcell := hcl (by omega)
          obtain ⟨r, rfl⟩ : ∃ r2 : Nat, r = (r2 : Int) := ⟨r.toNat, by omega⟩
          obtain ⟨c, rfl⟩ : ∃ c2 : Nat, c = (c2 : Int) := ⟨c.toNat, by omega⟩
          refine x_tblIn (tgt := 92) K 0 (by decide) (by decide) (by decide) rfl dX5_obstacleTo_55 (by decide) ?_
          refine x_iload_5 K dX5_obstacleTo_92 ?_
          refine x_iconst K dX5_obstacleTo_94 ?_
          refine x_bipush K dX5_obstacleTo_95 rfl ?_
          refine x_callS3 K (c6_isWithin k 0 9 (by omega)) mtX6_isWithin msX6_isWithin lkRX5_70 ⟨by decide, by decide, by decide⟩ rfl (Nat.le_of_ble_eq_true rfl) dX5_obstacleTo_97 ?_
          have b1 := gB1_bd (0 ≤ k ∧ k ≤ 9)
          refine x_if_eq (tgt := 107) K (by omega) dX5_obstacleTo_100 (by decide) (fun h100 => ?_) (fun h100 => ?_)
          · have q1 : ¬ (0 ≤ k ∧ k ≤ 9) := fun q => by rw [gB1_t q] at h100; omega
            refine x_iconst K dX5_obstacleTo_107 ?_
            exact x_iret K hE rfl dX5_obstacleTo_108 (by decide) (by decide) (by unfold gOb; rw [if_neg (by omega), if_neg (fun q => q hh), if_neg (fun q => q.2 hcell), if_pos rfl]; first | rw [if_pos q1] | rw [if_neg q1]) rfl
          · have q1 : 0 ≤ k ∧ k ≤ 9 := Classical.byContradiction (fun q => h100 (gB1_f q))
            refine x_iconst K dX5_obstacleTo_103 ?_
            refine x_goto (tgt := 108) K dX5_obstacleTo_104 (by decide) ?_
            exact x_iret K hE rfl dX5_obstacleTo_108 (by decide) (by decide) (by unfold gOb; rw [if_neg (by omega), if_neg (fun q => q hh), if_neg (fun q => q.2 hcell), if_pos rfl]; first | rw [if_pos q1] | rw [if_neg q1]) rfl
        · have hcell := hcl (by omega)
          obtain ⟨r, rfl⟩ : ∃ r2 : Nat, r = (r2 : Int) := ⟨r.toNat, by omega⟩
          obtain ⟨c, rfl⟩ : ∃ c2 : Nat, c = (c2 : Int) := ⟨c.toNat, by omega⟩
          refine x_tblIn (tgt := 109) K 1 (by decide) (by decide) (by decide) rfl dX5_obstacleTo_55 (by decide) ?_
          refine x_iload_5 K dX5_obstacleTo_109 ?_
          refine x_iconst K dX5_obstacleTo_111 ?_
          refine x_bipush K dX5_obstacleTo_112 rfl ?_
          refine x_callS3 K (c6_isWithin k 1 9 (by omega)) mtX6_isWithin msX6_isWithin lkRX5_70 ⟨by decide, by decide, by decide⟩ rfl (Nat.le_of_ble_eq_true rfl) dX5_obstacleTo_114 ?_
          have b1 := gB1_bd (1 ≤ k ∧ k ≤ 9)
          refine x_if_eq (tgt := 131) K (by omega) dX5_obstacleTo_117 (by decide) (fun h117 => ?_) (fun h117 => ?_)
          · have q1 : ¬ (1 ≤ k ∧ k ≤ 9) := fun q => by rw [gB1_t q] at h117; omega
            refine x_iconst K dX5_obstacleTo_131 ?_
            exact x_iret K hE rfl dX5_obstacleTo_132 (by decide) (by decide) (by
  have e : gOb 2 Y s (r : Int) (c : Int) k = if 1 ≤ k ∧ k ≤ 9 then o_t (zb Y s.toNat) (r : Int) (c : Int) else 2 := by unfold gOb; rw [if_neg (by omega), if_neg (fun q => q hh), if_neg (fun q => q.2 hcell), if_neg (by omega), if_pos rfl]
  first
    | exact (e.trans (if_pos q1)).symm
    | exact (e.trans (if_neg q1)).symm) rfl
          · have q1 : 1 ≤ k ∧ k ≤ 9 := Classical.byContradiction (fun q => h117 (gB1_f q))
            refine x_aload_6 K dX5_obstacleTo_120 ?_
            refine x_iload_3 K dX5_obstacleTo_122 ?_
            refine x_iload_4 K dX5_obstacleTo_123 ?_
            refine x_callV2 K (c4_obstacleToTouching (5 * sh + s.toNat) hi (zb Y s.toNat) hgs hz r c (by omega) (by omega)) mtX4_obstacleToTouching miX4_obstacleToTouching rc3 ⟨by decide, hi⟩ lkRX5_74 ⟨by decide, by decide, by decide⟩ rfl (Nat.le_of_ble_eq_true rfl) dX5_obstacleTo_125 ?_
            refine x_goto (tgt := 132) K dX5_obstacleTo_128 (by decide) ?_
            exact x_iret K hE rfl dX5_obstacleTo_132 (by decide) (by decide) (by
  have e : gOb 2 Y s (r : Int) (c : Int) k = if 1 ≤ k ∧ k ≤ 9 then o_t (zb Y s.toNat) (r : Int) (c : Int) else 2 := by unfold gOb; rw [if_neg (by omega), if_neg (fun q => q hh), if_neg (fun q => q.2 hcell), if_neg (by omega), if_pos rfl]
  first
    | exact (e.trans (if_pos q1)).symm
    | exact (e.trans (if_neg q1)).symm) rfl
        · have hcell := hcl (by omega)
          obtain ⟨r, rfl⟩ : ∃ r2 : Nat, r = (r2 : Int) := ⟨r.toNat, by omega⟩
          obtain ⟨c, rfl⟩ : ∃ c2 : Nat, c = (c2 : Int) := ⟨c.toNat, by omega⟩
          refine x_tblIn (tgt := 133) K 2 (by decide) (by decide) (by decide) rfl dX5_obstacleTo_55 (by decide) ?_
          refine x_aload_6 K dX5_obstacleTo_133 ?_
          refine x_iload_3 K dX5_obstacleTo_135 ?_
          refine x_iload_4 K dX5_obstacleTo_136 ?_
          refine x_callV2 K (c4_obstacleToTouching (5 * sh + s.toNat) hi (zb Y s.toNat) hgs hz r c (by omega) (by omega)) mtX4_obstacleToTouching miX4_obstacleToTouching rc3 ⟨by decide, hi⟩ lkRX5_74 ⟨by decide, by decide, by decide⟩ rfl (Nat.le_of_ble_eq_true rfl) dX5_obstacleTo_138 ?_
          exact x_iret K hE rfl dX5_obstacleTo_141 (by decide) (by decide) (by
  have e : gOb 3 Y s (r : Int) (c : Int) k = o_t (zb Y s.toNat) (r : Int) (c : Int) := by unfold gOb; rw [if_neg (by omega), if_neg (fun q => q hh), if_neg (fun q => q.2 hcell), if_neg (by omega), if_neg (by omega), if_pos rfl]
  exact e.symm) rfl
        · refine x_tblIn (tgt := 142) K 3 (by decide) (by decide) (by decide) rfl dX5_obstacleTo_55 (by decide) ?_
          refine x_aload_6 K dX5_obstacleTo_142 ?_
          refine x_callV0 K (c4_obstacleToSealing (5 * sh + s.toNat) hi (zb Y s.toNat) hgs hz) mtX4_obstacleToSealing miX4_obstacleToSealing rc3 ⟨by decide, hi⟩ lkRX5_77 ⟨by decide, by decide, by decide⟩ rfl (Nat.le_of_ble_eq_true rfl) dX5_obstacleTo_144 ?_
          exact x_iret K hE rfl dX5_obstacleTo_147 (by decide) (by decide) (by
  have e : gOb 4 Y s r c k = o_s (zb Y s.toNat) := by unfold gOb; rw [if_neg (by omega), if_neg (fun q => q hh), if_neg (fun q => absurd q.1 (by omega)), if_neg (by omega), if_neg (by omega), if_neg (by omega), if_pos rfl]
  exact e.symm) rfl
        · refine x_tblIn (tgt := 148) K 4 (by decide) (by decide) (by decide) rfl dX5_obstacleTo_55 (by decide) ?_
          refine x_aload_0 K dX5_obstacleTo_148 ?_
          refine x_callV0 K (c5_obstacleToAdding sh hs Y h hY) mtX5_obstacleToAdding miX5_obstacleToAdding rc1 ⟨by decide, hs⟩ lkRX5_80 ⟨by decide, by decide, by decide⟩ rfl (Nat.le_of_ble_eq_true rfl) dX5_obstacleTo_149 ?_
          exact x_iret K hE rfl dX5_obstacleTo_152 (by decide) (by decide) (by
  have e : gOb 5 Y s r c k = o_ad Y := by unfold gOb; rw [if_neg (by omega), if_neg (fun q => q hh), if_neg (fun q => absurd q.1 (by omega)), if_neg (by omega), if_neg (by omega), if_neg (by omega), if_neg (by omega), if_pos rfl]
  exact e.symm) rfl
        · refine x_tblIn (tgt := 153) K 5 (by decide) (by decide) (by decide) rfl dX5_obstacleTo_55 (by decide) ?_
          refine x_aload_6 K dX5_obstacleTo_153 ?_
          refine x_iload_2 K dX5_obstacleTo_155 ?_
          refine x_callV1 K (c4_obstacleToMending (5 * sh + s.toNat) hi (zb Y s.toNat) hgs hz s) mtX4_obstacleToMending miX4_obstacleToMending rc3 ⟨by decide, hi⟩ lkRX5_83 ⟨by decide, by decide, by decide⟩ rfl (Nat.le_of_ble_eq_true rfl) dX5_obstacleTo_156 ?_
          exact x_iret K hE rfl dX5_obstacleTo_159 (by decide) (by decide) (by
  have e : gOb 6 Y s r c k = s_om (zb Y s.toNat) s := by unfold gOb; rw [if_neg (by omega), if_neg (fun q => q hh), if_neg (fun q => absurd q.1 (by omega)), if_neg (by omega), if_neg (by omega), if_neg (by omega), if_neg (by omega), if_neg (by omega), if_pos rfl]
  exact e.symm) rfl
        · refine x_tblOut (tgt := 160) K (by decide) (by decide) dX5_obstacleTo_55 (by decide) ?_
          refine x_aload_6 K dX5_obstacleTo_160 ?_
          refine x_iload_2 K dX5_obstacleTo_162 ?_
          refine x_callV1 K (c4_obstacleToFilling (5 * sh + s.toNat) hi (zb Y s.toNat) hgs hz s) mtX4_obstacleToFilling miX4_obstacleToFilling rc3 ⟨by decide, hi⟩ lkRX5_87 ⟨by decide, by decide, by decide⟩ rfl (Nat.le_of_ble_eq_true rfl) dX5_obstacleTo_163 ?_
          exact x_iret K hE rfl dX5_obstacleTo_166 (by decide) (by decide) (by
  have e : gOb 7 Y s r c k = o_fl (zb Y s.toNat) s := by unfold gOb; rw [if_neg (by omega), if_neg (fun q => q hh), if_neg (fun q => absurd q.1 (by omega)), if_neg (by omega), if_neg (by omega), if_neg (by omega), if_neg (by omega), if_neg (by omega), if_neg (by omega)]
  exact e.symm) rfl
      · have hcl : ¬ ((0 ≤ r ∧ r < zb Y s.toNat 0) ∧ 0 ≤ c ∧ c < zb Y s.toNat 1) := fun q => by rw [e0, e1, gB1_t q] at h42; omega
        refine x_iconst K dX5_obstacleTo_45 ?_
        exact x_iret K hE rfl dX5_obstacleTo_46 (by decide) (by decide) (by unfold gOb; rw [if_neg (by omega), if_neg (fun q => q hh), if_pos ⟨hd3, hcl⟩]) rfl
  refine x_aloadc_1 K dX5_obstacleTo_0 ?_
  refine x_gets K (g_mem 352 (by decide +kernel)) (g_mem 11 (by decide +kernel)) (g_mem 361 (by decide +kernel)) (gD_rd hN (i := 0) (by omega)) dX5_obstacleTo_1 ?_
  refine x_acmp_ne (tgt := 15) K dX5_obstacleTo_4 (by decide) (fun h4 => ?_) (fun h4 => absurd ((gD_ne hN hd).mp h4) hd0)
  refine x_aload_0 K dX5_obstacleTo_15 ?_
  refine x_iload_2 K dX5_obstacleTo_16 ?_
  refine x_callV1 K (c5_findN sh hs Y h hY s hrs9 hh) mtX5_find miX5_find rc1 ⟨by decide, hs⟩ lkRX5_34 ⟨by decide, by decide, by decide⟩ rfl (Nat.le_of_ble_eq_true rfl) dX5_obstacleTo_17 ?_
  refine x_astorez_6 K dX5_obstacleTo_20 rfl ?_
  refine x_aloadz_6 K dX5_obstacleTo_22 ?_
  refine x_ifnullN (tgt := 45) K dX5_obstacleTo_24 (by decide) ?_
  refine x_iconst K dX5_obstacleTo_45 ?_
  exact x_iret K hE rfl dX5_obstacleTo_46 (by decide) (by decide) (by unfold gOb; rw [if_neg (by omega), if_pos hh]) rfl
