/-! ===== ScrollChecksModel: what it answers ===== -/
theorem gU_gU (σ : gS) (k i j : Nat) (v u : Int) : gU (gU σ k i j v) k i j u = gU σ k i j u := gS_ext (fun a b c => by
  rw [gU_at, gU_at, gU_at]
  by_cases q : a = k ∧ b = i ∧ c = j
  · rw [if_pos q, if_pos q]
  · rw [if_neg q, if_neg q, if_neg q]) rfl
theorem c7_thrown {E : gE} {σ : gS} (t : Int) (ht : σ.1 14 0 7 = t) : gCt E mX7_thrown 1 0 [rf 14 0] σ (.inl (some (iv (t)))) σ := by
  refine gCt_of (L := [some (rf 14 0)]) (by decide +kernel) rfl rfl (Nat.le_of_ble_eq_true rfl) (fun X K hE => ?_)
  refine x_aload_0 K dX7_thrown_0 ?_
  refine x_getI K gfRX7_39 ⟨by decide, (by decide)⟩ dX7_thrown_1 ?_
  exact x_iret K hE rfl dX7_thrown_4 (by decide) (by decide) ht rfl
theorem c7_scrollOf_1 {E : gE} {σ : gS} (Y : Nat → Int) (h : gMs σ Y) (hY : gY Y) (s k : Int) (hs : -2147483648 ≤ s ∧ s < 2147483648) (hk : -2147483648 ≤ k ∧ k < 2147483648) (hh : ¬ gHit Y s) : gCt E mX7_scrollOf 12 0 [rf 14 0, iv s, iv k] σ (.inl (some (iv (0)))) (gFl σ 1) := by
  refine gCt_of (L := [some (rf 14 0), some (iv s), some (iv k)]) (by decide +kernel) rfl rfl (Nat.le_of_ble_eq_true rfl) (fun X K hE => ?_)
  have hY0 := hY.1
  have t1 : gB1 (gHit Y s) = 0 := gB1_f hh
  refine x_aload_0 K dX7_scrollOf_0 ?_
  refine x_aload_0 K dX7_scrollOf_1 ?_
  refine x_iload_1 K dX7_scrollOf_2 ?_
  refine x_callV1 K (c7_isScroll Y h hY _ hs) mtX7_isScroll miX7_isScroll rc14 ⟨by decide, (by decide)⟩ lkRX7_65 ⟨by decide, by decide, by decide⟩ rfl (Nat.le_of_ble_eq_true rfl) dX7_scrollOf_3 ?_
  refine x_if_ne (tgt := 13) K (by omega) dX7_scrollOf_6 (by decide) (fun h6 => absurd h6 (by omega)) (fun h6 => ?_)
  refine x_iconst K dX7_scrollOf_9 ?_
  refine x_goto (tgt := 28) K dX7_scrollOf_10 (by decide) ?_
  refine x_putI K gpRX7_39 ⟨by decide, (by decide)⟩ dX7_scrollOf_28 ?_
  refine x_aload_0 K dX7_scrollOf_31 ?_
  refine x_getI K gfRX7_39 ⟨by decide, (by decide)⟩ dX7_scrollOf_32 ?_
  refine gWX.top (b := 1) rfl ?_
  refine x_if_le (tgt := 40) K (by omega) dX7_scrollOf_35 (by decide) (fun h35 => absurd h35 (by omega)) (fun h35 => ?_)
  refine x_iconst K dX7_scrollOf_38 ?_
  exact x_iret K hE rfl dX7_scrollOf_39 (by decide) (by decide) rfl rfl
theorem c7_scrollOf_2 {E : gE} {σ : gS} (Y : Nat → Int) (h : gMs σ Y) (hY : gY Y) (s k : Int) (hs : -2147483648 ≤ s ∧ s < 2147483648) (hk : -2147483648 ≤ k ∧ k < 2147483648) (hh : gHit Y s) (hk2 : ¬ (0 ≤ k ∧ k ≤ 6)) : gCt E mX7_scrollOf 12 0 [rf 14 0, iv s, iv k] σ (.inl (some (iv (0)))) (gFl σ 2) := by
  refine gCt_of (L := [some (rf 14 0), some (iv s), some (iv k)]) (by decide +kernel) rfl rfl (Nat.le_of_ble_eq_true rfl) (fun X K hE => ?_)
  have hY0 := hY.1
  have t1 : gB1 (gHit Y s) = 1 := gB1_t hh
  have t2 : gB1 (0 ≤ k ∧ k ≤ 6) = 0 := gB1_f hk2
  refine x_aload_0 K dX7_scrollOf_0 ?_
  refine x_aload_0 K dX7_scrollOf_1 ?_
  refine x_iload_1 K dX7_scrollOf_2 ?_
  refine x_callV1 K (c7_isScroll Y h hY _ hs) mtX7_isScroll miX7_isScroll rc14 ⟨by decide, (by decide)⟩ lkRX7_65 ⟨by decide, by decide, by decide⟩ rfl (Nat.le_of_ble_eq_true rfl) dX7_scrollOf_3 ?_
  refine x_if_ne (tgt := 13) K (by omega) dX7_scrollOf_6 (by decide) (fun h6 => ?_) (fun h6 => absurd h6 (by omega))
  refine x_iload_2 K dX7_scrollOf_13 ?_
  refine x_iconst K dX7_scrollOf_14 ?_
  refine x_bipush K dX7_scrollOf_15 rfl ?_
  refine x_callS3 K (c7_in k 0 6 (by omega)) mtX7_in msX7_in lkRX7_61 ⟨by decide, by decide, by decide⟩ rfl (Nat.le_of_ble_eq_true rfl) dX7_scrollOf_17 ?_
  refine x_if_ne (tgt := 27) K (by omega) dX7_scrollOf_20 (by decide) (fun h20 => absurd h20 (by omega)) (fun h20 => ?_)
  refine x_iconst K dX7_scrollOf_23 ?_
  refine x_goto (tgt := 28) K dX7_scrollOf_24 (by decide) ?_
  refine x_putI K gpRX7_39 ⟨by decide, (by decide)⟩ dX7_scrollOf_28 ?_
  refine x_aload_0 K dX7_scrollOf_31 ?_
  refine x_getI K gfRX7_39 ⟨by decide, (by decide)⟩ dX7_scrollOf_32 ?_
  refine gWX.top (b := 2) rfl ?_
  refine x_if_le (tgt := 40) K (by omega) dX7_scrollOf_35 (by decide) (fun h35 => absurd h35 (by omega)) (fun h35 => ?_)
  refine x_iconst K dX7_scrollOf_38 ?_
  exact x_iret K hE rfl dX7_scrollOf_39 (by decide) (by decide) rfl rfl
theorem c7_scrollOf {E : gE} {σ : gS} (Y : Nat → Int) (h : gMs σ Y) (hY : gY Y) (s : Int) (k : Nat) (hs : -2147483648 ≤ s ∧ s < 2147483648) (hh : gHit Y s) (hk : k ≤ 6) : gCt E mX7_scrollOf 12 0 [rf 14 0, iv s, iv (k : Int)] σ (.inl (some (iv (s_of (zb Y s.toNat) k)))) (gFl σ 0) := by
  refine gCt_of (L := [some (rf 14 0), some (iv s), some (iv (k : Int))]) (by decide +kernel) rfl rfl (Nat.le_of_ble_eq_true rfl) (fun X K hE => ?_)
  have t1 : gB1 (gHit Y s) = 1 := gB1_t hh
  have t2 : gB1 (0 ≤ (k : Int) ∧ (k : Int) ≤ 6) = 1 := gB1_t (by omega)
  obtain ⟨n, rfl⟩ : ∃ n : Nat, s = (n : Int) := ⟨s.toNat, by omega⟩
  have hn : (n : Int) < Y 0 := hh.2
  have hY0 := hY.1
  have hz := hY.2 n hn
  have ⟨q0, q1, q2, q3, q4, q5, q6, q7, q8⟩ := hz
  refine x_aload_0 K dX7_scrollOf_0 ?_
  refine x_aload_0 K dX7_scrollOf_1 ?_
  refine x_iload_1 K dX7_scrollOf_2 ?_
  refine x_callV1 K (c7_isScroll Y h hY _ hs) mtX7_isScroll miX7_isScroll rc14 ⟨by decide, (by decide)⟩ lkRX7_65 ⟨by decide, by decide, by decide⟩ rfl (Nat.le_of_ble_eq_true rfl) dX7_scrollOf_3 ?_
  refine x_if_ne (tgt := 13) K (by omega) dX7_scrollOf_6 (by decide) (fun h6 => ?_) (fun h6 => absurd h6 (by omega))
  refine x_iload_2 K dX7_scrollOf_13 ?_
  refine x_iconst K dX7_scrollOf_14 ?_
  refine x_bipush K dX7_scrollOf_15 rfl ?_
  refine x_callS3 K (c7_in (k : Int) 0 6 (by omega)) mtX7_in msX7_in lkRX7_61 ⟨by decide, by decide, by decide⟩ rfl (Nat.le_of_ble_eq_true rfl) dX7_scrollOf_17 ?_
  refine x_if_ne (tgt := 27) K (by omega) dX7_scrollOf_20 (by decide) (fun h20 => ?_) (fun h20 => absurd h20 (by omega))
  refine x_iconst K dX7_scrollOf_27 ?_
  refine x_putI K gpRX7_39 ⟨by decide, (by decide)⟩ dX7_scrollOf_28 ?_
  refine x_aload_0 K dX7_scrollOf_31 ?_
  refine x_getI K gfRX7_39 ⟨by decide, (by decide)⟩ dX7_scrollOf_32 ?_
  refine gWX.top (b := 0) rfl ?_
  refine x_if_le (tgt := 40) K (by omega) dX7_scrollOf_35 (by decide) (fun h35 => ?_) (fun h35 => absurd h35 (by omega))
  refine x_iload_2 K dX7_scrollOf_40 ?_
  refine x_iconst K dX7_scrollOf_41 ?_
  refine x_icmp_ne (tgt := 53) K (by omega) dX7_scrollOf_42 (by decide) (fun h42 => ?_) (fun h42 => ?_)
  · refine x_aload_0 K dX7_scrollOf_53 ?_
    refine x_iload_1 K dX7_scrollOf_54 ?_
    refine x_iload_2 K dX7_scrollOf_55 ?_
    refine x_iconst K dX7_scrollOf_56 ?_
    refine x_icmp_le (tgt := 66) K (by omega) dX7_scrollOf_57 (by decide) (fun h57 => ?_) (fun h57 => ?_)
    · refine x_iload_2 K dX7_scrollOf_66 ?_
      refine gWX.top (b := ((k : Nat) : Int)) rfl ?_
      refine x_callV2 K (c7_of Y (gMs_u h 7 0) n k (by omega) (by omega)) mtX7_of miX7_of rc14 ⟨by decide, (by decide)⟩ lkRX7_69 ⟨by decide, by decide, by decide⟩ rfl (Nat.le_of_ble_eq_true rfl) dX7_scrollOf_67 ?_
      exact x_iret K hE rfl dX7_scrollOf_70 (by decide) (by decide) (by unfold s_of; rw [if_neg (by omega), if_pos (by omega)]; rfl) rfl
    · refine x_iload_2 K dX7_scrollOf_60 ?_
      refine x_iconst K dX7_scrollOf_61 ?_
      refine x_isub K dX7_scrollOf_62 ?_
      refine x_goto (tgt := 67) K dX7_scrollOf_63 (by decide) ?_
      refine gWX.top (b := (((k - 1) : Nat) : Int)) (by omega) ?_
      refine x_callV2 K (c7_of Y (gMs_u h 7 0) n (k - 1) (by omega) (by omega)) mtX7_of miX7_of rc14 ⟨by decide, (by decide)⟩ lkRX7_69 ⟨by decide, by decide, by decide⟩ rfl (Nat.le_of_ble_eq_true rfl) dX7_scrollOf_67 ?_
      exact x_iret K hE rfl dX7_scrollOf_70 (by decide) (by decide) (by unfold s_of; rw [if_neg (by omega), if_neg (by omega)]; rfl) rfl
  · refine x_aload_0 K dX7_scrollOf_45 ?_
    refine x_iload_1 K dX7_scrollOf_46 ?_
    refine x_callV1 K (c7_smudged Y (gMs_u h 7 0) hY n hn) mtX7_smudged miX7_smudged rc14 ⟨by decide, (by decide)⟩ lkRX7_134 ⟨by decide, by decide, by decide⟩ rfl (Nat.le_of_ble_eq_true rfl) dX7_scrollOf_47 ?_
    refine x_goto (tgt := 70) K dX7_scrollOf_50 (by decide) ?_
    exact x_iret K hE rfl dX7_scrollOf_70 (by decide) (by decide) (if_pos (by omega)).symm rfl
theorem c7_signAt_1 {E : gE} {σ : gS} (Y : Nat → Int) (h : gMs σ Y) (hY : gY Y) (s r c : Int) (hs : -2147483648 ≤ s ∧ s < 2147483648) (hr : -2147483648 ≤ r ∧ r < 2147483648) (hc : -2147483648 ≤ c ∧ c < 2147483648) (hh : ¬ gCel Y s r c) : gCt E mX7_signAt 12 0 [rf 14 0, iv s, iv r, iv c] σ (.inl (some (iv (0)))) (gFl σ 1) := by
  refine gCt_of (L := [some (rf 14 0), some (iv s), some (iv r), some (iv c)]) (by decide +kernel) rfl rfl (Nat.le_of_ble_eq_true rfl) (fun X K hE => ?_)
  have hY0 := hY.1
  have t1 : gB1 (gCel Y s r c) = 0 := gB1_f hh
  refine x_aload_0 K dX7_signAt_0 ?_
  refine x_aload_0 K dX7_signAt_1 ?_
  refine x_iload_1 K dX7_signAt_2 ?_
  refine x_iload_2 K dX7_signAt_3 ?_
  refine x_iload_3 K dX7_signAt_4 ?_
  refine x_callV3 K (c7_isCell Y h hY _ _ _ hs hr hc) mtX7_isCell miX7_isCell rc14 ⟨by decide, (by decide)⟩ lkRX7_137 ⟨by decide, by decide, by decide⟩ rfl (Nat.le_of_ble_eq_true rfl) dX7_signAt_5 ?_
  refine x_if_eq (tgt := 15) K (by omega) dX7_signAt_8 (by decide) (fun h8 => ?_) (fun h8 => absurd h8 (by omega))
  refine x_iconst K dX7_signAt_15 ?_
  refine x_putI K gpRX7_39 ⟨by decide, (by decide)⟩ dX7_signAt_16 ?_
  refine x_aload_0 K dX7_signAt_19 ?_
  refine x_getI K gfRX7_39 ⟨by decide, (by decide)⟩ dX7_signAt_20 ?_
  refine gWX.top (b := 1) rfl ?_
  refine x_if_le (tgt := 30) K (by omega) dX7_signAt_23 (by decide) (fun h23 => absurd h23 (by omega)) (fun h23 => ?_)
  refine x_iconst K dX7_signAt_26 ?_
  refine x_goto (tgt := 37) K dX7_signAt_27 (by decide) ?_
  exact x_iret K hE rfl dX7_signAt_37 (by decide) (by decide) rfl rfl
theorem c7_signAt {E : gE} {σ : gS} (Y : Nat → Int) (h : gMs σ Y) (hY : gY Y) (s r c : Int) (hs : -2147483648 ≤ s ∧ s < 2147483648) (hr : -2147483648 ≤ r ∧ r < 2147483648) (hc : -2147483648 ≤ c ∧ c < 2147483648) (hh : gCel Y s r c) : gCt E mX7_signAt 12 0 [rf 14 0, iv s, iv r, iv c] σ (.inl (some (iv (zb Y s.toNat (20 + (8 * r.toNat + c.toNat)))))) (gFl σ 0) := by
  refine gCt_of (L := [some (rf 14 0), some (iv s), some (iv r), some (iv c)]) (by decide +kernel) rfl rfl (Nat.le_of_ble_eq_true rfl) (fun X K hE => ?_)
  have t1 : gB1 (gCel Y s r c) = 1 := gB1_t hh
  obtain ⟨n, rfl⟩ : ∃ n : Nat, s = (n : Int) := ⟨s.toNat, by have := hh.1; omega⟩
  obtain ⟨r, rfl⟩ : ∃ r2 : Nat, r = (r2 : Int) := ⟨r.toNat, by have := hh.2.1; omega⟩
  obtain ⟨c, rfl⟩ : ∃ c2 : Nat, c = (c2 : Int) := ⟨c.toNat, by have := hh.2.2; omega⟩
  have hn : (n : Int) < Y 0 := hh.1.2
  have hY0 := hY.1
  have hz := hY.2 n hn
  have ⟨q0, q1, q2, q3, q4, q5, q6, q7, q8⟩ := hz
  have hr9 : (r : Int) < zb Y n 0 := hh.2.1.2
  have hc9 : (c : Int) < zb Y n 1 := hh.2.2.2
  have hr6 : r < 6 := by omega
  have hc8 : c < 8 := by omega
  have b5 : -1 ≤ zb Y n (20 + (8 * r + c)) ∧ zb Y n (20 + (8 * r + c)) ≤ 9 := q5 (8 * r + c) (by omega)
  refine x_aload_0 K dX7_signAt_0 ?_
  refine x_aload_0 K dX7_signAt_1 ?_
  refine x_iload_1 K dX7_signAt_2 ?_
  refine x_iload_2 K dX7_signAt_3 ?_
  refine x_iload_3 K dX7_signAt_4 ?_
  refine x_callV3 K (c7_isCell Y h hY _ _ _ hs hr hc) mtX7_isCell miX7_isCell rc14 ⟨by decide, (by decide)⟩ lkRX7_137 ⟨by decide, by decide, by decide⟩ rfl (Nat.le_of_ble_eq_true rfl) dX7_signAt_5 ?_
  refine x_if_eq (tgt := 15) K (by omega) dX7_signAt_8 (by decide) (fun h8 => absurd h8 (by omega)) (fun h8 => ?_)
  refine x_iconst K dX7_signAt_11 ?_
  refine x_goto (tgt := 16) K dX7_signAt_12 (by decide) ?_
  refine x_putI K gpRX7_39 ⟨by decide, (by decide)⟩ dX7_signAt_16 ?_
  refine x_aload_0 K dX7_signAt_19 ?_
  refine x_getI K gfRX7_39 ⟨by decide, (by decide)⟩ dX7_signAt_20 ?_
  refine gWX.top (b := 0) rfl ?_
  refine x_if_le (tgt := 30) K (by omega) dX7_signAt_23 (by decide) (fun h23 => ?_) (fun h23 => absurd h23 (by omega))
  refine x_aload_0 K dX7_signAt_30 ?_
  refine x_iload_1 K dX7_signAt_31 ?_
  refine x_iload_2 K dX7_signAt_32 ?_
  refine x_iload_3 K dX7_signAt_33 ?_
  refine x_callV3 K (c7_sign1 Y (gMs_u h 7 0) n (by omega) r c hr6 hc8) mtX7_sign1 miX7_sign1 rc14 ⟨by decide, (by decide)⟩ lkRX7_88 ⟨by decide, by decide, by decide⟩ rfl (Nat.le_of_ble_eq_true rfl) dX7_signAt_34 ?_
  exact x_iret K hE rfl dX7_signAt_37 (by decide) (by decide) rfl rfl
theorem c7_isInDoubt_1 {E : gE} {σ : gS} (Y : Nat → Int) (h : gMs σ Y) (hY : gY Y) (s r c : Int) (hs : -2147483648 ≤ s ∧ s < 2147483648) (hr : -2147483648 ≤ r ∧ r < 2147483648) (hc : -2147483648 ≤ c ∧ c < 2147483648) (hh : ¬ gCel Y s r c) : gCt E mX7_isInDoubt 12 0 [rf 14 0, iv s, iv r, iv c] σ (.inl (some (iv (0)))) (gFl σ 1) := by
  refine gCt_of (L := [some (rf 14 0), some (iv s), some (iv r), some (iv c)]) (by decide +kernel) rfl rfl (Nat.le_of_ble_eq_true rfl) (fun X K hE => ?_)
  have hY0 := hY.1
  have t1 : gB1 (gCel Y s r c) = 0 := gB1_f hh
  refine x_aload_0 K dX7_isInDoubt_0 ?_
  refine x_aload_0 K dX7_isInDoubt_1 ?_
  refine x_iload_1 K dX7_isInDoubt_2 ?_
  refine x_iload_2 K dX7_isInDoubt_3 ?_
  refine x_iload_3 K dX7_isInDoubt_4 ?_
  refine x_callV3 K (c7_isCell Y h hY _ _ _ hs hr hc) mtX7_isCell miX7_isCell rc14 ⟨by decide, (by decide)⟩ lkRX7_137 ⟨by decide, by decide, by decide⟩ rfl (Nat.le_of_ble_eq_true rfl) dX7_isInDoubt_5 ?_
  refine x_if_eq (tgt := 15) K (by omega) dX7_isInDoubt_8 (by decide) (fun h8 => ?_) (fun h8 => absurd h8 (by omega))
  refine x_iconst K dX7_isInDoubt_15 ?_
  refine x_putI K gpRX7_39 ⟨by decide, (by decide)⟩ dX7_isInDoubt_16 ?_
  refine x_aload_0 K dX7_isInDoubt_19 ?_
  refine x_getI K gfRX7_39 ⟨by decide, (by decide)⟩ dX7_isInDoubt_20 ?_
  refine gWX.top (b := 1) rfl ?_
  refine x_if_ne (tgt := 40) K (by omega) dX7_isInDoubt_23 (by decide) (fun h23 => ?_) (fun h23 => absurd h23 (by omega))
  refine x_iconst K dX7_isInDoubt_40 ?_
  exact x_zret K hE rfl dX7_isInDoubt_41 (by decide) (by decide) (by omega) rfl rfl
theorem c7_isInDoubt {E : gE} {σ : gS} (Y : Nat → Int) (h : gMs σ Y) (hY : gY Y) (s r c : Int) (hs : -2147483648 ≤ s ∧ s < 2147483648) (hr : -2147483648 ≤ r ∧ r < 2147483648) (hc : -2147483648 ≤ c ∧ c < 2147483648) (hh : gCel Y s r c) : gCt E mX7_isInDoubt 12 0 [rf 14 0, iv s, iv r, iv c] σ (.inl (some (iv (gB1 (s_df (zb Y s.toNat) r.toNat c.toNat = true))))) (gFl σ 0) := by
  refine gCt_of (L := [some (rf 14 0), some (iv s), some (iv r), some (iv c)]) (by decide +kernel) rfl rfl (Nat.le_of_ble_eq_true rfl) (fun X K hE => ?_)
  have t1 : gB1 (gCel Y s r c) = 1 := gB1_t hh
  obtain ⟨n, rfl⟩ : ∃ n : Nat, s = (n : Int) := ⟨s.toNat, by have := hh.1; omega⟩
  obtain ⟨r, rfl⟩ : ∃ r2 : Nat, r = (r2 : Int) := ⟨r.toNat, by have := hh.2.1; omega⟩
  obtain ⟨c, rfl⟩ : ∃ c2 : Nat, c = (c2 : Int) := ⟨c.toNat, by have := hh.2.2; omega⟩
  have hn : (n : Int) < Y 0 := hh.1.2
  have hY0 := hY.1
  have hz := hY.2 n hn
  have ⟨q0, q1, q2, q3, q4, q5, q6, q7, q8⟩ := hz
  have hr9 : (r : Int) < zb Y n 0 := hh.2.1.2
  have hc9 : (c : Int) < zb Y n 1 := hh.2.2.2
  have hr6 : r < 6 := by omega
  have hc8 : c < 8 := by omega
  have b5 : -1 ≤ zb Y n (20 + (8 * r + c)) ∧ zb Y n (20 + (8 * r + c)) ≤ 9 := q5 (8 * r + c) (by omega)
  refine x_aload_0 K dX7_isInDoubt_0 ?_
  refine x_aload_0 K dX7_isInDoubt_1 ?_
  refine x_iload_1 K dX7_isInDoubt_2 ?_
  refine x_iload_2 K dX7_isInDoubt_3 ?_
  refine x_iload_3 K dX7_isInDoubt_4 ?_
  refine x_callV3 K (c7_isCell Y h hY _ _ _ hs hr hc) mtX7_isCell miX7_isCell rc14 ⟨by decide, (by decide)⟩ lkRX7_137 ⟨by decide, by decide, by decide⟩ rfl (Nat.le_of_ble_eq_true rfl) dX7_isInDoubt_5 ?_
  refine x_if_eq (tgt := 15) K (by omega) dX7_isInDoubt_8 (by decide) (fun h8 => absurd h8 (by omega)) (fun h8 => ?_)
  refine x_iconst K dX7_isInDoubt_11 ?_
  refine x_goto (tgt := 16) K dX7_isInDoubt_12 (by decide) ?_
  refine x_putI K gpRX7_39 ⟨by decide, (by decide)⟩ dX7_isInDoubt_16 ?_
  refine x_aload_0 K dX7_isInDoubt_19 ?_
  refine x_getI K gfRX7_39 ⟨by decide, (by decide)⟩ dX7_isInDoubt_20 ?_
  refine gWX.top (b := 0) rfl ?_
  refine x_if_ne (tgt := 40) K (by omega) dX7_isInDoubt_23 (by decide) (fun h23 => absurd h23 (by omega)) (fun h23 => ?_)
  refine x_aload_0 K dX7_isInDoubt_26 ?_
  refine x_iload_1 K dX7_isInDoubt_27 ?_
  refine x_iload_2 K dX7_isInDoubt_28 ?_
  refine x_iload_3 K dX7_isInDoubt_29 ?_
  refine x_callV3 K (c7_inDoubt Y (gMs_u h 7 0) hY n hn r c hr6 hc8) mtX7_inDoubt miX7_inDoubt rc14 ⟨by decide, (by decide)⟩ lkRX7_163 ⟨by decide, by decide, by decide⟩ rfl (Nat.le_of_ble_eq_true rfl) dX7_isInDoubt_30 ?_
  have b9 := gB1_bd (s_df (zb Y n) r c = true)
  refine x_if_eq (tgt := 40) K (by omega) dX7_isInDoubt_33 (by decide) (fun h33 => ?_) (fun h33 => ?_)
  · refine x_iconst K dX7_isInDoubt_40 ?_
    exact x_zret K hE rfl dX7_isInDoubt_41 (by decide) (by decide) (by omega) (by show _ = gB1 (s_df (zb Y n) r c = true); omega) rfl
  · refine x_iconst K dX7_isInDoubt_36 ?_
    refine x_goto (tgt := 41) K dX7_isInDoubt_37 (by decide) ?_
    exact x_zret K hE rfl dX7_isInDoubt_41 (by decide) (by decide) (by omega) (by show _ = gB1 (s_df (zb Y n) r c = true); omega) rfl
theorem c7_rowSum_1 {E : gE} {σ : gS} (Y : Nat → Int) (h : gMs σ Y) (hY : gY Y) (s r : Int) (hs : -2147483648 ≤ s ∧ s < 2147483648) (hr : -2147483648 ≤ r ∧ r < 2147483648) (hh : ¬ gRow Y s r) : gCt E mX7_rowSum 12 0 [rf 14 0, iv s, iv r] σ (.inl (some (iv (0)))) (gFl σ 1) := by
  refine gCt_of (L := [some (rf 14 0), some (iv s), some (iv r)]) (by decide +kernel) rfl rfl (Nat.le_of_ble_eq_true rfl) (fun X K hE => ?_)
  have hY0 := hY.1
  have t1 : gB1 (gRow Y s r) = 0 := gB1_f hh
  refine x_aload_0 K dX7_rowSum_0 ?_
  refine x_aload_0 K dX7_rowSum_1 ?_
  refine x_iload_1 K dX7_rowSum_2 ?_
  refine x_iload_2 K dX7_rowSum_3 ?_
  refine x_callV2 K (c7_isRow Y h hY _ _ hs hr) mtX7_isRow miX7_isRow rc14 ⟨by decide, (by decide)⟩ lkRX7_73 ⟨by decide, by decide, by decide⟩ rfl (Nat.le_of_ble_eq_true rfl) dX7_rowSum_4 ?_
  refine x_if_ne (tgt := 14) K (by omega) dX7_rowSum_7 (by decide) (fun h7 => absurd h7 (by omega)) (fun h7 => ?_)
  refine x_iconst K dX7_rowSum_10 ?_
  refine x_goto (tgt := 27) K dX7_rowSum_11 (by decide) ?_
  refine x_putI K gpRX7_39 ⟨by decide, (by decide)⟩ dX7_rowSum_27 ?_
  refine x_aload_0 K dX7_rowSum_30 ?_
  refine x_getI K gfRX7_39 ⟨by decide, (by decide)⟩ dX7_rowSum_31 ?_
  refine gWX.top (b := 1) rfl ?_
  refine x_if_le (tgt := 41) K (by omega) dX7_rowSum_34 (by decide) (fun h34 => absurd h34 (by omega)) (fun h34 => ?_)
  refine x_iconst K dX7_rowSum_37 ?_
  refine x_goto (tgt := 48) K dX7_rowSum_38 (by decide) ?_
  exact x_iret K hE rfl dX7_rowSum_48 (by decide) (by decide) rfl rfl
theorem c7_rowSum_2 {E : gE} {σ : gS} (Y : Nat → Int) (h : gMs σ Y) (hY : gY Y) (s r : Int) (hs : -2147483648 ≤ s ∧ s < 2147483648) (hr : -2147483648 ≤ r ∧ r < 2147483648) (hh : gRow Y s r) (hz2 : zb Y s.toNat 2 = 0) : gCt E mX7_rowSum 12 0 [rf 14 0, iv s, iv r] σ (.inl (some (iv (0)))) (gFl σ 2) := by
  refine gCt_of (L := [some (rf 14 0), some (iv s), some (iv r)]) (by decide +kernel) rfl rfl (Nat.le_of_ble_eq_true rfl) (fun X K hE => ?_)
  have t1 : gB1 (gRow Y s r) = 1 := gB1_t hh
  obtain ⟨n, rfl⟩ : ∃ n : Nat, s = (n : Int) := ⟨s.toNat, by have := hh.1; omega⟩
  obtain ⟨r, rfl⟩ : ∃ r2 : Nat, r = (r2 : Int) := ⟨r.toNat, by have := hh.2; omega⟩
  have hn : (n : Int) < Y 0 := hh.1.2
  have hY0 := hY.1
  have hz := hY.2 n hn
  have ⟨q0, q1, q2, q3, q4, q5, q6, q7, q8⟩ := hz
  have hr9 : (r : Int) < zb Y n 0 := hh.2.2
  have hr6 : r < 6 := by omega
  have hz3 : zb Y n 2 = 0 := hz2
  have t2 : gB1 (zb Y n 2 = 1) = 0 := gB1_f (by omega)
  refine x_aload_0 K dX7_rowSum_0 ?_
  refine x_aload_0 K dX7_rowSum_1 ?_
  refine x_iload_1 K dX7_rowSum_2 ?_
  refine x_iload_2 K dX7_rowSum_3 ?_
  refine x_callV2 K (c7_isRow Y h hY _ _ hs hr) mtX7_isRow miX7_isRow rc14 ⟨by decide, (by decide)⟩ lkRX7_73 ⟨by decide, by decide, by decide⟩ rfl (Nat.le_of_ble_eq_true rfl) dX7_rowSum_4 ?_
  refine x_if_ne (tgt := 14) K (by omega) dX7_rowSum_7 (by decide) (fun h7 => ?_) (fun h7 => absurd h7 (by omega))
  refine x_aload_0 K dX7_rowSum_14 ?_
  refine x_iload_1 K dX7_rowSum_15 ?_
  refine x_callV1 K (c7_isSealed Y h hY n hn) mtX7_isSealed miX7_isSealed rc14 ⟨by decide, (by decide)⟩ lkRX7_111 ⟨by decide, by decide, by decide⟩ rfl (Nat.le_of_ble_eq_true rfl) dX7_rowSum_16 ?_
  refine x_if_ne (tgt := 26) K (by omega) dX7_rowSum_19 (by decide) (fun h19 => absurd h19 (by omega)) (fun h19 => ?_)
  refine x_iconst K dX7_rowSum_22 ?_
  refine x_goto (tgt := 27) K dX7_rowSum_23 (by decide) ?_
  refine x_putI K gpRX7_39 ⟨by decide, (by decide)⟩ dX7_rowSum_27 ?_
  refine x_aload_0 K dX7_rowSum_30 ?_
  refine x_getI K gfRX7_39 ⟨by decide, (by decide)⟩ dX7_rowSum_31 ?_
  refine gWX.top (b := 2) rfl ?_
  refine x_if_le (tgt := 41) K (by omega) dX7_rowSum_34 (by decide) (fun h34 => absurd h34 (by omega)) (fun h34 => ?_)
  refine x_iconst K dX7_rowSum_37 ?_
  refine x_goto (tgt := 48) K dX7_rowSum_38 (by decide) ?_
  exact x_iret K hE rfl dX7_rowSum_48 (by decide) (by decide) rfl rfl
theorem c7_rowSum {E : gE} {σ : gS} (Y : Nat → Int) (h : gMs σ Y) (hY : gY Y) (s r : Int) (hs : -2147483648 ≤ s ∧ s < 2147483648) (hr : -2147483648 ≤ r ∧ r < 2147483648) (hh : gRow Y s r) (hz2 : zb Y s.toNat 2 = 1) : gCt E mX7_rowSum 12 0 [rf 14 0, iv s, iv r] σ (.inl (some (iv (zb Y s.toNat (6 + r.toNat))))) (gFl σ 0) := by
  refine gCt_of (L := [some (rf 14 0), some (iv s), some (iv r)]) (by decide +kernel) rfl rfl (Nat.le_of_ble_eq_true rfl) (fun X K hE => ?_)
  have t1 : gB1 (gRow Y s r) = 1 := gB1_t hh
  obtain ⟨n, rfl⟩ : ∃ n : Nat, s = (n : Int) := ⟨s.toNat, by have := hh.1; omega⟩
  obtain ⟨r, rfl⟩ : ∃ r2 : Nat, r = (r2 : Int) := ⟨r.toNat, by have := hh.2; omega⟩
  have hn : (n : Int) < Y 0 := hh.1.2
  have hY0 := hY.1
  have hz := hY.2 n hn
  have ⟨q0, q1, q2, q3, q4, q5, q6, q7, q8⟩ := hz
  have hr9 : (r : Int) < zb Y n 0 := hh.2.2
  have hr6 : r < 6 := by omega
  have t2 : gB1 (zb Y n 2 = 1) = 1 := gB1_t hz2
  refine x_aload_0 K dX7_rowSum_0 ?_
  refine x_aload_0 K dX7_rowSum_1 ?_
  refine x_iload_1 K dX7_rowSum_2 ?_
  refine x_iload_2 K dX7_rowSum_3 ?_
  refine x_callV2 K (c7_isRow Y h hY _ _ hs hr) mtX7_isRow miX7_isRow rc14 ⟨by decide, (by decide)⟩ lkRX7_73 ⟨by decide, by decide, by decide⟩ rfl (Nat.le_of_ble_eq_true rfl) dX7_rowSum_4 ?_
  refine x_if_ne (tgt := 14) K (by omega) dX7_rowSum_7 (by decide) (fun h7 => ?_) (fun h7 => absurd h7 (by omega))
  refine x_aload_0 K dX7_rowSum_14 ?_
  refine x_iload_1 K dX7_rowSum_15 ?_
  refine x_callV1 K (c7_isSealed Y h hY n hn) mtX7_isSealed miX7_isSealed rc14 ⟨by decide, (by decide)⟩ lkRX7_111 ⟨by decide, by decide, by decide⟩ rfl (Nat.le_of_ble_eq_true rfl) dX7_rowSum_16 ?_
  refine x_if_ne (tgt := 26) K (by omega) dX7_rowSum_19 (by decide) (fun h19 => ?_) (fun h19 => absurd h19 (by omega))
  refine x_iconst K dX7_rowSum_26 ?_
  refine x_putI K gpRX7_39 ⟨by decide, (by decide)⟩ dX7_rowSum_27 ?_
  refine x_aload_0 K dX7_rowSum_30 ?_
  refine x_getI K gfRX7_39 ⟨by decide, (by decide)⟩ dX7_rowSum_31 ?_
  refine gWX.top (b := 0) rfl ?_
  refine x_if_le (tgt := 41) K (by omega) dX7_rowSum_34 (by decide) (fun h34 => ?_) (fun h34 => absurd h34 (by omega))
  refine x_aload_0 K dX7_rowSum_41 ?_
  refine x_iload_1 K dX7_rowSum_42 ?_
  refine x_iconst K dX7_rowSum_43 ?_
  refine x_iload_2 K dX7_rowSum_44 ?_
  refine x_callV3 K (c7_told_r Y (gMs_u h 7 0) hY n hn r hr6) mtX7_told miX7_told rc14 ⟨by decide, (by decide)⟩ lkRX7_105 ⟨by decide, by decide, by decide⟩ rfl (Nat.le_of_ble_eq_true rfl) dX7_rowSum_45 ?_
  exact x_iret K hE rfl dX7_rowSum_48 (by decide) (by decide) rfl rfl
theorem c7_columnSum_1 {E : gE} {σ : gS} (Y : Nat → Int) (h : gMs σ Y) (hY : gY Y) (s c : Int) (hs : -2147483648 ≤ s ∧ s < 2147483648) (hc : -2147483648 ≤ c ∧ c < 2147483648) (hh : ¬ gCol Y s c) : gCt E mX7_columnSum 12 0 [rf 14 0, iv s, iv c] σ (.inl (some (iv (0)))) (gFl σ 1) := by
  refine gCt_of (L := [some (rf 14 0), some (iv s), some (iv c)]) (by decide +kernel) rfl rfl (Nat.le_of_ble_eq_true rfl) (fun X K hE => ?_)
  have hY0 := hY.1
  have t1 : gB1 (gCol Y s c) = 0 := gB1_f hh
  refine x_aload_0 K dX7_columnSum_0 ?_
  refine x_aload_0 K dX7_columnSum_1 ?_
  refine x_iload_1 K dX7_columnSum_2 ?_
  refine x_iload_2 K dX7_columnSum_3 ?_
  refine x_callV2 K (c7_isColumn Y h hY _ _ hs hc) mtX7_isColumn miX7_isColumn rc14 ⟨by decide, (by decide)⟩ lkRX7_77 ⟨by decide, by decide, by decide⟩ rfl (Nat.le_of_ble_eq_true rfl) dX7_columnSum_4 ?_
  refine x_if_ne (tgt := 14) K (by omega) dX7_columnSum_7 (by decide) (fun h7 => absurd h7 (by omega)) (fun h7 => ?_)
  refine x_iconst K dX7_columnSum_10 ?_
  refine x_goto (tgt := 27) K dX7_columnSum_11 (by decide) ?_
  refine x_putI K gpRX7_39 ⟨by decide, (by decide)⟩ dX7_columnSum_27 ?_
  refine x_aload_0 K dX7_columnSum_30 ?_
  refine x_getI K gfRX7_39 ⟨by decide, (by decide)⟩ dX7_columnSum_31 ?_
  refine gWX.top (b := 1) rfl ?_
  refine x_if_le (tgt := 41) K (by omega) dX7_columnSum_34 (by decide) (fun h34 => absurd h34 (by omega)) (fun h34 => ?_)
  refine x_iconst K dX7_columnSum_37 ?_
  refine x_goto (tgt := 48) K dX7_columnSum_38 (by decide) ?_
  exact x_iret K hE rfl dX7_columnSum_48 (by decide) (by decide) rfl rfl
theorem c7_columnSum_2 {E : gE} {σ : gS} (Y : Nat → Int) (h : gMs σ Y) (hY : gY Y) (s c : Int) (hs : -2147483648 ≤ s ∧ s < 2147483648) (hc : -2147483648 ≤ c ∧ c < 2147483648) (hh : gCol Y s c) (hz2 : zb Y s.toNat 2 = 0) : gCt E mX7_columnSum 12 0 [rf 14 0, iv s, iv c] σ (.inl (some (iv (0)))) (gFl σ 2) := by
  refine gCt_of (L := [some (rf 14 0), some (iv s), some (iv c)]) (by decide +kernel) rfl rfl (Nat.le_of_ble_eq_true rfl) (fun X K hE => ?_)
  have t1 : gB1 (gCol Y s c) = 1 := gB1_t hh
  obtain ⟨n, rfl⟩ : ∃ n : Nat, s = (n : Int) := ⟨s.toNat, by have := hh.1; omega⟩
  obtain ⟨c, rfl⟩ : ∃ c2 : Nat, c = (c2 : Int) := ⟨c.toNat, by have := hh.2; omega⟩
  have hn : (n : Int) < Y 0 := hh.1.2
  have hY0 := hY.1
  have hz := hY.2 n hn
  have ⟨q0, q1, q2, q3, q4, q5, q6, q7, q8⟩ := hz
  have hc9 : (c : Int) < zb Y n 1 := hh.2.2
  have hc8 : c < 8 := by omega
  have hz3 : zb Y n 2 = 0 := hz2
  have t2 : gB1 (zb Y n 2 = 1) = 0 := gB1_f (by omega)
  refine x_aload_0 K dX7_columnSum_0 ?_
  refine x_aload_0 K dX7_columnSum_1 ?_
  refine x_iload_1 K dX7_columnSum_2 ?_
  refine x_iload_2 K dX7_columnSum_3 ?_
  refine x_callV2 K (c7_isColumn Y h hY _ _ hs hc) mtX7_isColumn miX7_isColumn rc14 ⟨by decide, (by decide)⟩ lkRX7_77 ⟨by decide, by decide, by decide⟩ rfl (Nat.le_of_ble_eq_true rfl) dX7_columnSum_4 ?_
  refine x_if_ne (tgt := 14) K (by omega) dX7_columnSum_7 (by decide) (fun h7 => ?_) (fun h7 => absurd h7 (by omega))
  refine x_aload_0 K dX7_columnSum_14 ?_
  refine x_iload_1 K dX7_columnSum_15 ?_
  refine x_callV1 K (c7_isSealed Y h hY n hn) mtX7_isSealed miX7_isSealed rc14 ⟨by decide, (by decide)⟩ lkRX7_111 ⟨by decide, by decide, by decide⟩ rfl (Nat.le_of_ble_eq_true rfl) dX7_columnSum_16 ?_
  refine x_if_ne (tgt := 26) K (by omega) dX7_columnSum_19 (by decide) (fun h19 => absurd h19 (by omega)) (fun h19 => ?_)
  refine x_iconst K dX7_columnSum_22 ?_
  refine x_goto (tgt := 27) K dX7_columnSum_23 (by decide) ?_
  refine x_putI K gpRX7_39 ⟨by decide, (by decide)⟩ dX7_columnSum_27 ?_
  refine x_aload_0 K dX7_columnSum_30 ?_
  refine x_getI K gfRX7_39 ⟨by decide, (by decide)⟩ dX7_columnSum_31 ?_
  refine gWX.top (b := 2) rfl ?_
  refine x_if_le (tgt := 41) K (by omega) dX7_columnSum_34 (by decide) (fun h34 => absurd h34 (by omega)) (fun h34 => ?_)
  refine x_iconst K dX7_columnSum_37 ?_
  refine x_goto (tgt := 48) K dX7_columnSum_38 (by decide) ?_
  exact x_iret K hE rfl dX7_columnSum_48 (by decide) (by decide) rfl rfl
theorem c7_columnSum {E : gE} {σ : gS} (Y : Nat → Int) (h : gMs σ Y) (hY : gY Y) (s c : Int) (hs : -2147483648 ≤ s ∧ s < 2147483648) (hc : -2147483648 ≤ c ∧ c < 2147483648) (hh : gCol Y s c) (hz2 : zb Y s.toNat 2 = 1) : gCt E mX7_columnSum 12 0 [rf 14 0, iv s, iv c] σ (.inl (some (iv (zb Y s.toNat (6 + (6 + c.toNat)))))) (gFl σ 0) := by
  refine gCt_of (L := [some (rf 14 0), some (iv s), some (iv c)]) (by decide +kernel) rfl rfl (Nat.le_of_ble_eq_true rfl) (fun X K hE => ?_)
  have t1 : gB1 (gCol Y s c) = 1 := gB1_t hh
  obtain ⟨n, rfl⟩ : ∃ n : Nat, s = (n : Int) := ⟨s.toNat, by have := hh.1; omega⟩
  obtain ⟨c, rfl⟩ : ∃ c2 : Nat, c = (c2 : Int) := ⟨c.toNat, by have := hh.2; omega⟩
  have hn : (n : Int) < Y 0 := hh.1.2
  have hY0 := hY.1
  have hz := hY.2 n hn
  have ⟨q0, q1, q2, q3, q4, q5, q6, q7, q8⟩ := hz
  have hc9 : (c : Int) < zb Y n 1 := hh.2.2
  have hc8 : c < 8 := by omega
  have t2 : gB1 (zb Y n 2 = 1) = 1 := gB1_t hz2
  refine x_aload_0 K dX7_columnSum_0 ?_
  refine x_aload_0 K dX7_columnSum_1 ?_
  refine x_iload_1 K dX7_columnSum_2 ?_
  refine x_iload_2 K dX7_columnSum_3 ?_
  refine x_callV2 K (c7_isColumn Y h hY _ _ hs hc) mtX7_isColumn miX7_isColumn rc14 ⟨by decide, (by decide)⟩ lkRX7_77 ⟨by decide, by decide, by decide⟩ rfl (Nat.le_of_ble_eq_true rfl) dX7_columnSum_4 ?_
  refine x_if_ne (tgt := 14) K (by omega) dX7_columnSum_7 (by decide) (fun h7 => ?_) (fun h7 => absurd h7 (by omega))
  refine x_aload_0 K dX7_columnSum_14 ?_
  refine x_iload_1 K dX7_columnSum_15 ?_
  refine x_callV1 K (c7_isSealed Y h hY n hn) mtX7_isSealed miX7_isSealed rc14 ⟨by decide, (by decide)⟩ lkRX7_111 ⟨by decide, by decide, by decide⟩ rfl (Nat.le_of_ble_eq_true rfl) dX7_columnSum_16 ?_
  refine x_if_ne (tgt := 26) K (by omega) dX7_columnSum_19 (by decide) (fun h19 => ?_) (fun h19 => absurd h19 (by omega))
  refine x_iconst K dX7_columnSum_26 ?_
  refine x_putI K gpRX7_39 ⟨by decide, (by decide)⟩ dX7_columnSum_27 ?_
  refine x_aload_0 K dX7_columnSum_30 ?_
  refine x_getI K gfRX7_39 ⟨by decide, (by decide)⟩ dX7_columnSum_31 ?_
  refine gWX.top (b := 0) rfl ?_
  refine x_if_le (tgt := 41) K (by omega) dX7_columnSum_34 (by decide) (fun h34 => ?_) (fun h34 => absurd h34 (by omega))
  refine x_aload_0 K dX7_columnSum_41 ?_
  refine x_iload_1 K dX7_columnSum_42 ?_
  refine x_iconst K dX7_columnSum_43 ?_
  refine x_iload_2 K dX7_columnSum_44 ?_
  refine x_callV3 K (c7_told_c Y (gMs_u h 7 0) hY n hn c hc8) mtX7_told miX7_told rc14 ⟨by decide, (by decide)⟩ lkRX7_105 ⟨by decide, by decide, by decide⟩ rfl (Nat.le_of_ble_eq_true rfl) dX7_columnSum_45 ?_
  exact x_iret K hE rfl dX7_columnSum_48 (by decide) (by decide) rfl rfl
theorem c7_rowFault_1 {E : gE} {σ : gS} (Y : Nat → Int) (h : gMs σ Y) (hY : gY Y) (s r : Int) (hs : -2147483648 ≤ s ∧ s < 2147483648) (hr : -2147483648 ≤ r ∧ r < 2147483648) (hh : ¬ gRow Y s r) : gCt E mX7_rowFault 12 0 [rf 14 0, iv s, iv r] σ (.inl (some (iv (0)))) (gFl σ 1) := by
  refine gCt_of (L := [some (rf 14 0), some (iv s), some (iv r)]) (by decide +kernel) rfl rfl (Nat.le_of_ble_eq_true rfl) (fun X K hE => ?_)
  have hY0 := hY.1
  have t1 : gB1 (gRow Y s r) = 0 := gB1_f hh
  refine x_aload_0 K dX7_rowFault_0 ?_
  refine x_aload_0 K dX7_rowFault_1 ?_
  refine x_iload_1 K dX7_rowFault_2 ?_
  refine x_iload_2 K dX7_rowFault_3 ?_
  refine x_callV2 K (c7_isRow Y h hY _ _ hs hr) mtX7_isRow miX7_isRow rc14 ⟨by decide, (by decide)⟩ lkRX7_73 ⟨by decide, by decide, by decide⟩ rfl (Nat.le_of_ble_eq_true rfl) dX7_rowFault_4 ?_
  refine x_if_ne (tgt := 14) K (by omega) dX7_rowFault_7 (by decide) (fun h7 => absurd h7 (by omega)) (fun h7 => ?_)
  refine x_iconst K dX7_rowFault_10 ?_
  refine x_goto (tgt := 27) K dX7_rowFault_11 (by decide) ?_
  refine x_putI K gpRX7_39 ⟨by decide, (by decide)⟩ dX7_rowFault_27 ?_
  refine x_aload_0 K dX7_rowFault_30 ?_
  refine x_getI K gfRX7_39 ⟨by decide, (by decide)⟩ dX7_rowFault_31 ?_
  refine gWX.top (b := 1) rfl ?_
  refine x_if_le (tgt := 41) K (by omega) dX7_rowFault_34 (by decide) (fun h34 => absurd h34 (by omega)) (fun h34 => ?_)
  refine x_iconst K dX7_rowFault_37 ?_
  refine x_goto (tgt := 48) K dX7_rowFault_38 (by decide) ?_
  exact x_iret K hE rfl dX7_rowFault_48 (by decide) (by decide) rfl rfl
theorem c7_rowFault_2 {E : gE} {σ : gS} (Y : Nat → Int) (h : gMs σ Y) (hY : gY Y) (s r : Int) (hs : -2147483648 ≤ s ∧ s < 2147483648) (hr : -2147483648 ≤ r ∧ r < 2147483648) (hh : gRow Y s r) (hz2 : zb Y s.toNat 2 = 0) : gCt E mX7_rowFault 12 0 [rf 14 0, iv s, iv r] σ (.inl (some (iv (0)))) (gFl σ 2) := by
  refine gCt_of (L := [some (rf 14 0), some (iv s), some (iv r)]) (by decide +kernel) rfl rfl (Nat.le_of_ble_eq_true rfl) (fun X K hE => ?_)
  have t1 : gB1 (gRow Y s r) = 1 := gB1_t hh
  obtain ⟨n, rfl⟩ : ∃ n : Nat, s = (n : Int) := ⟨s.toNat, by have := hh.1; omega⟩
  obtain ⟨r, rfl⟩ : ∃ r2 : Nat, r = (r2 : Int) := ⟨r.toNat, by have := hh.2; omega⟩
  have hn : (n : Int) < Y 0 := hh.1.2
  have hY0 := hY.1
  have hz := hY.2 n hn
  have ⟨q0, q1, q2, q3, q4, q5, q6, q7, q8⟩ := hz
  have hr9 : (r : Int) < zb Y n 0 := hh.2.2
  have hr6 : r < 6 := by omega
  have hz3 : zb Y n 2 = 0 := hz2
  have t2 : gB1 (zb Y n 2 = 1) = 0 := gB1_f (by omega)
  refine x_aload_0 K dX7_rowFault_0 ?_
  refine x_aload_0 K dX7_rowFault_1 ?_
  refine x_iload_1 K dX7_rowFault_2 ?_
  refine x_iload_2 K dX7_rowFault_3 ?_
  refine x_callV2 K (c7_isRow Y h hY _ _ hs hr) mtX7_isRow miX7_isRow rc14 ⟨by decide, (by decide)⟩ lkRX7_73 ⟨by decide, by decide, by decide⟩ rfl (Nat.le_of_ble_eq_true rfl) dX7_rowFault_4 ?_
  refine x_if_ne (tgt := 14) K (by omega) dX7_rowFault_7 (by decide) (fun h7 => ?_) (fun h7 => absurd h7 (by omega))
  refine x_aload_0 K dX7_rowFault_14 ?_
  refine x_iload_1 K dX7_rowFault_15 ?_
  refine x_callV1 K (c7_isSealed Y h hY n hn) mtX7_isSealed miX7_isSealed rc14 ⟨by decide, (by decide)⟩ lkRX7_111 ⟨by decide, by decide, by decide⟩ rfl (Nat.le_of_ble_eq_true rfl) dX7_rowFault_16 ?_
  refine x_if_ne (tgt := 26) K (by omega) dX7_rowFault_19 (by decide) (fun h19 => absurd h19 (by omega)) (fun h19 => ?_)
  refine x_iconst K dX7_rowFault_22 ?_
  refine x_goto (tgt := 27) K dX7_rowFault_23 (by decide) ?_
  refine x_putI K gpRX7_39 ⟨by decide, (by decide)⟩ dX7_rowFault_27 ?_
  refine x_aload_0 K dX7_rowFault_30 ?_
  refine x_getI K gfRX7_39 ⟨by decide, (by decide)⟩ dX7_rowFault_31 ?_
  refine gWX.top (b := 2) rfl ?_
  refine x_if_le (tgt := 41) K (by omega) dX7_rowFault_34 (by decide) (fun h34 => absurd h34 (by omega)) (fun h34 => ?_)
  refine x_iconst K dX7_rowFault_37 ?_
  refine x_goto (tgt := 48) K dX7_rowFault_38 (by decide) ?_
  exact x_iret K hE rfl dX7_rowFault_48 (by decide) (by decide) rfl rfl
theorem c7_rowFault {E : gE} {σ : gS} (Y : Nat → Int) (h : gMs σ Y) (hY : gY Y) (s r : Int) (hs : -2147483648 ≤ s ∧ s < 2147483648) (hr : -2147483648 ≤ r ∧ r < 2147483648) (hh : gRow Y s r) (hz2 : zb Y s.toNat 2 = 1) : gCt E mX7_rowFault 12 0 [rf 14 0, iv s, iv r] σ (.inl (some (iv (s_f (zb Y s.toNat) r.toNat)))) (gFl σ 0) := by
  refine gCt_of (L := [some (rf 14 0), some (iv s), some (iv r)]) (by decide +kernel) rfl rfl (Nat.le_of_ble_eq_true rfl) (fun X K hE => ?_)
  have t1 : gB1 (gRow Y s r) = 1 := gB1_t hh
  obtain ⟨n, rfl⟩ : ∃ n : Nat, s = (n : Int) := ⟨s.toNat, by have := hh.1; omega⟩
  obtain ⟨r, rfl⟩ : ∃ r2 : Nat, r = (r2 : Int) := ⟨r.toNat, by have := hh.2; omega⟩
  have hn : (n : Int) < Y 0 := hh.1.2
  have hY0 := hY.1
  have hz := hY.2 n hn
  have ⟨q0, q1, q2, q3, q4, q5, q6, q7, q8⟩ := hz
  have hr9 : (r : Int) < zb Y n 0 := hh.2.2
  have hr6 : r < 6 := by omega
  have t2 : gB1 (zb Y n 2 = 1) = 1 := gB1_t hz2
  refine x_aload_0 K dX7_rowFault_0 ?_
  refine x_aload_0 K dX7_rowFault_1 ?_
  refine x_iload_1 K dX7_rowFault_2 ?_
  refine x_iload_2 K dX7_rowFault_3 ?_
  refine x_callV2 K (c7_isRow Y h hY _ _ hs hr) mtX7_isRow miX7_isRow rc14 ⟨by decide, (by decide)⟩ lkRX7_73 ⟨by decide, by decide, by decide⟩ rfl (Nat.le_of_ble_eq_true rfl) dX7_rowFault_4 ?_
  refine x_if_ne (tgt := 14) K (by omega) dX7_rowFault_7 (by decide) (fun h7 => ?_) (fun h7 => absurd h7 (by omega))
  refine x_aload_0 K dX7_rowFault_14 ?_
  refine x_iload_1 K dX7_rowFault_15 ?_
  refine x_callV1 K (c7_isSealed Y h hY n hn) mtX7_isSealed miX7_isSealed rc14 ⟨by decide, (by decide)⟩ lkRX7_111 ⟨by decide, by decide, by decide⟩ rfl (Nat.le_of_ble_eq_true rfl) dX7_rowFault_16 ?_
  refine x_if_ne (tgt := 26) K (by omega) dX7_rowFault_19 (by decide) (fun h19 => ?_) (fun h19 => absurd h19 (by omega))
  refine x_iconst K dX7_rowFault_26 ?_
  refine x_putI K gpRX7_39 ⟨by decide, (by decide)⟩ dX7_rowFault_27 ?_
  refine x_aload_0 K dX7_rowFault_30 ?_
  refine x_getI K gfRX7_39 ⟨by decide, (by decide)⟩ dX7_rowFault_31 ?_
  refine gWX.top (b := 0) rfl ?_
  refine x_if_le (tgt := 41) K (by omega) dX7_rowFault_34 (by decide) (fun h34 => ?_) (fun h34 => absurd h34 (by omega))
  refine x_aload_0 K dX7_rowFault_41 ?_
  refine x_iload_1 K dX7_rowFault_42 ?_
  refine x_iconst K dX7_rowFault_43 ?_
  refine x_iload_2 K dX7_rowFault_44 ?_
  refine x_callV3 K (c7_faultOf_r Y (gMs_u h 7 0) hY n hn r hr6) mtX7_faultOf miX7_faultOf rc14 ⟨by decide, (by decide)⟩ lkRX7_114 ⟨by decide, by decide, by decide⟩ rfl (Nat.le_of_ble_eq_true rfl) dX7_rowFault_45 ?_
  exact x_iret K hE rfl dX7_rowFault_48 (by decide) (by decide) rfl rfl
theorem c7_columnFault_1 {E : gE} {σ : gS} (Y : Nat → Int) (h : gMs σ Y) (hY : gY Y) (s c : Int) (hs : -2147483648 ≤ s ∧ s < 2147483648) (hc : -2147483648 ≤ c ∧ c < 2147483648) (hh : ¬ gCol Y s c) : gCt E mX7_columnFault 12 0 [rf 14 0, iv s, iv c] σ (.inl (some (iv (0)))) (gFl σ 1) := by
  refine gCt_of (L := [some (rf 14 0), some (iv s), some (iv c)]) (by decide +kernel) rfl rfl (Nat.le_of_ble_eq_true rfl) (fun X K hE => ?_)
  have hY0 := hY.1
  have t1 : gB1 (gCol Y s c) = 0 := gB1_f hh
  refine x_aload_0 K dX7_columnFault_0 ?_
  refine x_aload_0 K dX7_columnFault_1 ?_
  refine x_iload_1 K dX7_columnFault_2 ?_
  refine x_iload_2 K dX7_columnFault_3 ?_
  refine x_callV2 K (c7_isColumn Y h hY _ _ hs hc) mtX7_isColumn miX7_isColumn rc14 ⟨by decide, (by decide)⟩ lkRX7_77 ⟨by decide, by decide, by decide⟩ rfl (Nat.le_of_ble_eq_true rfl) dX7_columnFault_4 ?_
  refine x_if_ne (tgt := 14) K (by omega) dX7_columnFault_7 (by decide) (fun h7 => absurd h7 (by omega)) (fun h7 => ?_)
  refine x_iconst K dX7_columnFault_10 ?_
  refine x_goto (tgt := 27) K dX7_columnFault_11 (by decide) ?_
  refine x_putI K gpRX7_39 ⟨by decide, (by decide)⟩ dX7_columnFault_27 ?_
  refine x_aload_0 K dX7_columnFault_30 ?_
  refine x_getI K gfRX7_39 ⟨by decide, (by decide)⟩ dX7_columnFault_31 ?_
  refine gWX.top (b := 1) rfl ?_
  refine x_if_le (tgt := 41) K (by omega) dX7_columnFault_34 (by decide) (fun h34 => absurd h34 (by omega)) (fun h34 => ?_)
  refine x_iconst K dX7_columnFault_37 ?_
  refine x_goto (tgt := 48) K dX7_columnFault_38 (by decide) ?_
  exact x_iret K hE rfl dX7_columnFault_48 (by decide) (by decide) rfl rfl
theorem c7_columnFault_2 {E : gE} {σ : gS} (Y : Nat → Int) (h : gMs σ Y) (hY : gY Y) (s c : Int) (hs : -2147483648 ≤ s ∧ s < 2147483648) (hc : -2147483648 ≤ c ∧ c < 2147483648) (hh : gCol Y s c) (hz2 : zb Y s.toNat 2 = 0) : gCt E mX7_columnFault 12 0 [rf 14 0, iv s, iv c] σ (.inl (some (iv (0)))) (gFl σ 2) := by
  refine gCt_of (L := [some (rf 14 0), some (iv s), some (iv c)]) (by decide +kernel) rfl rfl (Nat.le_of_ble_eq_true rfl) (fun X K hE => ?_)
  have t1 : gB1 (gCol Y s c) = 1 := gB1_t hh
  obtain ⟨n, rfl⟩ : ∃ n : Nat, s = (n : Int) := ⟨s.toNat, by have := hh.1; omega⟩
  obtain ⟨c, rfl⟩ : ∃ c2 : Nat, c = (c2 : Int) := ⟨c.toNat, by have := hh.2; omega⟩
  have hn : (n : Int) < Y 0 := hh.1.2
  have hY0 := hY.1
  have hz := hY.2 n hn
  have ⟨q0, q1, q2, q3, q4, q5, q6, q7, q8⟩ := hz
  have hc9 : (c : Int) < zb Y n 1 := hh.2.2
  have hc8 : c < 8 := by omega
  have hz3 : zb Y n 2 = 0 := hz2
  have t2 : gB1 (zb Y n 2 = 1) = 0 := gB1_f (by omega)
  refine x_aload_0 K dX7_columnFault_0 ?_
  refine x_aload_0 K dX7_columnFault_1 ?_
  refine x_iload_1 K dX7_columnFault_2 ?_
  refine x_iload_2 K dX7_columnFault_3 ?_
  refine x_callV2 K (c7_isColumn Y h hY _ _ hs hc) mtX7_isColumn miX7_isColumn rc14 ⟨by decide, (by decide)⟩ lkRX7_77 ⟨by decide, by decide, by decide⟩ rfl (Nat.le_of_ble_eq_true rfl) dX7_columnFault_4 ?_
  refine x_if_ne (tgt := 14) K (by omega) dX7_columnFault_7 (by decide) (fun h7 => ?_) (fun h7 => absurd h7 (by omega))
  refine x_aload_0 K dX7_columnFault_14 ?_
  refine x_iload_1 K dX7_columnFault_15 ?_
  refine x_callV1 K (c7_isSealed Y h hY n hn) mtX7_isSealed miX7_isSealed rc14 ⟨by decide, (by decide)⟩ lkRX7_111 ⟨by decide, by decide, by decide⟩ rfl (Nat.le_of_ble_eq_true rfl) dX7_columnFault_16 ?_
  refine x_if_ne (tgt := 26) K (by omega) dX7_columnFault_19 (by decide) (fun h19 => absurd h19 (by omega)) (fun h19 => ?_)
  refine x_iconst K dX7_columnFault_22 ?_
  refine x_goto (tgt := 27) K dX7_columnFault_23 (by decide) ?_
  refine x_putI K gpRX7_39 ⟨by decide, (by decide)⟩ dX7_columnFault_27 ?_
  refine x_aload_0 K dX7_columnFault_30 ?_
  refine x_getI K gfRX7_39 ⟨by decide, (by decide)⟩ dX7_columnFault_31 ?_
  refine gWX.top (b := 2) rfl ?_
  refine x_if_le (tgt := 41) K (by omega) dX7_columnFault_34 (by decide) (fun h34 => absurd h34 (by omega)) (fun h34 => ?_)
  refine x_iconst K dX7_columnFault_37 ?_
  refine x_goto (tgt := 48) K dX7_columnFault_38 (by decide) ?_
  exact x_iret K hE rfl dX7_columnFault_48 (by decide) (by decide) rfl rfl
theorem c7_columnFault {E : gE} {σ : gS} (Y : Nat → Int) (h : gMs σ Y) (hY : gY Y) (s c : Int) (hs : -2147483648 ≤ s ∧ s < 2147483648) (hc : -2147483648 ≤ c ∧ c < 2147483648) (hh : gCol Y s c) (hz2 : zb Y s.toNat 2 = 1) : gCt E mX7_columnFault 12 0 [rf 14 0, iv s, iv c] σ (.inl (some (iv (s_f (zb Y s.toNat) (6 + c.toNat))))) (gFl σ 0) := by
  refine gCt_of (L := [some (rf 14 0), some (iv s), some (iv c)]) (by decide +kernel) rfl rfl (Nat.le_of_ble_eq_true rfl) (fun X K hE => ?_)
  have t1 : gB1 (gCol Y s c) = 1 := gB1_t hh
  obtain ⟨n, rfl⟩ : ∃ n : Nat, s = (n : Int) := ⟨s.toNat, by have := hh.1; omega⟩
  obtain ⟨c, rfl⟩ : ∃ c2 : Nat, c = (c2 : Int) := ⟨c.toNat, by have := hh.2; omega⟩
  have hn : (n : Int) < Y 0 := hh.1.2
  have hY0 := hY.1
  have hz := hY.2 n hn
  have ⟨q0, q1, q2, q3, q4, q5, q6, q7, q8⟩ := hz
  have hc9 : (c : Int) < zb Y n 1 := hh.2.2
  have hc8 : c < 8 := by omega
  have t2 : gB1 (zb Y n 2 = 1) = 1 := gB1_t hz2
  refine x_aload_0 K dX7_columnFault_0 ?_
  refine x_aload_0 K dX7_columnFault_1 ?_
  refine x_iload_1 K dX7_columnFault_2 ?_
  refine x_iload_2 K dX7_columnFault_3 ?_
  refine x_callV2 K (c7_isColumn Y h hY _ _ hs hc) mtX7_isColumn miX7_isColumn rc14 ⟨by decide, (by decide)⟩ lkRX7_77 ⟨by decide, by decide, by decide⟩ rfl (Nat.le_of_ble_eq_true rfl) dX7_columnFault_4 ?_
  refine x_if_ne (tgt := 14) K (by omega) dX7_columnFault_7 (by decide) (fun h7 => ?_) (fun h7 => absurd h7 (by omega))
  refine x_aload_0 K dX7_columnFault_14 ?_
  refine x_iload_1 K dX7_columnFault_15 ?_
  refine x_callV1 K (c7_isSealed Y h hY n hn) mtX7_isSealed miX7_isSealed rc14 ⟨by decide, (by decide)⟩ lkRX7_111 ⟨by decide, by decide, by decide⟩ rfl (Nat.le_of_ble_eq_true rfl) dX7_columnFault_16 ?_
  refine x_if_ne (tgt := 26) K (by omega) dX7_columnFault_19 (by decide) (fun h19 => ?_) (fun h19 => absurd h19 (by omega))
  refine x_iconst K dX7_columnFault_26 ?_
  refine x_putI K gpRX7_39 ⟨by decide, (by decide)⟩ dX7_columnFault_27 ?_
  refine x_aload_0 K dX7_columnFault_30 ?_
  refine x_getI K gfRX7_39 ⟨by decide, (by decide)⟩ dX7_columnFault_31 ?_
  refine gWX.top (b := 0) rfl ?_
  refine x_if_le (tgt := 41) K (by omega) dX7_columnFault_34 (by decide) (fun h34 => ?_) (fun h34 => absurd h34 (by omega))
  refine x_aload_0 K dX7_columnFault_41 ?_
  refine x_iload_1 K dX7_columnFault_42 ?_
  refine x_iconst K dX7_columnFault_43 ?_
  refine x_iload_2 K dX7_columnFault_44 ?_
  refine x_callV3 K (c7_faultOf_c Y (gMs_u h 7 0) hY n hn c hc8) mtX7_faultOf miX7_faultOf rc14 ⟨by decide, (by decide)⟩ lkRX7_114 ⟨by decide, by decide, by decide⟩ rfl (Nat.le_of_ble_eq_true rfl) dX7_columnFault_45 ?_
  exact x_iret K hE rfl dX7_columnFault_48 (by decide) (by decide) rfl rfl
theorem c7_wrongRows_1 {E : gE} {σ : gS} (Y : Nat → Int) (h : gMs σ Y) (hY : gY Y) (s : Int) (hs : -2147483648 ≤ s ∧ s < 2147483648) (hh : ¬ gHit Y s) : gCt E mX7_wrongRows 12 0 [rf 14 0, iv s] σ (.inl (some (iv (0)))) (gFl σ 1) := by
  refine gCt_of (L := [some (rf 14 0), some (iv s)]) (by decide +kernel) rfl rfl (Nat.le_of_ble_eq_true rfl) (fun X K hE => ?_)
  have hY0 := hY.1
  have t1 : gB1 (gHit Y s) = 0 := gB1_f hh
  refine x_aload_0 K dX7_wrongRows_0 ?_
  refine x_aload_0 K dX7_wrongRows_1 ?_
  refine x_iload_1 K dX7_wrongRows_2 ?_
  refine x_callV1 K (c7_isScroll Y h hY _ hs) mtX7_isScroll miX7_isScroll rc14 ⟨by decide, (by decide)⟩ lkRX7_65 ⟨by decide, by decide, by decide⟩ rfl (Nat.le_of_ble_eq_true rfl) dX7_wrongRows_3 ?_
  refine x_if_ne (tgt := 13) K (by omega) dX7_wrongRows_6 (by decide) (fun h6 => absurd h6 (by omega)) (fun h6 => ?_)
  refine x_iconst K dX7_wrongRows_9 ?_
  refine x_goto (tgt := 26) K dX7_wrongRows_10 (by decide) ?_
  refine x_putI K gpRX7_39 ⟨by decide, (by decide)⟩ dX7_wrongRows_26 ?_
  refine x_aload_0 K dX7_wrongRows_29 ?_
  refine x_getI K gfRX7_39 ⟨by decide, (by decide)⟩ dX7_wrongRows_30 ?_
  refine gWX.top (b := 1) rfl ?_
  refine x_if_le (tgt := 40) K (by omega) dX7_wrongRows_33 (by decide) (fun h33 => absurd h33 (by omega)) (fun h33 => ?_)
  refine x_iconst K dX7_wrongRows_36 ?_
  refine x_goto (tgt := 46) K dX7_wrongRows_37 (by decide) ?_
  exact x_iret K hE rfl dX7_wrongRows_46 (by decide) (by decide) rfl rfl
theorem c7_wrongRows_2 {E : gE} {σ : gS} (Y : Nat → Int) (h : gMs σ Y) (hY : gY Y) (s : Int) (hs : -2147483648 ≤ s ∧ s < 2147483648) (hh : gHit Y s) (hz2 : zb Y s.toNat 2 = 0) : gCt E mX7_wrongRows 12 0 [rf 14 0, iv s] σ (.inl (some (iv (0)))) (gFl σ 2) := by
  refine gCt_of (L := [some (rf 14 0), some (iv s)]) (by decide +kernel) rfl rfl (Nat.le_of_ble_eq_true rfl) (fun X K hE => ?_)
  have t1 : gB1 (gHit Y s) = 1 := gB1_t hh
  obtain ⟨n, rfl⟩ : ∃ n : Nat, s = (n : Int) := ⟨s.toNat, by omega⟩
  have hn : (n : Int) < Y 0 := hh.2
  have hY0 := hY.1
  have hz := hY.2 n hn
  have ⟨q0, q1, q2, q3, q4, q5, q6, q7, q8⟩ := hz
  have hz3 : zb Y n 2 = 0 := hz2
  have t2 : gB1 (zb Y n 2 = 1) = 0 := gB1_f (by omega)
  refine x_aload_0 K dX7_wrongRows_0 ?_
  refine x_aload_0 K dX7_wrongRows_1 ?_
  refine x_iload_1 K dX7_wrongRows_2 ?_
  refine x_callV1 K (c7_isScroll Y h hY _ hs) mtX7_isScroll miX7_isScroll rc14 ⟨by decide, (by decide)⟩ lkRX7_65 ⟨by decide, by decide, by decide⟩ rfl (Nat.le_of_ble_eq_true rfl) dX7_wrongRows_3 ?_
  refine x_if_ne (tgt := 13) K (by omega) dX7_wrongRows_6 (by decide) (fun h6 => ?_) (fun h6 => absurd h6 (by omega))
  refine x_aload_0 K dX7_wrongRows_13 ?_
  refine x_iload_1 K dX7_wrongRows_14 ?_
  refine x_callV1 K (c7_isSealed Y h hY n hn) mtX7_isSealed miX7_isSealed rc14 ⟨by decide, (by decide)⟩ lkRX7_111 ⟨by decide, by decide, by decide⟩ rfl (Nat.le_of_ble_eq_true rfl) dX7_wrongRows_15 ?_
  refine x_if_ne (tgt := 25) K (by omega) dX7_wrongRows_18 (by decide) (fun h18 => absurd h18 (by omega)) (fun h18 => ?_)
  refine x_iconst K dX7_wrongRows_21 ?_
  refine x_goto (tgt := 26) K dX7_wrongRows_22 (by decide) ?_
  refine x_putI K gpRX7_39 ⟨by decide, (by decide)⟩ dX7_wrongRows_26 ?_
  refine x_aload_0 K dX7_wrongRows_29 ?_
  refine x_getI K gfRX7_39 ⟨by decide, (by decide)⟩ dX7_wrongRows_30 ?_
  refine gWX.top (b := 2) rfl ?_
  refine x_if_le (tgt := 40) K (by omega) dX7_wrongRows_33 (by decide) (fun h33 => absurd h33 (by omega)) (fun h33 => ?_)
  refine x_iconst K dX7_wrongRows_36 ?_
  refine x_goto (tgt := 46) K dX7_wrongRows_37 (by decide) ?_
  exact x_iret K hE rfl dX7_wrongRows_46 (by decide) (by decide) rfl rfl
theorem c7_wrongRows {E : gE} {σ : gS} (Y : Nat → Int) (h : gMs σ Y) (hY : gY Y) (s : Int) (hs : -2147483648 ≤ s ∧ s < 2147483648) (hh : gHit Y s) (hz2 : zb Y s.toNat 2 = 1) : gCt E mX7_wrongRows 12 0 [rf 14 0, iv s] σ (.inl (some (iv (s_wr (zb Y s.toNat))))) (gFl σ 0) := by
  refine gCt_of (L := [some (rf 14 0), some (iv s)]) (by decide +kernel) rfl rfl (Nat.le_of_ble_eq_true rfl) (fun X K hE => ?_)
  have t1 : gB1 (gHit Y s) = 1 := gB1_t hh
  obtain ⟨n, rfl⟩ : ∃ n : Nat, s = (n : Int) := ⟨s.toNat, by omega⟩
  have hn : (n : Int) < Y 0 := hh.2
  have hY0 := hY.1
  have hz := hY.2 n hn
  have ⟨q0, q1, q2, q3, q4, q5, q6, q7, q8⟩ := hz
  have t2 : gB1 (zb Y n 2 = 1) = 1 := gB1_t hz2
  refine x_aload_0 K dX7_wrongRows_0 ?_
  refine x_aload_0 K dX7_wrongRows_1 ?_
  refine x_iload_1 K dX7_wrongRows_2 ?_
  refine x_callV1 K (c7_isScroll Y h hY _ hs) mtX7_isScroll miX7_isScroll rc14 ⟨by decide, (by decide)⟩ lkRX7_65 ⟨by decide, by decide, by decide⟩ rfl (Nat.le_of_ble_eq_true rfl) dX7_wrongRows_3 ?_
  refine x_if_ne (tgt := 13) K (by omega) dX7_wrongRows_6 (by decide) (fun h6 => ?_) (fun h6 => absurd h6 (by omega))
  refine x_aload_0 K dX7_wrongRows_13 ?_
  refine x_iload_1 K dX7_wrongRows_14 ?_
  refine x_callV1 K (c7_isSealed Y h hY n hn) mtX7_isSealed miX7_isSealed rc14 ⟨by decide, (by decide)⟩ lkRX7_111 ⟨by decide, by decide, by decide⟩ rfl (Nat.le_of_ble_eq_true rfl) dX7_wrongRows_15 ?_
  refine x_if_ne (tgt := 25) K (by omega) dX7_wrongRows_18 (by decide) (fun h18 => ?_) (fun h18 => absurd h18 (by omega))
  refine x_iconst K dX7_wrongRows_25 ?_
  refine x_putI K gpRX7_39 ⟨by decide, (by decide)⟩ dX7_wrongRows_26 ?_
  refine x_aload_0 K dX7_wrongRows_29 ?_
  refine x_getI K gfRX7_39 ⟨by decide, (by decide)⟩ dX7_wrongRows_30 ?_
  refine gWX.top (b := 0) rfl ?_
  refine x_if_le (tgt := 40) K (by omega) dX7_wrongRows_33 (by decide) (fun h33 => ?_) (fun h33 => absurd h33 (by omega))
  refine x_aload_0 K dX7_wrongRows_40 ?_
  refine x_iload_1 K dX7_wrongRows_41 ?_
  refine x_iconst K dX7_wrongRows_42 ?_
  refine x_callV2 K (c7_wrongMany_r Y (gMs_u h 7 0) hY n hn) mtX7_wrongMany miX7_wrongMany rc14 ⟨by decide, (by decide)⟩ lkRX7_160 ⟨by decide, by decide, by decide⟩ rfl (Nat.le_of_ble_eq_true rfl) dX7_wrongRows_43 ?_
  exact x_iret K hE rfl dX7_wrongRows_46 (by decide) (by decide) rfl rfl
theorem c7_wrongColumns_1 {E : gE} {σ : gS} (Y : Nat → Int) (h : gMs σ Y) (hY : gY Y) (s : Int) (hs : -2147483648 ≤ s ∧ s < 2147483648) (hh : ¬ gHit Y s) : gCt E mX7_wrongColumns 12 0 [rf 14 0, iv s] σ (.inl (some (iv (0)))) (gFl σ 1) := by
  refine gCt_of (L := [some (rf 14 0), some (iv s)]) (by decide +kernel) rfl rfl (Nat.le_of_ble_eq_true rfl) (fun X K hE => ?_)
  have hY0 := hY.1
  have t1 : gB1 (gHit Y s) = 0 := gB1_f hh
  refine x_aload_0 K dX7_wrongColumns_0 ?_
  refine x_aload_0 K dX7_wrongColumns_1 ?_
  refine x_iload_1 K dX7_wrongColumns_2 ?_
  refine x_callV1 K (c7_isScroll Y h hY _ hs) mtX7_isScroll miX7_isScroll rc14 ⟨by decide, (by decide)⟩ lkRX7_65 ⟨by decide, by decide, by decide⟩ rfl (Nat.le_of_ble_eq_true rfl) dX7_wrongColumns_3 ?_
  refine x_if_ne (tgt := 13) K (by omega) dX7_wrongColumns_6 (by decide) (fun h6 => absurd h6 (by omega)) (fun h6 => ?_)
  refine x_iconst K dX7_wrongColumns_9 ?_
  refine x_goto (tgt := 26) K dX7_wrongColumns_10 (by decide) ?_
  refine x_putI K gpRX7_39 ⟨by decide, (by decide)⟩ dX7_wrongColumns_26 ?_
  refine x_aload_0 K dX7_wrongColumns_29 ?_
  refine x_getI K gfRX7_39 ⟨by decide, (by decide)⟩ dX7_wrongColumns_30 ?_
  refine gWX.top (b := 1) rfl ?_
  refine x_if_le (tgt := 40) K (by omega) dX7_wrongColumns_33 (by decide) (fun h33 => absurd h33 (by omega)) (fun h33 => ?_)
  refine x_iconst K dX7_wrongColumns_36 ?_
  refine x_goto (tgt := 46) K dX7_wrongColumns_37 (by decide) ?_
  exact x_iret K hE rfl dX7_wrongColumns_46 (by decide) (by decide) rfl rfl
theorem c7_wrongColumns_2 {E : gE} {σ : gS} (Y : Nat → Int) (h : gMs σ Y) (hY : gY Y) (s : Int) (hs : -2147483648 ≤ s ∧ s < 2147483648) (hh : gHit Y s) (hz2 : zb Y s.toNat 2 = 0) : gCt E mX7_wrongColumns 12 0 [rf 14 0, iv s] σ (.inl (some (iv (0)))) (gFl σ 2) := by
  refine gCt_of (L := [some (rf 14 0), some (iv s)]) (by decide +kernel) rfl rfl (Nat.le_of_ble_eq_true rfl) (fun X K hE => ?_)
  have t1 : gB1 (gHit Y s) = 1 := gB1_t hh
  obtain ⟨n, rfl⟩ : ∃ n : Nat, s = (n : Int) := ⟨s.toNat, by omega⟩
  have hn : (n : Int) < Y 0 := hh.2
  have hY0 := hY.1
  have hz := hY.2 n hn
  have ⟨q0, q1, q2, q3, q4, q5, q6, q7, q8⟩ := hz
  have hz3 : zb Y n 2 = 0 := hz2
  have t2 : gB1 (zb Y n 2 = 1) = 0 := gB1_f (by omega)
  refine x_aload_0 K dX7_wrongColumns_0 ?_
  refine x_aload_0 K dX7_wrongColumns_1 ?_
  refine x_iload_1 K dX7_wrongColumns_2 ?_
  refine x_callV1 K (c7_isScroll Y h hY _ hs) mtX7_isScroll miX7_isScroll rc14 ⟨by decide, (by decide)⟩ lkRX7_65 ⟨by decide, by decide, by decide⟩ rfl (Nat.le_of_ble_eq_true rfl) dX7_wrongColumns_3 ?_
  refine x_if_ne (tgt := 13) K (by omega) dX7_wrongColumns_6 (by decide) (fun h6 => ?_) (fun h6 => absurd h6 (by omega))
  refine x_aload_0 K dX7_wrongColumns_13 ?_
  refine x_iload_1 K dX7_wrongColumns_14 ?_
  refine x_callV1 K (c7_isSealed Y h hY n hn) mtX7_isSealed miX7_isSealed rc14 ⟨by decide, (by decide)⟩ lkRX7_111 ⟨by decide, by decide, by decide⟩ rfl (Nat.le_of_ble_eq_true rfl) dX7_wrongColumns_15 ?_
  refine x_if_ne (tgt := 25) K (by omega) dX7_wrongColumns_18 (by decide) (fun h18 => absurd h18 (by omega)) (fun h18 => ?_)
  refine x_iconst K dX7_wrongColumns_21 ?_
  refine x_goto (tgt := 26) K dX7_wrongColumns_22 (by decide) ?_
  refine x_putI K gpRX7_39 ⟨by decide, (by decide)⟩ dX7_wrongColumns_26 ?_
  refine x_aload_0 K dX7_wrongColumns_29 ?_
  refine x_getI K gfRX7_39 ⟨by decide, (by decide)⟩ dX7_wrongColumns_30 ?_
  refine gWX.top (b := 2) rfl ?_
  refine x_if_le (tgt := 40) K (by omega) dX7_wrongColumns_33 (by decide) (fun h33 => absurd h33 (by omega)) (fun h33 => ?_)
  refine x_iconst K dX7_wrongColumns_36 ?_
  refine x_goto (tgt := 46) K dX7_wrongColumns_37 (by decide) ?_
  exact x_iret K hE rfl dX7_wrongColumns_46 (by decide) (by decide) rfl rfl
theorem c7_wrongColumns {E : gE} {σ : gS} (Y : Nat → Int) (h : gMs σ Y) (hY : gY Y) (s : Int) (hs : -2147483648 ≤ s ∧ s < 2147483648) (hh : gHit Y s) (hz2 : zb Y s.toNat 2 = 1) : gCt E mX7_wrongColumns 12 0 [rf 14 0, iv s] σ (.inl (some (iv (s_wc (zb Y s.toNat))))) (gFl σ 0) := by
  refine gCt_of (L := [some (rf 14 0), some (iv s)]) (by decide +kernel) rfl rfl (Nat.le_of_ble_eq_true rfl) (fun X K hE => ?_)
  have t1 : gB1 (gHit Y s) = 1 := gB1_t hh
  obtain ⟨n, rfl⟩ : ∃ n : Nat, s = (n : Int) := ⟨s.toNat, by omega⟩
  have hn : (n : Int) < Y 0 := hh.2
  have hY0 := hY.1
  have hz := hY.2 n hn
  have ⟨q0, q1, q2, q3, q4, q5, q6, q7, q8⟩ := hz
  have t2 : gB1 (zb Y n 2 = 1) = 1 := gB1_t hz2
  refine x_aload_0 K dX7_wrongColumns_0 ?_
  refine x_aload_0 K dX7_wrongColumns_1 ?_
  refine x_iload_1 K dX7_wrongColumns_2 ?_
  refine x_callV1 K (c7_isScroll Y h hY _ hs) mtX7_isScroll miX7_isScroll rc14 ⟨by decide, (by decide)⟩ lkRX7_65 ⟨by decide, by decide, by decide⟩ rfl (Nat.le_of_ble_eq_true rfl) dX7_wrongColumns_3 ?_
  refine x_if_ne (tgt := 13) K (by omega) dX7_wrongColumns_6 (by decide) (fun h6 => ?_) (fun h6 => absurd h6 (by omega))
  refine x_aload_0 K dX7_wrongColumns_13 ?_
  refine x_iload_1 K dX7_wrongColumns_14 ?_
  refine x_callV1 K (c7_isSealed Y h hY n hn) mtX7_isSealed miX7_isSealed rc14 ⟨by decide, (by decide)⟩ lkRX7_111 ⟨by decide, by decide, by decide⟩ rfl (Nat.le_of_ble_eq_true rfl) dX7_wrongColumns_15 ?_
  refine x_if_ne (tgt := 25) K (by omega) dX7_wrongColumns_18 (by decide) (fun h18 => ?_) (fun h18 => absurd h18 (by omega))
  refine x_iconst K dX7_wrongColumns_25 ?_
  refine x_putI K gpRX7_39 ⟨by decide, (by decide)⟩ dX7_wrongColumns_26 ?_
  refine x_aload_0 K dX7_wrongColumns_29 ?_
  refine x_getI K gfRX7_39 ⟨by decide, (by decide)⟩ dX7_wrongColumns_30 ?_
  refine gWX.top (b := 0) rfl ?_
  refine x_if_le (tgt := 40) K (by omega) dX7_wrongColumns_33 (by decide) (fun h33 => ?_) (fun h33 => absurd h33 (by omega))
  refine x_aload_0 K dX7_wrongColumns_40 ?_
  refine x_iload_1 K dX7_wrongColumns_41 ?_
  refine x_iconst K dX7_wrongColumns_42 ?_
  refine x_callV2 K (c7_wrongMany_c Y (gMs_u h 7 0) hY n hn) mtX7_wrongMany miX7_wrongMany rc14 ⟨by decide, (by decide)⟩ lkRX7_160 ⟨by decide, by decide, by decide⟩ rfl (Nat.le_of_ble_eq_true rfl) dX7_wrongColumns_43 ?_
  exact x_iret K hE rfl dX7_wrongColumns_46 (by decide) (by decide) rfl rfl
theorem c7_doubts_1 {E : gE} {σ : gS} (Y : Nat → Int) (h : gMs σ Y) (hY : gY Y) (s : Int) (hs : -2147483648 ≤ s ∧ s < 2147483648) (hh : ¬ gHit Y s) : gCt E mX7_doubts 11 0 [rf 14 0, iv s] σ (.inl (some (iv (0)))) (gFl σ 1) := by
  refine gCt_of (L := [some (rf 14 0), some (iv s)]) (by decide +kernel) rfl rfl (Nat.le_of_ble_eq_true rfl) (fun X K hE => ?_)
  have hY0 := hY.1
  have t1 : gB1 (gHit Y s) = 0 := gB1_f hh
  refine x_aload_0 K dX7_doubts_0 ?_
  refine x_aload_0 K dX7_doubts_1 ?_
  refine x_iload_1 K dX7_doubts_2 ?_
  refine x_callV1 K (c7_isScroll Y h hY _ hs) mtX7_isScroll miX7_isScroll rc14 ⟨by decide, (by decide)⟩ lkRX7_65 ⟨by decide, by decide, by decide⟩ rfl (Nat.le_of_ble_eq_true rfl) dX7_doubts_3 ?_
  refine x_if_eq (tgt := 13) K (by omega) dX7_doubts_6 (by decide) (fun h6 => ?_) (fun h6 => absurd h6 (by omega))
  refine x_iconst K dX7_doubts_13 ?_
  refine x_putI K gpRX7_39 ⟨by decide, (by decide)⟩ dX7_doubts_14 ?_
  refine x_aload_0 K dX7_doubts_17 ?_
  refine x_getI K gfRX7_39 ⟨by decide, (by decide)⟩ dX7_doubts_18 ?_
  refine gWX.top (b := 1) rfl ?_
  refine x_if_le (tgt := 28) K (by omega) dX7_doubts_21 (by decide) (fun h21 => absurd h21 (by omega)) (fun h21 => ?_)
  refine x_iconst K dX7_doubts_24 ?_
  refine x_goto (tgt := 33) K dX7_doubts_25 (by decide) ?_
  exact x_iret K hE rfl dX7_doubts_33 (by decide) (by decide) rfl rfl
theorem c7_doubts {E : gE} {σ : gS} (Y : Nat → Int) (h : gMs σ Y) (hY : gY Y) (s : Int) (hs : -2147483648 ≤ s ∧ s < 2147483648) (hh : gHit Y s) : gCt E mX7_doubts 11 0 [rf 14 0, iv s] σ (.inl (some (iv (s_db (zb Y s.toNat))))) (gFl σ 0) := by
  refine gCt_of (L := [some (rf 14 0), some (iv s)]) (by decide +kernel) rfl rfl (Nat.le_of_ble_eq_true rfl) (fun X K hE => ?_)
  have t1 : gB1 (gHit Y s) = 1 := gB1_t hh
  obtain ⟨n, rfl⟩ : ∃ n : Nat, s = (n : Int) := ⟨s.toNat, by omega⟩
  have hn : (n : Int) < Y 0 := hh.2
  have hY0 := hY.1
  have hz := hY.2 n hn
  have ⟨q0, q1, q2, q3, q4, q5, q6, q7, q8⟩ := hz
  refine x_aload_0 K dX7_doubts_0 ?_
  refine x_aload_0 K dX7_doubts_1 ?_
  refine x_iload_1 K dX7_doubts_2 ?_
  refine x_callV1 K (c7_isScroll Y h hY _ hs) mtX7_isScroll miX7_isScroll rc14 ⟨by decide, (by decide)⟩ lkRX7_65 ⟨by decide, by decide, by decide⟩ rfl (Nat.le_of_ble_eq_true rfl) dX7_doubts_3 ?_
  refine x_if_eq (tgt := 13) K (by omega) dX7_doubts_6 (by decide) (fun h6 => absurd h6 (by omega)) (fun h6 => ?_)
  refine x_iconst K dX7_doubts_9 ?_
  refine x_goto (tgt := 14) K dX7_doubts_10 (by decide) ?_
  refine x_putI K gpRX7_39 ⟨by decide, (by decide)⟩ dX7_doubts_14 ?_
  refine x_aload_0 K dX7_doubts_17 ?_
  refine x_getI K gfRX7_39 ⟨by decide, (by decide)⟩ dX7_doubts_18 ?_
  refine gWX.top (b := 0) rfl ?_
  refine x_if_le (tgt := 28) K (by omega) dX7_doubts_21 (by decide) (fun h21 => ?_) (fun h21 => absurd h21 (by omega))
  refine x_aload_0 K dX7_doubts_28 ?_
  refine x_iload_1 K dX7_doubts_29 ?_
  refine x_callV1 K (c7_doubtsOf Y (gMs_u h 7 0) hY n hn) mtX7_doubtsOf miX7_doubtsOf rc14 ⟨by decide, (by decide)⟩ lkRX7_166 ⟨by decide, by decide, by decide⟩ rfl (Nat.le_of_ble_eq_true rfl) dX7_doubts_30 ?_
  exact x_iret K hE rfl dX7_doubts_33 (by decide) (by decide) rfl rfl
theorem c7_doubtsAgain_1 {E : gE} {σ : gS} (Y : Nat → Int) (h : gMs σ Y) (hY : gY Y) (s : Int) (hs : -2147483648 ≤ s ∧ s < 2147483648) (hh : ¬ gHit Y s) : gCt E mX7_doubtsAgain 12 0 [rf 14 0, iv s] σ (.inl (some (iv (0)))) (gFl σ 1) := by
  refine gCt_of (L := [some (rf 14 0), some (iv s)]) (by decide +kernel) rfl rfl (Nat.le_of_ble_eq_true rfl) (fun X K hE => ?_)
  refine x_aload_0 K dX7_doubtsAgain_0 ?_
  refine x_iload_1 K dX7_doubtsAgain_1 ?_
  refine x_callV1 K (c7_doubts_1 Y h hY s hs hh) mtX7_doubts miX7_doubts rc14 ⟨by decide, (by decide)⟩ lkRX7_169 ⟨by decide, by decide, by decide⟩ rfl (Nat.le_of_ble_eq_true rfl) dX7_doubtsAgain_2 ?_
  exact x_iret K hE rfl dX7_doubtsAgain_5 (by decide) (by decide) rfl rfl
theorem c7_doubtsAgain {E : gE} {σ : gS} (Y : Nat → Int) (h : gMs σ Y) (hY : gY Y) (s : Int) (hs : -2147483648 ≤ s ∧ s < 2147483648) (hh : gHit Y s) : gCt E mX7_doubtsAgain 12 0 [rf 14 0, iv s] σ (.inl (some (iv (s_db (zb Y s.toNat))))) (gFl σ 0) := by
  refine gCt_of (L := [some (rf 14 0), some (iv s)]) (by decide +kernel) rfl rfl (Nat.le_of_ble_eq_true rfl) (fun X K hE => ?_)
  refine x_aload_0 K dX7_doubtsAgain_0 ?_
  refine x_iload_1 K dX7_doubtsAgain_1 ?_
  refine x_callV1 K (c7_doubts Y h hY s hs hh) mtX7_doubts miX7_doubts rc14 ⟨by decide, (by decide)⟩ lkRX7_169 ⟨by decide, by decide, by decide⟩ rfl (Nat.le_of_ble_eq_true rfl) dX7_doubtsAgain_2 ?_
  exact x_iret K hE rfl dX7_doubtsAgain_5 (by decide) (by decide) rfl rfl
theorem c7_wouldMend_1 {E : gE} {σ : gS} (Y : Nat → Int) (h : gMs σ Y) (hY : gY Y) (s : Int) (hs : -2147483648 ≤ s ∧ s < 2147483648) (hh : ¬ gHit Y s) : gCt E mX7_wouldMend 11 0 [rf 14 0, iv s] σ (.inl (some (iv (0)))) (gFl σ 1) := by
  refine gCt_of (L := [some (rf 14 0), some (iv s)]) (by decide +kernel) rfl rfl (Nat.le_of_ble_eq_true rfl) (fun X K hE => ?_)
  have hY0 := hY.1
  have t1 : gB1 (gHit Y s) = 0 := gB1_f hh
  refine x_aload_0 K dX7_wouldMend_0 ?_
  refine x_aload_0 K dX7_wouldMend_1 ?_
  refine x_iload_1 K dX7_wouldMend_2 ?_
  refine x_callV1 K (c7_isScroll Y h hY _ hs) mtX7_isScroll miX7_isScroll rc14 ⟨by decide, (by decide)⟩ lkRX7_65 ⟨by decide, by decide, by decide⟩ rfl (Nat.le_of_ble_eq_true rfl) dX7_wouldMend_3 ?_
  refine x_if_ne (tgt := 13) K (by omega) dX7_wouldMend_6 (by decide) (fun h6 => absurd h6 (by omega)) (fun h6 => ?_)
  refine x_iconst K dX7_wouldMend_9 ?_
  refine x_goto (tgt := 26) K dX7_wouldMend_10 (by decide) ?_
  refine x_putI K gpRX7_39 ⟨by decide, (by decide)⟩ dX7_wouldMend_26 ?_
  refine x_aload_0 K dX7_wouldMend_29 ?_
  refine x_getI K gfRX7_39 ⟨by decide, (by decide)⟩ dX7_wouldMend_30 ?_
  refine gWX.top (b := 1) rfl ?_
  refine x_if_le (tgt := 40) K (by omega) dX7_wouldMend_33 (by decide) (fun h33 => absurd h33 (by omega)) (fun h33 => ?_)
  refine x_iconst K dX7_wouldMend_36 ?_
  refine x_goto (tgt := 56) K dX7_wouldMend_37 (by decide) ?_
  exact x_iret K hE rfl dX7_wouldMend_56 (by decide) (by decide) rfl rfl
theorem c7_wouldMend_2 {E : gE} {σ : gS} (Y : Nat → Int) (h : gMs σ Y) (hY : gY Y) (s : Int) (hs : -2147483648 ≤ s ∧ s < 2147483648) (hh : gHit Y s) (hom : s_om (zb Y s.toNat) s ≠ 0) : gCt E mX7_wouldMend 11 0 [rf 14 0, iv s] σ (.inl (some (iv (0)))) (gFl σ 2) := by
  refine gCt_of (L := [some (rf 14 0), some (iv s)]) (by decide +kernel) rfl rfl (Nat.le_of_ble_eq_true rfl) (fun X K hE => ?_)
  have t1 : gB1 (gHit Y s) = 1 := gB1_t hh
  obtain ⟨n, rfl⟩ : ∃ n : Nat, s = (n : Int) := ⟨s.toNat, by omega⟩
  have hn : (n : Int) < Y 0 := hh.2
  have hY0 := hY.1
  have hz := hY.2 n hn
  have ⟨q0, q1, q2, q3, q4, q5, q6, q7, q8⟩ := hz
  have b1 := s_sm_bd hz
  have b2 := s_wr_bd (zb Y n)
  have b3 := s_wc_bd (zb Y n)
  have b4 := gB1_bd (zb Y n 2 = 1)
  have b5 : gB1 (zb Y n 2 = 1) = zb Y n 2 := by unfold gB1; split <;> omega
  have hca := s_om_cases (zb Y n) (n : Int)
  have bom := s_om_bd hz (n := (n : Int)) (by omega)
  have hom2 : s_om (zb Y n) (n : Int) ≠ 0 := hom
  have om1 : 100 ≤ s_om (zb Y n) (n : Int) := by
    rcases hca with hca | hca | ⟨hca0, hca⟩ | hca | hca | ⟨hca0, hca⟩
    · omega
    · omega
    · omega
    · omega
    · omega
    · have f1 := s_fw_row (z := zb Y n) (by omega)
      have f2 := s_fw_col (z := zb Y n) (by omega)
      have g1 := s_f_bd hz (b := s_r1 (zb Y n)) (by omega)
      have g2 := s_f_bd hz (b := 6 + s_c1 (zb Y n)) (by omega)
      omega
  refine x_aload_0 K dX7_wouldMend_0 ?_
  refine x_aload_0 K dX7_wouldMend_1 ?_
  refine x_iload_1 K dX7_wouldMend_2 ?_
  refine x_callV1 K (c7_isScroll Y h hY _ hs) mtX7_isScroll miX7_isScroll rc14 ⟨by decide, (by decide)⟩ lkRX7_65 ⟨by decide, by decide, by decide⟩ rfl (Nat.le_of_ble_eq_true rfl) dX7_wouldMend_3 ?_
  refine x_if_ne (tgt := 13) K (by omega) dX7_wouldMend_6 (by decide) (fun h6 => ?_) (fun h6 => absurd h6 (by omega))
  refine x_aload_0 K dX7_wouldMend_13 ?_
  refine x_iload_1 K dX7_wouldMend_14 ?_
  refine x_callV1 K (c7_mendBar Y h hY n hn) mtX7_mendBar miX7_mendBar rc14 ⟨by decide, (by decide)⟩ lkRX7_175 ⟨by decide, by decide, by decide⟩ rfl (Nat.le_of_ble_eq_true rfl) dX7_wouldMend_15 ?_
  refine x_if_le (tgt := 25) K (by omega) dX7_wouldMend_18 (by decide) (fun h18 => absurd h18 (by omega)) (fun h18 => ?_)
  refine x_iconst K dX7_wouldMend_21 ?_
  refine x_goto (tgt := 26) K dX7_wouldMend_22 (by decide) ?_
  refine x_putI K gpRX7_39 ⟨by decide, (by decide)⟩ dX7_wouldMend_26 ?_
  refine x_aload_0 K dX7_wouldMend_29 ?_
  refine x_getI K gfRX7_39 ⟨by decide, (by decide)⟩ dX7_wouldMend_30 ?_
  refine gWX.top (b := 2) rfl ?_
  refine x_if_le (tgt := 40) K (by omega) dX7_wouldMend_33 (by decide) (fun h33 => absurd h33 (by omega)) (fun h33 => ?_)
  refine x_iconst K dX7_wouldMend_36 ?_
  refine x_goto (tgt := 56) K dX7_wouldMend_37 (by decide) ?_
  exact x_iret K hE rfl dX7_wouldMend_56 (by decide) (by decide) rfl rfl
theorem c7_wouldMend {E : gE} {σ : gS} (Y : Nat → Int) (h : gMs σ Y) (hY : gY Y) (s : Int) (hs : -2147483648 ≤ s ∧ s < 2147483648) (hh : gHit Y s) (hom : s_om (zb Y s.toNat) s = 0) : gCt E mX7_wouldMend 11 0 [rf 14 0, iv s] σ (.inl (some (iv (10 * (s_r1 (zb Y s.toNat) : Int) + (s_c1 (zb Y s.toNat) : Int))))) (gFl σ 0) := by
  refine gCt_of (L := [some (rf 14 0), some (iv s)]) (by decide +kernel) rfl rfl (Nat.le_of_ble_eq_true rfl) (fun X K hE => ?_)
  have t1 : gB1 (gHit Y s) = 1 := gB1_t hh
  obtain ⟨n, rfl⟩ : ∃ n : Nat, s = (n : Int) := ⟨s.toNat, by omega⟩
  have hn : (n : Int) < Y 0 := hh.2
  have hY0 := hY.1
  have hz := hY.2 n hn
  have ⟨q0, q1, q2, q3, q4, q5, q6, q7, q8⟩ := hz
  have om0 : s_om (zb Y n) (n : Int) = 0 := hom
  obtain ⟨m1, m2, m3, m4, m5⟩ := s_om_0 hz (by omega) om0
  have f1 := s_fw_row (z := zb Y n) (by omega)
  have f2 := s_fw_col (z := zb Y n) (by omega)
  have g1 := s_f_bd hz (b := s_r1 (zb Y n)) (by omega)
  have g2 := s_f_bd hz (b := 6 + s_c1 (zb Y n)) (by omega)
  refine x_aload_0 K dX7_wouldMend_0 ?_
  refine x_aload_0 K dX7_wouldMend_1 ?_
  refine x_iload_1 K dX7_wouldMend_2 ?_
  refine x_callV1 K (c7_isScroll Y h hY _ hs) mtX7_isScroll miX7_isScroll rc14 ⟨by decide, (by decide)⟩ lkRX7_65 ⟨by decide, by decide, by decide⟩ rfl (Nat.le_of_ble_eq_true rfl) dX7_wouldMend_3 ?_
  refine x_if_ne (tgt := 13) K (by omega) dX7_wouldMend_6 (by decide) (fun h6 => ?_) (fun h6 => absurd h6 (by omega))
  refine x_aload_0 K dX7_wouldMend_13 ?_
  refine x_iload_1 K dX7_wouldMend_14 ?_
  refine x_callV1 K (c7_mendBar Y h hY n hn) mtX7_mendBar miX7_mendBar rc14 ⟨by decide, (by decide)⟩ lkRX7_175 ⟨by decide, by decide, by decide⟩ rfl (Nat.le_of_ble_eq_true rfl) dX7_wouldMend_15 ?_
  refine x_if_le (tgt := 25) K (by omega) dX7_wouldMend_18 (by decide) (fun h18 => ?_) (fun h18 => absurd h18 (by omega))
  refine x_iconst K dX7_wouldMend_25 ?_
  refine x_putI K gpRX7_39 ⟨by decide, (by decide)⟩ dX7_wouldMend_26 ?_
  refine x_aload_0 K dX7_wouldMend_29 ?_
  refine x_getI K gfRX7_39 ⟨by decide, (by decide)⟩ dX7_wouldMend_30 ?_
  refine gWX.top (b := 0) rfl ?_
  refine x_if_le (tgt := 40) K (by omega) dX7_wouldMend_33 (by decide) (fun h33 => ?_) (fun h33 => absurd h33 (by omega))
  refine x_bipush K dX7_wouldMend_40 rfl ?_
  refine x_aload_0 K dX7_wouldMend_42 ?_
  refine x_iload_1 K dX7_wouldMend_43 ?_
  refine x_iconst K dX7_wouldMend_44 ?_
  refine x_callV2 K (c7_wrongFirst_r Y (gMs_u h 7 0) hY n hn (by omega)) mtX7_wrongFirst miX7_wrongFirst rc14 ⟨by decide, (by decide)⟩ lkRX7_172 ⟨by decide, by decide, by decide⟩ rfl (Nat.le_of_ble_eq_true rfl) dX7_wouldMend_45 ?_
  refine x_imul K dX7_wouldMend_48 ?_
  refine x_aload_0 K dX7_wouldMend_49 ?_
  refine x_iload_1 K dX7_wouldMend_50 ?_
  refine x_iconst K dX7_wouldMend_51 ?_
  refine x_callV2 K (c7_wrongFirst_c Y (gMs_u h 7 0) hY n hn (by omega)) mtX7_wrongFirst miX7_wrongFirst rc14 ⟨by decide, (by decide)⟩ lkRX7_172 ⟨by decide, by decide, by decide⟩ rfl (Nat.le_of_ble_eq_true rfl) dX7_wouldMend_52 ?_
  refine x_iadd K dX7_wouldMend_55 ?_
  exact x_iret K hE rfl dX7_wouldMend_56 (by decide) (by decide) rfl rfl
theorem c7_mendAgain_1 {E : gE} {σ : gS} (Y : Nat → Int) (h : gMs σ Y) (hY : gY Y) (s : Int) (hs : -2147483648 ≤ s ∧ s < 2147483648) (hh : ¬ gHit Y s) : gCt E mX7_mendAgain 12 0 [rf 14 0, iv s] σ (.inl (some (iv (0)))) (gFl σ 1) := by
  refine gCt_of (L := [some (rf 14 0), some (iv s)]) (by decide +kernel) rfl rfl (Nat.le_of_ble_eq_true rfl) (fun X K hE => ?_)
  refine x_aload_0 K dX7_mendAgain_0 ?_
  refine x_iload_1 K dX7_mendAgain_1 ?_
  refine x_callV1 K (c7_wouldMend_1 Y h hY s hs hh) mtX7_wouldMend miX7_wouldMend rc14 ⟨by decide, (by decide)⟩ lkRX7_184 ⟨by decide, by decide, by decide⟩ rfl (Nat.le_of_ble_eq_true rfl) dX7_mendAgain_2 ?_
  exact x_iret K hE rfl dX7_mendAgain_5 (by decide) (by decide) rfl rfl
theorem c7_mendAgain_2 {E : gE} {σ : gS} (Y : Nat → Int) (h : gMs σ Y) (hY : gY Y) (s : Int) (hs : -2147483648 ≤ s ∧ s < 2147483648) (hh : gHit Y s) (hom : s_om (zb Y s.toNat) s ≠ 0) : gCt E mX7_mendAgain 12 0 [rf 14 0, iv s] σ (.inl (some (iv (0)))) (gFl σ 2) := by
  refine gCt_of (L := [some (rf 14 0), some (iv s)]) (by decide +kernel) rfl rfl (Nat.le_of_ble_eq_true rfl) (fun X K hE => ?_)
  refine x_aload_0 K dX7_mendAgain_0 ?_
  refine x_iload_1 K dX7_mendAgain_1 ?_
  refine x_callV1 K (c7_wouldMend_2 Y h hY s hs hh hom) mtX7_wouldMend miX7_wouldMend rc14 ⟨by decide, (by decide)⟩ lkRX7_184 ⟨by decide, by decide, by decide⟩ rfl (Nat.le_of_ble_eq_true rfl) dX7_mendAgain_2 ?_
  exact x_iret K hE rfl dX7_mendAgain_5 (by decide) (by decide) rfl rfl
theorem c7_mendAgain {E : gE} {σ : gS} (Y : Nat → Int) (h : gMs σ Y) (hY : gY Y) (s : Int) (hs : -2147483648 ≤ s ∧ s < 2147483648) (hh : gHit Y s) (hom : s_om (zb Y s.toNat) s = 0) : gCt E mX7_mendAgain 12 0 [rf 14 0, iv s] σ (.inl (some (iv (10 * (s_r1 (zb Y s.toNat) : Int) + (s_c1 (zb Y s.toNat) : Int))))) (gFl σ 0) := by
  refine gCt_of (L := [some (rf 14 0), some (iv s)]) (by decide +kernel) rfl rfl (Nat.le_of_ble_eq_true rfl) (fun X K hE => ?_)
  refine x_aload_0 K dX7_mendAgain_0 ?_
  refine x_iload_1 K dX7_mendAgain_1 ?_
  refine x_callV1 K (c7_wouldMend Y h hY s hs hh hom) mtX7_wouldMend miX7_wouldMend rc14 ⟨by decide, (by decide)⟩ lkRX7_184 ⟨by decide, by decide, by decide⟩ rfl (Nat.le_of_ble_eq_true rfl) dX7_mendAgain_2 ?_
  exact x_iret K hE rfl dX7_mendAgain_5 (by decide) (by decide) rfl rfl
def gAs (σ : gS) (t : Int) : gS := gU (gCp (gFl σ 0) 15 0 17 0 0 0 345) 14 0 7 t
theorem gAs_back {σ : gS} {Y Y2 : Nat → Int} (h : gMs σ Y) : gCp (gMp (gCp (gFl σ 0) 15 0 17 0 0 0 345) Y2) 17 0 15 0 0 0 345 = gCp (gFl σ 0) 15 0 17 0 0 0 345 := gS_ext (fun a b x => by
  rw [gCp_at]
  by_cases q : a = 15 ∧ b = 0 ∧ 0 ≤ x ∧ x < 0 + 345
  · rw [if_pos q, q.1, q.2.1, gMp_at, if_neg (by omega), gCp_at, if_pos (by omega), show 0 + (0 + (x - 0) - 0) = x by omega, gCp_at, if_neg (by omega)]
  · rw [if_neg q, gMp_at, if_neg (by omega)]) rfl
theorem gAs_ms {σ : gS} {Y : Nat → Int} (h : gMs σ Y) : gMs (gCp (gFl σ 0) 15 0 17 0 0 0 345) Y := fun i hi => by
  rw [gCp_at, if_neg (by omega)]
  exact gMs_u h 7 0 i hi
theorem c7_wouldFill_1 {E : gE} {σ : gS} (Y : Nat → Int) (h : gMs σ Y) (hY : gY Y) (s r c : Int) (hs : -2147483648 ≤ s ∧ s < 2147483648) (hr : -2147483648 ≤ r ∧ r < 2147483648) (hc : -2147483648 ≤ c ∧ c < 2147483648) (hh : ¬ gCel Y s r c) : gCt E mX7_wouldFill 12 0 [rf 14 0, iv s, iv r, iv c] σ (.inl (some (iv (0)))) (gFl σ 1) := by
  refine gCt_of (L := [some (rf 14 0), some (iv s), some (iv r), some (iv c), none, none]) (by decide +kernel) rfl rfl (Nat.le_of_ble_eq_true rfl) (fun X K hE => ?_)
  have hY0 := hY.1
  have t1 : gB1 (gCel Y s r c) = 0 := gB1_f hh
  refine x_aload_0 K dX7_wouldFill_0 ?_
  refine x_aload_0 K dX7_wouldFill_1 ?_
  refine x_iload_1 K dX7_wouldFill_2 ?_
  refine x_iload_2 K dX7_wouldFill_3 ?_
  refine x_iload_3 K dX7_wouldFill_4 ?_
  refine x_callV3 K (c7_isCell Y h hY _ _ _ hs hr hc) mtX7_isCell miX7_isCell rc14 ⟨by decide, (by decide)⟩ lkRX7_137 ⟨by decide, by decide, by decide⟩ rfl (Nat.le_of_ble_eq_true rfl) dX7_wouldFill_5 ?_
  refine x_if_eq (tgt := 15) K (by omega) dX7_wouldFill_8 (by decide) (fun h8 => ?_) (fun h8 => absurd h8 (by omega))
  refine x_iconst K dX7_wouldFill_15 ?_
  refine x_putI K gpRX7_39 ⟨by decide, (by decide)⟩ dX7_wouldFill_16 ?_
  refine x_aload_0 K dX7_wouldFill_19 ?_
  refine x_getI K gfRX7_39 ⟨by decide, (by decide)⟩ dX7_wouldFill_20 ?_
  refine gWX.top (b := 1) rfl ?_
  refine x_if_le (tgt := 28) K (by omega) dX7_wouldFill_23 (by decide) (fun h23 => absurd h23 (by omega)) (fun h23 => ?_)
  refine x_iconst K dX7_wouldFill_26 ?_
  exact x_iret K hE rfl dX7_wouldFill_27 (by decide) (by decide) rfl rfl
theorem c7_wouldFill_2 {E : gE} {σ : gS} (Y : Nat → Int) (h : gMs σ Y) (hY : gY Y) (s r c : Int) (hs : -2147483648 ≤ s ∧ s < 2147483648) (hr : -2147483648 ≤ r ∧ r < 2147483648) (hc : -2147483648 ≤ c ∧ c < 2147483648) (hh : gCel Y s r c) (hz2 : zb Y s.toNat 2 = 0) : gCt E mX7_wouldFill 12 0 [rf 14 0, iv s, iv r, iv c] σ (.inl (some (iv (0)))) (gFl σ 2) := by
  refine gCt_of (L := [some (rf 14 0), some (iv s), some (iv r), some (iv c), none, none]) (by decide +kernel) rfl rfl (Nat.le_of_ble_eq_true rfl) (fun X K hE => ?_)
  have t1 : gB1 (gCel Y s r c) = 1 := gB1_t hh
  obtain ⟨n, rfl⟩ : ∃ n : Nat, s = (n : Int) := ⟨s.toNat, by have := hh.1; omega⟩
  obtain ⟨r, rfl⟩ : ∃ r2 : Nat, r = (r2 : Int) := ⟨r.toNat, by have := hh.2.1; omega⟩
  obtain ⟨c, rfl⟩ : ∃ c2 : Nat, c = (c2 : Int) := ⟨c.toNat, by have := hh.2.2; omega⟩
  have hn : (n : Int) < Y 0 := hh.1.2
  have hY0 := hY.1
  have hz := hY.2 n hn
  have ⟨q0, q1, q2, q3, q4, q5, q6, q7, q8⟩ := hz
  have hr9 : (r : Int) < zb Y n 0 := hh.2.1.2
  have hc9 : (c : Int) < zb Y n 1 := hh.2.2.2
  have hr6 : r < 6 := by omega
  have hc8 : c < 8 := by omega
  have b5 : -1 ≤ zb Y n (20 + (8 * r + c)) ∧ zb Y n (20 + (8 * r + c)) ≤ 9 := q5 (8 * r + c) (by omega)
  have hz3 : zb Y n 2 = 0 := hz2
  have t2 : gB1 (zb Y n 2 = 1) = 0 := gB1_f (by omega)
  refine x_aload_0 K dX7_wouldFill_0 ?_
  refine x_aload_0 K dX7_wouldFill_1 ?_
  refine x_iload_1 K dX7_wouldFill_2 ?_
  refine x_iload_2 K dX7_wouldFill_3 ?_
  refine x_iload_3 K dX7_wouldFill_4 ?_
  refine x_callV3 K (c7_isCell Y h hY _ _ _ hs hr hc) mtX7_isCell miX7_isCell rc14 ⟨by decide, (by decide)⟩ lkRX7_137 ⟨by decide, by decide, by decide⟩ rfl (Nat.le_of_ble_eq_true rfl) dX7_wouldFill_5 ?_
  refine x_if_eq (tgt := 15) K (by omega) dX7_wouldFill_8 (by decide) (fun h8 => absurd h8 (by omega)) (fun h8 => ?_)
  refine x_iconst K dX7_wouldFill_11 ?_
  refine x_goto (tgt := 16) K dX7_wouldFill_12 (by decide) ?_
  refine x_putI K gpRX7_39 ⟨by decide, (by decide)⟩ dX7_wouldFill_16 ?_
  refine x_aload_0 K dX7_wouldFill_19 ?_
  refine x_getI K gfRX7_39 ⟨by decide, (by decide)⟩ dX7_wouldFill_20 ?_
  refine gWX.top (b := 0) rfl ?_
  refine x_if_le (tgt := 28) K (by omega) dX7_wouldFill_23 (by decide) (fun h23 => ?_) (fun h23 => absurd h23 (by omega))
  refine x_iconst K dX7_wouldFill_28 ?_
  refine x_istore_4 K dX7_wouldFill_29 rfl ?_
  refine x_aload_0 K dX7_wouldFill_31 ?_
  refine x_iload_1 K dX7_wouldFill_32 ?_
  refine x_callV1 K (c7_isSealed Y (gMs_u h 7 0) hY n hn) mtX7_isSealed miX7_isSealed rc14 ⟨by decide, (by decide)⟩ lkRX7_111 ⟨by decide, by decide, by decide⟩ rfl (Nat.le_of_ble_eq_true rfl) dX7_wouldFill_33 ?_
  refine x_if_eq (tgt := 97) K (by omega) dX7_wouldFill_36 (by decide) (fun h36 => ?_) (fun h36 => absurd h36 (by omega))
  refine x_aload_0 K dX7_wouldFill_97 ?_
  refine x_iload_4 K dX7_wouldFill_98 ?_
  refine x_if_ge (tgt := 107) K (by omega) dX7_wouldFill_100 (by decide) (fun h100 => absurd h100 (by omega)) (fun h100 => ?_)
  refine x_iconst K dX7_wouldFill_103 ?_
  refine x_goto (tgt := 108) K dX7_wouldFill_104 (by decide) ?_
  refine x_putI K gpRX7_39 ⟨by decide, (by decide)⟩ dX7_wouldFill_108 ?_
  refine x_aload_0 K dX7_wouldFill_111 ?_
  refine x_getI K gfRX7_39 ⟨by decide, (by decide)⟩ dX7_wouldFill_112 ?_
  refine gWX.top (b := 2) rfl ?_
  refine x_if_le (tgt := 122) K (by omega) dX7_wouldFill_115 (by decide) (fun h115 => absurd h115 (by omega)) (fun h115 => ?_)
  refine x_iconst K dX7_wouldFill_118 ?_
  refine x_goto (tgt := 124) K dX7_wouldFill_119 (by decide) ?_
  exact x_iret K hE rfl dX7_wouldFill_124 (by decide) (by decide) rfl (gU_gU σ 14 0 7 0 2)
theorem c7_wouldFill_3 {E : gE} {σ : gS} (Y : Nat → Int) (h : gMs σ Y) (hY : gY Y) (s r c : Int) (hs : -2147483648 ≤ s ∧ s < 2147483648) (hr : -2147483648 ≤ r ∧ r < 2147483648) (hc : -2147483648 ≤ c ∧ c < 2147483648) (hh : gCel Y s r c) (hz2 : zb Y s.toNat 2 = 1) (hns : zb Y s.toNat (20 + (8 * r.toNat + c.toNat)) ≠ -1) : gCt E mX7_wouldFill 12 0 [rf 14 0, iv s, iv r, iv c] σ (.inl (some (iv (0)))) (gFl σ 2) := by
  refine gCt_of (L := [some (rf 14 0), some (iv s), some (iv r), some (iv c), none, none]) (by decide +kernel) rfl rfl (Nat.le_of_ble_eq_true rfl) (fun X K hE => ?_)
  have t1 : gB1 (gCel Y s r c) = 1 := gB1_t hh
  obtain ⟨n, rfl⟩ : ∃ n : Nat, s = (n : Int) := ⟨s.toNat, by have := hh.1; omega⟩
  obtain ⟨r, rfl⟩ : ∃ r2 : Nat, r = (r2 : Int) := ⟨r.toNat, by have := hh.2.1; omega⟩
  obtain ⟨c, rfl⟩ : ∃ c2 : Nat, c = (c2 : Int) := ⟨c.toNat, by have := hh.2.2; omega⟩
  have hn : (n : Int) < Y 0 := hh.1.2
  have hY0 := hY.1
  have hz := hY.2 n hn
  have ⟨q0, q1, q2, q3, q4, q5, q6, q7, q8⟩ := hz
  have hr9 : (r : Int) < zb Y n 0 := hh.2.1.2
  have hc9 : (c : Int) < zb Y n 1 := hh.2.2.2
  have hr6 : r < 6 := by omega
  have hc8 : c < 8 := by omega
  have b5 : -1 ≤ zb Y n (20 + (8 * r + c)) ∧ zb Y n (20 + (8 * r + c)) ≤ 9 := q5 (8 * r + c) (by omega)
  have t2 : gB1 (zb Y n 2 = 1) = 1 := gB1_t hz2
  have hns2 : zb Y n (20 + (8 * r + c)) ≠ -1 := hns
  refine x_aload_0 K dX7_wouldFill_0 ?_
  refine x_aload_0 K dX7_wouldFill_1 ?_
  refine x_iload_1 K dX7_wouldFill_2 ?_
  refine x_iload_2 K dX7_wouldFill_3 ?_
  refine x_iload_3 K dX7_wouldFill_4 ?_
  refine x_callV3 K (c7_isCell Y h hY _ _ _ hs hr hc) mtX7_isCell miX7_isCell rc14 ⟨by decide, (by decide)⟩ lkRX7_137 ⟨by decide, by decide, by decide⟩ rfl (Nat.le_of_ble_eq_true rfl) dX7_wouldFill_5 ?_
  refine x_if_eq (tgt := 15) K (by omega) dX7_wouldFill_8 (by decide) (fun h8 => absurd h8 (by omega)) (fun h8 => ?_)
  refine x_iconst K dX7_wouldFill_11 ?_
  refine x_goto (tgt := 16) K dX7_wouldFill_12 (by decide) ?_
  refine x_putI K gpRX7_39 ⟨by decide, (by decide)⟩ dX7_wouldFill_16 ?_
  refine x_aload_0 K dX7_wouldFill_19 ?_
  refine x_getI K gfRX7_39 ⟨by decide, (by decide)⟩ dX7_wouldFill_20 ?_
  refine gWX.top (b := 0) rfl ?_
  refine x_if_le (tgt := 28) K (by omega) dX7_wouldFill_23 (by decide) (fun h23 => ?_) (fun h23 => absurd h23 (by omega))
  refine x_iconst K dX7_wouldFill_28 ?_
  refine x_istore_4 K dX7_wouldFill_29 rfl ?_
  refine x_aload_0 K dX7_wouldFill_31 ?_
  refine x_iload_1 K dX7_wouldFill_32 ?_
  refine x_callV1 K (c7_isSealed Y (gMs_u h 7 0) hY n hn) mtX7_isSealed miX7_isSealed rc14 ⟨by decide, (by decide)⟩ lkRX7_111 ⟨by decide, by decide, by decide⟩ rfl (Nat.le_of_ble_eq_true rfl) dX7_wouldFill_33 ?_
  refine x_if_eq (tgt := 97) K (by omega) dX7_wouldFill_36 (by decide) (fun h36 => absurd h36 (by omega)) (fun h36 => ?_)
  refine x_aload_0 K dX7_wouldFill_39 ?_
  refine x_iload_1 K dX7_wouldFill_40 ?_
  refine x_iload_2 K dX7_wouldFill_41 ?_
  refine x_iload_3 K dX7_wouldFill_42 ?_
  refine x_callV3 K (c7_sign1 Y (gMs_u h 7 0) n (by omega) r c hr6 hc8) mtX7_sign1 miX7_sign1 rc14 ⟨by decide, (by decide)⟩ lkRX7_88 ⟨by decide, by decide, by decide⟩ rfl (Nat.le_of_ble_eq_true rfl) dX7_wouldFill_43 ?_
  refine x_if_ge (tgt := 97) K (by omega) dX7_wouldFill_46 (by decide) (fun h46 => ?_) (fun h46 => absurd h46 (by omega))
  refine x_aload_0 K dX7_wouldFill_97 ?_
  refine x_iload_4 K dX7_wouldFill_98 ?_
  refine x_if_ge (tgt := 107) K (by omega) dX7_wouldFill_100 (by decide) (fun h100 => absurd h100 (by omega)) (fun h100 => ?_)
  refine x_iconst K dX7_wouldFill_103 ?_
  refine x_goto (tgt := 108) K dX7_wouldFill_104 (by decide) ?_
  refine x_putI K gpRX7_39 ⟨by decide, (by decide)⟩ dX7_wouldFill_108 ?_
  refine x_aload_0 K dX7_wouldFill_111 ?_
  refine x_getI K gfRX7_39 ⟨by decide, (by decide)⟩ dX7_wouldFill_112 ?_
  refine gWX.top (b := 2) rfl ?_
  refine x_if_le (tgt := 122) K (by omega) dX7_wouldFill_115 (by decide) (fun h115 => absurd h115 (by omega)) (fun h115 => ?_)
  refine x_iconst K dX7_wouldFill_118 ?_
  refine x_goto (tgt := 124) K dX7_wouldFill_119 (by decide) ?_
  exact x_iret K hE rfl dX7_wouldFill_124 (by decide) (by decide) rfl (gU_gU σ 14 0 7 0 2)
theorem c7_wouldFill_4 {E : gE} {σ : gS} (Y : Nat → Int) (h : gMs σ Y) (hY : gY Y) (s r c : Int) (hs : -2147483648 ≤ s ∧ s < 2147483648) (hr : -2147483648 ≤ r ∧ r < 2147483648) (hc : -2147483648 ≤ c ∧ c < 2147483648) (hh : gCel Y s r c) (hz2 : zb Y s.toNat 2 = 1) (hns : zb Y s.toNat (20 + (8 * r.toNat + c.toNat)) = -1) (hst : zFill (zb Y s.toNat) (20 + (8 * r.toNat + c.toNat)) = -1) : gCt E mX7_wouldFill 12 0 [rf 14 0, iv s, iv r, iv c] σ (.inl (some (iv (0)))) (gAs σ 2) := by
  refine gCt_of (L := [some (rf 14 0), some (iv s), some (iv r), some (iv c), none, none]) (by decide +kernel) rfl rfl (Nat.le_of_ble_eq_true rfl) (fun X K hE => ?_)
  have t1 : gB1 (gCel Y s r c) = 1 := gB1_t hh
  obtain ⟨n, rfl⟩ : ∃ n : Nat, s = (n : Int) := ⟨s.toNat, by have := hh.1; omega⟩
  obtain ⟨r, rfl⟩ : ∃ r2 : Nat, r = (r2 : Int) := ⟨r.toNat, by have := hh.2.1; omega⟩
  obtain ⟨c, rfl⟩ : ∃ c2 : Nat, c = (c2 : Int) := ⟨c.toNat, by have := hh.2.2; omega⟩
  have hn : (n : Int) < Y 0 := hh.1.2
  have hY0 := hY.1
  have hz := hY.2 n hn
  have ⟨q0, q1, q2, q3, q4, q5, q6, q7, q8⟩ := hz
  have hr9 : (r : Int) < zb Y n 0 := hh.2.1.2
  have hc9 : (c : Int) < zb Y n 1 := hh.2.2.2
  have hr6 : r < 6 := by omega
  have hc8 : c < 8 := by omega
  have b5 : -1 ≤ zb Y n (20 + (8 * r + c)) ∧ zb Y n (20 + (8 * r + c)) ≤ 9 := q5 (8 * r + c) (by omega)
  have hz3 : zb Y n 2 = 1 := hz2
  have t2 : gB1 (zb Y n 2 = 1) = 1 := gB1_t hz2
  have hns2 : zb Y n (20 + (8 * r + c)) = -1 := hns
  have hob : gOb 7 Y (n : Int) 0 0 0 = 0 := by rw [gOb_7 hh.1]; exact if_neg (by show ¬ zb Y n 2 = 0; omega)
  have eF : zb (gCoY 7 Y (n : Int) 0 0 0) n (20 + (8 * r + c)) = zFill (zb Y n) (20 + (8 * r + c)) := zb_set (yF Y 4 (Y 4 + (s_fill 48 (zb Y n)).1)) n (zFill (zb Y n)) (by omega)
  have bF : -1 ≤ zFill (zb Y n) (20 + (8 * r + c)) ∧ zFill (zb Y n) (20 + (8 * r + c)) ≤ 9 := (zFill_Z hz).2.2.2.2.2.1 (8 * r + c) (by omega)
  have hst2 : zFill (zb Y n) (20 + (8 * r + c)) = -1 := hst
  refine x_aload_0 K dX7_wouldFill_0 ?_
  refine x_aload_0 K dX7_wouldFill_1 ?_
  refine x_iload_1 K dX7_wouldFill_2 ?_
  refine x_iload_2 K dX7_wouldFill_3 ?_
  refine x_iload_3 K dX7_wouldFill_4 ?_
  refine x_callV3 K (c7_isCell Y h hY _ _ _ hs hr hc) mtX7_isCell miX7_isCell rc14 ⟨by decide, (by decide)⟩ lkRX7_137 ⟨by decide, by decide, by decide⟩ rfl (Nat.le_of_ble_eq_true rfl) dX7_wouldFill_5 ?_
  refine x_if_eq (tgt := 15) K (by omega) dX7_wouldFill_8 (by decide) (fun h8 => absurd h8 (by omega)) (fun h8 => ?_)
  refine x_iconst K dX7_wouldFill_11 ?_
  refine x_goto (tgt := 16) K dX7_wouldFill_12 (by decide) ?_
  refine x_putI K gpRX7_39 ⟨by decide, (by decide)⟩ dX7_wouldFill_16 ?_
  refine x_aload_0 K dX7_wouldFill_19 ?_
  refine x_getI K gfRX7_39 ⟨by decide, (by decide)⟩ dX7_wouldFill_20 ?_
  refine gWX.top (b := 0) rfl ?_
  refine x_if_le (tgt := 28) K (by omega) dX7_wouldFill_23 (by decide) (fun h23 => ?_) (fun h23 => absurd h23 (by omega))
  refine x_iconst K dX7_wouldFill_28 ?_
  refine x_istore_4 K dX7_wouldFill_29 rfl ?_
  refine x_aload_0 K dX7_wouldFill_31 ?_
  refine x_iload_1 K dX7_wouldFill_32 ?_
  refine x_callV1 K (c7_isSealed Y (gMs_u h 7 0) hY n hn) mtX7_isSealed miX7_isSealed rc14 ⟨by decide, (by decide)⟩ lkRX7_111 ⟨by decide, by decide, by decide⟩ rfl (Nat.le_of_ble_eq_true rfl) dX7_wouldFill_33 ?_
  refine x_if_eq (tgt := 97) K (by omega) dX7_wouldFill_36 (by decide) (fun h36 => absurd h36 (by omega)) (fun h36 => ?_)
  refine x_aload_0 K dX7_wouldFill_39 ?_
  refine x_iload_1 K dX7_wouldFill_40 ?_
  refine x_iload_2 K dX7_wouldFill_41 ?_
  refine x_iload_3 K dX7_wouldFill_42 ?_
  refine x_callV3 K (c7_sign1 Y (gMs_u h 7 0) n (by omega) r c hr6 hc8) mtX7_sign1 miX7_sign1 rc14 ⟨by decide, (by decide)⟩ lkRX7_88 ⟨by decide, by decide, by decide⟩ rfl (Nat.le_of_ble_eq_true rfl) dX7_wouldFill_43 ?_
  refine x_if_ge (tgt := 97) K (by omega) dX7_wouldFill_46 (by decide) (fun h46 => absurd h46 (by omega)) (fun h46 => ?_)
  refine x_aload_0 K dX7_wouldFill_49 ?_
  refine x_getC K gfRX7_9 ⟨by decide, (by decide)⟩ dX7_wouldFill_50 ?_
  refine x_iconst K dX7_wouldFill_53 ?_
  refine x_aload_0 K dX7_wouldFill_54 ?_
  refine x_getC K gfRX7_16 ⟨by decide, (by decide)⟩ dX7_wouldFill_55 ?_
  refine x_iconst K dX7_wouldFill_58 ?_
  refine x_sipush K dX7_wouldFill_59 rfl ?_
  refine x_copy K 0 0 345 rfl rfl rfl rfl rfl rfl ⟨by decide, by decide⟩ ⟨by decide, by decide⟩ (by omega) (by omega) lwRX7_42 g_acopy ⟨by decide, (Nat.le_of_ble_eq_true rfl)⟩ dX7_wouldFill_62 ?_
  refine x_aload_0 K dX7_wouldFill_65 ?_
  refine x_iload_1 K dX7_wouldFill_66 ?_
  refine x_callV1 K (c7_doFill Y (gAs_ms h) hY (n : Int) 0 0 0 hs) mtX7_doFill miX7_doFill rc14 ⟨by decide, (by decide)⟩ lkRX7_193 ⟨by decide, by decide, by decide⟩ rfl (Nat.le_of_ble_eq_true rfl) dX7_wouldFill_67 ?_
  rw [← gMO_0 hob]
  refine x_istore_5 K dX7_wouldFill_70 rfl ?_
  refine x_aload_0 K dX7_wouldFill_72 ?_
  refine x_iload_1 K dX7_wouldFill_73 ?_
  refine x_iload_2 K dX7_wouldFill_74 ?_
  refine x_iload_3 K dX7_wouldFill_75 ?_
  refine x_callV3 K (c7_sign1 (gCoY 7 Y (n : Int) 0 0 0) (gMp_ms _ _) n (by omega) r c hr6 hc8) mtX7_sign1 miX7_sign1 rc14 ⟨by decide, (by decide)⟩ lkRX7_88 ⟨by decide, by decide, by decide⟩ rfl (Nat.le_of_ble_eq_true rfl) dX7_wouldFill_76 ?_
  refine gWX.top (b := zFill (zb Y n) (20 + (8 * r + c))) eF ?_
  refine x_istore_4 K dX7_wouldFill_79 rfl ?_
  refine x_aload_0 K dX7_wouldFill_81 ?_
  refine x_getC K gfRX7_16 ⟨by decide, (by decide)⟩ dX7_wouldFill_82 ?_
  refine x_iconst K dX7_wouldFill_85 ?_
  refine x_aload_0 K dX7_wouldFill_86 ?_
  refine x_getC K gfRX7_9 ⟨by decide, (by decide)⟩ dX7_wouldFill_87 ?_
  refine x_iconst K dX7_wouldFill_90 ?_
  refine x_sipush K dX7_wouldFill_91 rfl ?_
  refine x_copy K 0 0 345 rfl rfl rfl rfl rfl rfl ⟨by decide, by decide⟩ ⟨by decide, by decide⟩ (by omega) (by omega) lwRX7_42 g_acopy ⟨by decide, (Nat.le_of_ble_eq_true rfl)⟩ dX7_wouldFill_94 ?_
  refine gWX.eq (gAs_back h) ?_
  refine x_aload_0 K dX7_wouldFill_97 ?_
  refine x_iload_4 K dX7_wouldFill_98 ?_
  refine x_if_ge (tgt := 107) K (by omega) dX7_wouldFill_100 (by decide) (fun h100 => absurd h100 (by omega)) (fun h100 => ?_)
  refine x_iconst K dX7_wouldFill_103 ?_
  refine x_goto (tgt := 108) K dX7_wouldFill_104 (by decide) ?_
  refine x_putI K gpRX7_39 ⟨by decide, (by decide)⟩ dX7_wouldFill_108 ?_
  refine x_aload_0 K dX7_wouldFill_111 ?_
  refine x_getI K gfRX7_39 ⟨by decide, (by decide)⟩ dX7_wouldFill_112 ?_
  refine gWX.top (b := 2) rfl ?_
  refine x_if_le (tgt := 122) K (by omega) dX7_wouldFill_115 (by decide) (fun h115 => absurd h115 (by omega)) (fun h115 => ?_)
  refine x_iconst K dX7_wouldFill_118 ?_
  refine x_goto (tgt := 124) K dX7_wouldFill_119 (by decide) ?_
  exact x_iret K hE rfl dX7_wouldFill_124 (by decide) (by decide) rfl rfl
theorem c7_wouldFill {E : gE} {σ : gS} (Y : Nat → Int) (h : gMs σ Y) (hY : gY Y) (s r c : Int) (hs : -2147483648 ≤ s ∧ s < 2147483648) (hr : -2147483648 ≤ r ∧ r < 2147483648) (hc : -2147483648 ≤ c ∧ c < 2147483648) (hh : gCel Y s r c) (hz2 : zb Y s.toNat 2 = 1) (hns : zb Y s.toNat (20 + (8 * r.toNat + c.toNat)) = -1) (hst : zFill (zb Y s.toNat) (20 + (8 * r.toNat + c.toNat)) ≠ -1) : gCt E mX7_wouldFill 12 0 [rf 14 0, iv s, iv r, iv c] σ (.inl (some (iv (zFill (zb Y s.toNat) (20 + (8 * r.toNat + c.toNat)))))) (gAs σ 0) := by
  refine gCt_of (L := [some (rf 14 0), some (iv s), some (iv r), some (iv c), none, none]) (by decide +kernel) rfl rfl (Nat.le_of_ble_eq_true rfl) (fun X K hE => ?_)
  have t1 : gB1 (gCel Y s r c) = 1 := gB1_t hh
  obtain ⟨n, rfl⟩ : ∃ n : Nat, s = (n : Int) := ⟨s.toNat, by have := hh.1; omega⟩
  obtain ⟨r, rfl⟩ : ∃ r2 : Nat, r = (r2 : Int) := ⟨r.toNat, by have := hh.2.1; omega⟩
  obtain ⟨c, rfl⟩ : ∃ c2 : Nat, c = (c2 : Int) := ⟨c.toNat, by have := hh.2.2; omega⟩
  have hn : (n : Int) < Y 0 := hh.1.2
  have hY0 := hY.1
  have hz := hY.2 n hn
  have ⟨q0, q1, q2, q3, q4, q5, q6, q7, q8⟩ := hz
  have hr9 : (r : Int) < zb Y n 0 := hh.2.1.2
  have hc9 : (c : Int) < zb Y n 1 := hh.2.2.2
  have hr6 : r < 6 := by omega
  have hc8 : c < 8 := by omega
  have b5 : -1 ≤ zb Y n (20 + (8 * r + c)) ∧ zb Y n (20 + (8 * r + c)) ≤ 9 := q5 (8 * r + c) (by omega)
  have hz3 : zb Y n 2 = 1 := hz2
  have t2 : gB1 (zb Y n 2 = 1) = 1 := gB1_t hz2
  have hns2 : zb Y n (20 + (8 * r + c)) = -1 := hns
  have hob : gOb 7 Y (n : Int) 0 0 0 = 0 := by rw [gOb_7 hh.1]; exact if_neg (by show ¬ zb Y n 2 = 0; omega)
  have eF : zb (gCoY 7 Y (n : Int) 0 0 0) n (20 + (8 * r + c)) = zFill (zb Y n) (20 + (8 * r + c)) := zb_set (yF Y 4 (Y 4 + (s_fill 48 (zb Y n)).1)) n (zFill (zb Y n)) (by omega)
  have bF : -1 ≤ zFill (zb Y n) (20 + (8 * r + c)) ∧ zFill (zb Y n) (20 + (8 * r + c)) ≤ 9 := (zFill_Z hz).2.2.2.2.2.1 (8 * r + c) (by omega)
  have hst2 : zFill (zb Y n) (20 + (8 * r + c)) ≠ -1 := hst
  refine x_aload_0 K dX7_wouldFill_0 ?_
  refine x_aload_0 K dX7_wouldFill_1 ?_
  refine x_iload_1 K dX7_wouldFill_2 ?_
  refine x_iload_2 K dX7_wouldFill_3 ?_
  refine x_iload_3 K dX7_wouldFill_4 ?_
  refine x_callV3 K (c7_isCell Y h hY _ _ _ hs hr hc) mtX7_isCell miX7_isCell rc14 ⟨by decide, (by decide)⟩ lkRX7_137 ⟨by decide, by decide, by decide⟩ rfl (Nat.le_of_ble_eq_true rfl) dX7_wouldFill_5 ?_
  refine x_if_eq (tgt := 15) K (by omega) dX7_wouldFill_8 (by decide) (fun h8 => absurd h8 (by omega)) (fun h8 => ?_)
  refine x_iconst K dX7_wouldFill_11 ?_
  refine x_goto (tgt := 16) K dX7_wouldFill_12 (by decide) ?_
  refine x_putI K gpRX7_39 ⟨by decide, (by decide)⟩ dX7_wouldFill_16 ?_
  refine x_aload_0 K dX7_wouldFill_19 ?_
  refine x_getI K gfRX7_39 ⟨by decide, (by decide)⟩ dX7_wouldFill_20 ?_
  refine gWX.top (b := 0) rfl ?_
  refine x_if_le (tgt := 28) K (by omega) dX7_wouldFill_23 (by decide) (fun h23 => ?_) (fun h23 => absurd h23 (by omega))
  refine x_iconst K dX7_wouldFill_28 ?_
  refine x_istore_4 K dX7_wouldFill_29 rfl ?_
  refine x_aload_0 K dX7_wouldFill_31 ?_
  refine x_iload_1 K dX7_wouldFill_32 ?_
  refine x_callV1 K (c7_isSealed Y (gMs_u h 7 0) hY n hn) mtX7_isSealed miX7_isSealed rc14 ⟨by decide, (by decide)⟩ lkRX7_111 ⟨by decide, by decide, by decide⟩ rfl (Nat.le_of_ble_eq_true rfl) dX7_wouldFill_33 ?_
  refine x_if_eq (tgt := 97) K (by omega) dX7_wouldFill_36 (by decide) (fun h36 => absurd h36 (by omega)) (fun h36 => ?_)
  refine x_aload_0 K dX7_wouldFill_39 ?_
  refine x_iload_1 K dX7_wouldFill_40 ?_
  refine x_iload_2 K dX7_wouldFill_41 ?_
  refine x_iload_3 K dX7_wouldFill_42 ?_
  refine x_callV3 K (c7_sign1 Y (gMs_u h 7 0) n (by omega) r c hr6 hc8) mtX7_sign1 miX7_sign1 rc14 ⟨by decide, (by decide)⟩ lkRX7_88 ⟨by decide, by decide, by decide⟩ rfl (Nat.le_of_ble_eq_true rfl) dX7_wouldFill_43 ?_
  refine x_if_ge (tgt := 97) K (by omega) dX7_wouldFill_46 (by decide) (fun h46 => absurd h46 (by omega)) (fun h46 => ?_)
  refine x_aload_0 K dX7_wouldFill_49 ?_
  refine x_getC K gfRX7_9 ⟨by decide, (by decide)⟩ dX7_wouldFill_50 ?_
  refine x_iconst K dX7_wouldFill_53 ?_
  refine x_aload_0 K dX7_wouldFill_54 ?_
  refine x_getC K gfRX7_16 ⟨by decide, (by decide)⟩ dX7_wouldFill_55 ?_
  refine x_iconst K dX7_wouldFill_58 ?_
  refine x_sipush K dX7_wouldFill_59 rfl ?_
  refine x_copy K 0 0 345 rfl rfl rfl rfl rfl rfl ⟨by decide, by decide⟩ ⟨by decide, by decide⟩ (by omega) (by omega) lwRX7_42 g_acopy ⟨by decide, (Nat.le_of_ble_eq_true rfl)⟩ dX7_wouldFill_62 ?_
  refine x_aload_0 K dX7_wouldFill_65 ?_
  refine x_iload_1 K dX7_wouldFill_66 ?_
  refine x_callV1 K (c7_doFill Y (gAs_ms h) hY (n : Int) 0 0 0 hs) mtX7_doFill miX7_doFill rc14 ⟨by decide, (by decide)⟩ lkRX7_193 ⟨by decide, by decide, by decide⟩ rfl (Nat.le_of_ble_eq_true rfl) dX7_wouldFill_67 ?_
  rw [← gMO_0 hob]
  refine x_istore_5 K dX7_wouldFill_70 rfl ?_
  refine x_aload_0 K dX7_wouldFill_72 ?_
  refine x_iload_1 K dX7_wouldFill_73 ?_
  refine x_iload_2 K dX7_wouldFill_74 ?_
  refine x_iload_3 K dX7_wouldFill_75 ?_
  refine x_callV3 K (c7_sign1 (gCoY 7 Y (n : Int) 0 0 0) (gMp_ms _ _) n (by omega) r c hr6 hc8) mtX7_sign1 miX7_sign1 rc14 ⟨by decide, (by decide)⟩ lkRX7_88 ⟨by decide, by decide, by decide⟩ rfl (Nat.le_of_ble_eq_true rfl) dX7_wouldFill_76 ?_
  refine gWX.top (b := zFill (zb Y n) (20 + (8 * r + c))) eF ?_
  refine x_istore_4 K dX7_wouldFill_79 rfl ?_
  refine x_aload_0 K dX7_wouldFill_81 ?_
  refine x_getC K gfRX7_16 ⟨by decide, (by decide)⟩ dX7_wouldFill_82 ?_
  refine x_iconst K dX7_wouldFill_85 ?_
  refine x_aload_0 K dX7_wouldFill_86 ?_
  refine x_getC K gfRX7_9 ⟨by decide, (by decide)⟩ dX7_wouldFill_87 ?_
  refine x_iconst K dX7_wouldFill_90 ?_
  refine x_sipush K dX7_wouldFill_91 rfl ?_
  refine x_copy K 0 0 345 rfl rfl rfl rfl rfl rfl ⟨by decide, by decide⟩ ⟨by decide, by decide⟩ (by omega) (by omega) lwRX7_42 g_acopy ⟨by decide, (Nat.le_of_ble_eq_true rfl)⟩ dX7_wouldFill_94 ?_
  refine gWX.eq (gAs_back h) ?_
  refine x_aload_0 K dX7_wouldFill_97 ?_
  refine x_iload_4 K dX7_wouldFill_98 ?_
  refine x_if_ge (tgt := 107) K (by omega) dX7_wouldFill_100 (by decide) (fun h100 => ?_) (fun h100 => absurd h100 (by omega))
  refine x_iconst K dX7_wouldFill_107 ?_
  refine x_putI K gpRX7_39 ⟨by decide, (by decide)⟩ dX7_wouldFill_108 ?_
  refine x_aload_0 K dX7_wouldFill_111 ?_
  refine x_getI K gfRX7_39 ⟨by decide, (by decide)⟩ dX7_wouldFill_112 ?_
  refine gWX.top (b := 0) rfl ?_
  refine x_if_le (tgt := 122) K (by omega) dX7_wouldFill_115 (by decide) (fun h115 => ?_) (fun h115 => absurd h115 (by omega))
  refine x_iload_4 K dX7_wouldFill_122 ?_
  exact x_iret K hE rfl dX7_wouldFill_124 (by decide) (by decide) rfl rfl
