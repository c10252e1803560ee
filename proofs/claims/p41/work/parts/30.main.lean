/-! ===== ScrollChecks: what only reads ===== -/
abbrev gRow (Y : Nat → Int) (s r : Int) : Prop := gHit Y s ∧ 0 ≤ r ∧ r < zb Y s.toNat 0
abbrev gCol (Y : Nat → Int) (s c : Int) : Prop := gHit Y s ∧ 0 ≤ c ∧ c < zb Y s.toNat 1
abbrev gCel (Y : Nat → Int) (s r c : Int) : Prop := gHit Y s ∧ (0 ≤ r ∧ r < zb Y s.toNat 0) ∧ 0 ≤ c ∧ c < zb Y s.toNat 1
theorem c6_existing {E : gE} {σ : gS} (Y : Nat → Int) (h : gSh σ 0 Y) (hY : gY Y) (s : Int) (hh : gHit Y s) : gCt E mX6_existing 8 0 [rf 0 0, iv s] σ (.inl (some (rf 3 (5 * 0 + s.toNat)))) σ := by
  refine gCt_of (L := [some (rf 0 0), some (iv s), none]) (by decide +kernel) rfl rfl (Nat.le_of_ble_eq_true rfl) (fun X K hE => ?_)
  have hi : 5 * 0 + s.toNat < 56 := by have := hY.1; omega
  refine x_aload_0 K dX6_existing_0 ?_
  refine x_getC K gfRX6_12 ⟨by decide, (by decide)⟩ dX6_existing_1 ?_
  refine x_iload_1 K dX6_existing_4 ?_
  refine x_callV1 K (c5_find 0 (by omega) Y h hY s hh) mtX5_find miX5_find rc1 ⟨by decide, (by decide)⟩ lkRX6_329 ⟨by decide, by decide, by decide⟩ rfl (Nat.le_of_ble_eq_true rfl) dX6_existing_5 ?_
  refine x_astore_2 K dX6_existing_8 rfl ?_
  refine x_aload_2 K dX6_existing_9 ?_
  refine x_ifnonnull (tgt := 24) K dX6_existing_10 (by decide) ?_
  refine x_aload_2 K dX6_existing_24 ?_
  exact x_aret K hE rfl dX6_existing_25 (by decide) (by decide) rfl rfl
theorem c6_existing_x {E : gE} {σ : gS} (Y : Nat → Int) (h : gSh σ 0 Y) (hY : gY Y) (s : Int) (hs : -2147483648 ≤ s ∧ s < 2147483648) (hh : ¬ gHit Y s) : gCt E mX6_existing 8 1 [rf 0 0, iv s] σ (.inr "java/lang/IndexOutOfBoundsException") σ := by
  refine gCt_of (L := [some (rf 0 0), some (iv s), none]) (by decide +kernel) rfl rfl (Nat.le_of_ble_eq_true rfl) (fun X K hE => ?_)
  refine x_aload_0 K dX6_existing_0 ?_
  refine x_getC K gfRX6_12 ⟨by decide, (by decide)⟩ dX6_existing_1 ?_
  refine x_iload_1 K dX6_existing_4 ?_
  refine x_callV1 K (c5_findN 0 (by omega) Y h hY s hs hh) mtX5_find miX5_find rc1 ⟨by decide, (by decide)⟩ lkRX6_329 ⟨by decide, by decide, by decide⟩ rfl (Nat.le_of_ble_eq_true rfl) dX6_existing_5 ?_
  refine x_astorez_2 K dX6_existing_8 rfl ?_
  refine x_aloadz_2 K dX6_existing_9 ?_
  refine x_ifnonnullN K dX6_existing_10 ?_
  exact x_throww K gThr_IndexOutOfBoundsException gTxt_332 hE rfl ⟨by decide, (Nat.le_of_ble_eq_true rfl)⟩ (by decide) (by decide) dX6_existing_13 dX6_existing_16 dX6_existing_17 dX6_existing_20 dX6_existing_23
theorem c6_withRow {E : gE} {σ : gS} (Y : Nat → Int) (h : gSh σ 0 Y) (hY : gY Y) (s r : Int) (hr : -2147483648 ≤ r ∧ r < 2147483648) (hh : gRow Y s r) : gCt E mX6_withRow 9 0 [rf 0 0, iv s, iv r] σ (.inl (some (rf 3 (5 * 0 + s.toNat)))) σ := by
  refine gCt_of (L := [some (rf 0 0), some (iv s), some (iv r), none]) (by decide +kernel) rfl rfl (Nat.le_of_ble_eq_true rfl) (fun X K hE => ?_)
  have hY0 := hY.1
  have hi : 5 * 0 + s.toNat < 56 := by omega
  have hz := hY.2 s.toNat (by omega)
  have hgs := h.2 s.toNat (by omega)
  have ⟨e0, e1, e2, e3, e4, e5, es, eb, em, et⟩ := hgs
  have ⟨z0, z1, z2, z3, _⟩ := hz
  have bb := gB1_bd (0 ≤ r ∧ r < σ.1 3 (5 * 0 + s.toNat) 4)
  refine x_aload_0 K dX6_withRow_0 ?_
  refine x_iload_1 K dX6_withRow_1 ?_
  refine x_callV1 K (c6_existing Y h hY s hh.1) mtX6_existing miX6_existing rc0 ⟨by decide, (by decide)⟩ lkRX6_64 ⟨by decide, by decide, by decide⟩ rfl (Nat.le_of_ble_eq_true rfl) dX6_withRow_2 ?_
  refine x_astore_3 K dX6_withRow_5 rfl ?_
  refine x_aload_3 K dX6_withRow_6 ?_
  refine x_iload_2 K dX6_withRow_7 ?_
  refine x_callV1 K (c4_hasRow (5 * 0 + s.toNat) hi r hr (by rw [e0]; omega)) mtX4_hasRow miX4_hasRow rc3 ⟨by decide, hi⟩ lkRX6_334 ⟨by decide, by decide, by decide⟩ rfl (Nat.le_of_ble_eq_true rfl) dX6_withRow_8 ?_
  refine x_if_ne (tgt := 25) K (by omega) dX6_withRow_11 (by decide) (fun h11 => ?_) (fun h11 => absurd h11 (fun q => by rw [e0, gB1_t hh.2] at q; omega))
  refine x_aload_3 K dX6_withRow_25 ?_
  exact x_aret K hE rfl dX6_withRow_26 (by decide) (by decide) rfl rfl
theorem c6_withRow_x {E : gE} {σ : gS} (Y : Nat → Int) (h : gSh σ 0 Y) (hY : gY Y) (s r : Int) (hs : -2147483648 ≤ s ∧ s < 2147483648) (hr : -2147483648 ≤ r ∧ r < 2147483648) (hh : ¬ gRow Y s r) : gCt E mX6_withRow 9 1 [rf 0 0, iv s, iv r] σ (.inr "java/lang/IndexOutOfBoundsException") σ := by
  refine gCt_of (L := [some (rf 0 0), some (iv s), some (iv r), none]) (by decide +kernel) rfl rfl (Nat.le_of_ble_eq_true rfl) (fun X K hE => ?_)
  by_cases h1 : gHit Y s
  · have hY0 := hY.1
    have hi : 5 * 0 + s.toNat < 56 := by omega
    have hz := hY.2 s.toNat (by omega)
    have hgs := h.2 s.toNat (by omega)
    have ⟨e0, e1, e2, e3, e4, e5, es, eb, em, et⟩ := hgs
    have ⟨z0, z1, z2, z3, _⟩ := hz
    have bb := gB1_bd (0 ≤ r ∧ r < σ.1 3 (5 * 0 + s.toNat) 4)
    refine x_aload_0 K dX6_withRow_0 ?_
    refine x_iload_1 K dX6_withRow_1 ?_
    refine x_callV1 K (c6_existing Y h hY s h1) mtX6_existing miX6_existing rc0 ⟨by decide, (by decide)⟩ lkRX6_64 ⟨by decide, by decide, by decide⟩ rfl (Nat.le_of_ble_eq_true rfl) dX6_withRow_2 ?_
    refine x_astore_3 K dX6_withRow_5 rfl ?_
    refine x_aload_3 K dX6_withRow_6 ?_
    refine x_iload_2 K dX6_withRow_7 ?_
    refine x_callV1 K (c4_hasRow (5 * 0 + s.toNat) hi r hr (by rw [e0]; omega)) mtX4_hasRow miX4_hasRow rc3 ⟨by decide, hi⟩ lkRX6_334 ⟨by decide, by decide, by decide⟩ rfl (Nat.le_of_ble_eq_true rfl) dX6_withRow_8 ?_
    refine x_if_ne (tgt := 25) K (by omega) dX6_withRow_11 (by decide) (fun h11 => absurd (gB1_f (fun q => hh ⟨h1, by rw [e0] at q; exact q⟩)) h11) (fun h11 => ?_)
    exact x_throww K gThr_IndexOutOfBoundsException gTxt_338 hE rfl ⟨by decide, (Nat.le_of_ble_eq_true rfl)⟩ (by decide) (by decide) dX6_withRow_14 dX6_withRow_17 dX6_withRow_18 dX6_withRow_21 dX6_withRow_24
  · refine x_aload_0 K dX6_withRow_0 ?_
    refine x_iload_1 K dX6_withRow_1 ?_
    refine x_callV1x K (c6_existing_x Y h hY s hs h1) mtX6_existing miX6_existing rc0 ⟨by decide, (by decide)⟩ lkRX6_64 ⟨by decide, by decide, by decide⟩ rfl (Nat.le_of_ble_eq_true rfl) dX6_withRow_2 hE
theorem c6_withColumn {E : gE} {σ : gS} (Y : Nat → Int) (h : gSh σ 0 Y) (hY : gY Y) (s c : Int) (hc : -2147483648 ≤ c ∧ c < 2147483648) (hh : gCol Y s c) : gCt E mX6_withColumn 9 0 [rf 0 0, iv s, iv c] σ (.inl (some (rf 3 (5 * 0 + s.toNat)))) σ := by
  refine gCt_of (L := [some (rf 0 0), some (iv s), some (iv c), none]) (by decide +kernel) rfl rfl (Nat.le_of_ble_eq_true rfl) (fun X K hE => ?_)
  have hY0 := hY.1
  have hi : 5 * 0 + s.toNat < 56 := by omega
  have hz := hY.2 s.toNat (by omega)
  have hgs := h.2 s.toNat (by omega)
  have ⟨e0, e1, e2, e3, e4, e5, es, eb, em, et⟩ := hgs
  have ⟨z0, z1, z2, z3, _⟩ := hz
  have bb := gB1_bd (0 ≤ c ∧ c < σ.1 3 (5 * 0 + s.toNat) 5)
  refine x_aload_0 K dX6_withColumn_0 ?_
  refine x_iload_1 K dX6_withColumn_1 ?_
  refine x_callV1 K (c6_existing Y h hY s hh.1) mtX6_existing miX6_existing rc0 ⟨by decide, (by decide)⟩ lkRX6_64 ⟨by decide, by decide, by decide⟩ rfl (Nat.le_of_ble_eq_true rfl) dX6_withColumn_2 ?_
  refine x_astore_3 K dX6_withColumn_5 rfl ?_
  refine x_aload_3 K dX6_withColumn_6 ?_
  refine x_iload_2 K dX6_withColumn_7 ?_
  refine x_callV1 K (c4_hasColumn (5 * 0 + s.toNat) hi c hc (by rw [e1]; omega)) mtX4_hasColumn miX4_hasColumn rc3 ⟨by decide, hi⟩ lkRX6_340 ⟨by decide, by decide, by decide⟩ rfl (Nat.le_of_ble_eq_true rfl) dX6_withColumn_8 ?_
  refine x_if_ne (tgt := 25) K (by omega) dX6_withColumn_11 (by decide) (fun h11 => ?_) (fun h11 => absurd h11 (fun q => by rw [e1, gB1_t hh.2] at q; omega))
  refine x_aload_3 K dX6_withColumn_25 ?_
  exact x_aret K hE rfl dX6_withColumn_26 (by decide) (by decide) rfl rfl
theorem c6_withColumn_x {E : gE} {σ : gS} (Y : Nat → Int) (h : gSh σ 0 Y) (hY : gY Y) (s c : Int) (hs : -2147483648 ≤ s ∧ s < 2147483648) (hc : -2147483648 ≤ c ∧ c < 2147483648) (hh : ¬ gCol Y s c) : gCt E mX6_withColumn 9 1 [rf 0 0, iv s, iv c] σ (.inr "java/lang/IndexOutOfBoundsException") σ := by
  refine gCt_of (L := [some (rf 0 0), some (iv s), some (iv c), none]) (by decide +kernel) rfl rfl (Nat.le_of_ble_eq_true rfl) (fun X K hE => ?_)
  by_cases h1 : gHit Y s
  · have hY0 := hY.1
    have hi : 5 * 0 + s.toNat < 56 := by omega
    have hz := hY.2 s.toNat (by omega)
    have hgs := h.2 s.toNat (by omega)
    have ⟨e0, e1, e2, e3, e4, e5, es, eb, em, et⟩ := hgs
    have ⟨z0, z1, z2, z3, _⟩ := hz
    have bb := gB1_bd (0 ≤ c ∧ c < σ.1 3 (5 * 0 + s.toNat) 5)
    refine x_aload_0 K dX6_withColumn_0 ?_
    refine x_iload_1 K dX6_withColumn_1 ?_
    refine x_callV1 K (c6_existing Y h hY s h1) mtX6_existing miX6_existing rc0 ⟨by decide, (by decide)⟩ lkRX6_64 ⟨by decide, by decide, by decide⟩ rfl (Nat.le_of_ble_eq_true rfl) dX6_withColumn_2 ?_
    refine x_astore_3 K dX6_withColumn_5 rfl ?_
    refine x_aload_3 K dX6_withColumn_6 ?_
    refine x_iload_2 K dX6_withColumn_7 ?_
    refine x_callV1 K (c4_hasColumn (5 * 0 + s.toNat) hi c hc (by rw [e1]; omega)) mtX4_hasColumn miX4_hasColumn rc3 ⟨by decide, hi⟩ lkRX6_340 ⟨by decide, by decide, by decide⟩ rfl (Nat.le_of_ble_eq_true rfl) dX6_withColumn_8 ?_
    refine x_if_ne (tgt := 25) K (by omega) dX6_withColumn_11 (by decide) (fun h11 => absurd (gB1_f (fun q => hh ⟨h1, by rw [e1] at q; exact q⟩)) h11) (fun h11 => ?_)
    exact x_throww K gThr_IndexOutOfBoundsException gTxt_343 hE rfl ⟨by decide, (Nat.le_of_ble_eq_true rfl)⟩ (by decide) (by decide) dX6_withColumn_14 dX6_withColumn_17 dX6_withColumn_18 dX6_withColumn_21 dX6_withColumn_24
  · refine x_aload_0 K dX6_withColumn_0 ?_
    refine x_iload_1 K dX6_withColumn_1 ?_
    refine x_callV1x K (c6_existing_x Y h hY s hs h1) mtX6_existing miX6_existing rc0 ⟨by decide, (by decide)⟩ lkRX6_64 ⟨by decide, by decide, by decide⟩ rfl (Nat.le_of_ble_eq_true rfl) dX6_withColumn_2 hE
theorem c6_withCell {E : gE} {σ : gS} (Y : Nat → Int) (h : gSh σ 0 Y) (hY : gY Y) (s r c : Int) (hr : -2147483648 ≤ r ∧ r < 2147483648) (hc : -2147483648 ≤ c ∧ c < 2147483648) (hh : gCel Y s r c) : gCt E mX6_withCell 9 0 [rf 0 0, iv s, iv r, iv c] σ (.inl (some (rf 3 (5 * 0 + s.toNat)))) σ := by
  refine gCt_of (L := [some (rf 0 0), some (iv s), some (iv r), some (iv c), none]) (by decide +kernel) rfl rfl (Nat.le_of_ble_eq_true rfl) (fun X K hE => ?_)
  have hY0 := hY.1
  have hi : 5 * 0 + s.toNat < 56 := by omega
  have hz := hY.2 s.toNat (by omega)
  have hgs := h.2 s.toNat (by omega)
  have ⟨e0, e1, e2, e3, e4, e5, es, eb, em, et⟩ := hgs
  have ⟨z0, z1, z2, z3, _⟩ := hz
  have bb := gB1_bd ((0 ≤ r ∧ r < σ.1 3 (5 * 0 + s.toNat) 4) ∧ 0 ≤ c ∧ c < σ.1 3 (5 * 0 + s.toNat) 5)
  refine x_aload_0 K dX6_withCell_0 ?_
  refine x_iload_1 K dX6_withCell_1 ?_
  refine x_callV1 K (c6_existing Y h hY s hh.1) mtX6_existing miX6_existing rc0 ⟨by decide, (by decide)⟩ lkRX6_64 ⟨by decide, by decide, by decide⟩ rfl (Nat.le_of_ble_eq_true rfl) dX6_withCell_2 ?_
  refine x_astore_4 K dX6_withCell_5 rfl ?_
  refine x_aload_4 K dX6_withCell_7 ?_
  refine x_iload_2 K dX6_withCell_9 ?_
  refine x_iload_3 K dX6_withCell_10 ?_
  refine x_callV2 K (c4_hasCell (5 * 0 + s.toNat) hi r c hr hc (by rw [e0]; omega) (by rw [e1]; omega)) mtX4_hasCell miX4_hasCell rc3 ⟨by decide, hi⟩ lkRX6_345 ⟨by decide, by decide, by decide⟩ rfl (Nat.le_of_ble_eq_true rfl) dX6_withCell_11 ?_
  refine x_if_ne (tgt := 28) K (by omega) dX6_withCell_14 (by decide) (fun h14 => ?_) (fun h14 => absurd h14 (fun q => by rw [e0, e1, gB1_t hh.2] at q; omega))
  refine x_aload_4 K dX6_withCell_28 ?_
  exact x_aret K hE rfl dX6_withCell_30 (by decide) (by decide) rfl rfl
theorem c6_withCell_x {E : gE} {σ : gS} (Y : Nat → Int) (h : gSh σ 0 Y) (hY : gY Y) (s r c : Int) (hs : -2147483648 ≤ s ∧ s < 2147483648) (hr : -2147483648 ≤ r ∧ r < 2147483648) (hc : -2147483648 ≤ c ∧ c < 2147483648) (hh : ¬ gCel Y s r c) : gCt E mX6_withCell 9 1 [rf 0 0, iv s, iv r, iv c] σ (.inr "java/lang/IndexOutOfBoundsException") σ := by
  refine gCt_of (L := [some (rf 0 0), some (iv s), some (iv r), some (iv c), none]) (by decide +kernel) rfl rfl (Nat.le_of_ble_eq_true rfl) (fun X K hE => ?_)
  by_cases h1 : gHit Y s
  · have hY0 := hY.1
    have hi : 5 * 0 + s.toNat < 56 := by omega
    have hz := hY.2 s.toNat (by omega)
    have hgs := h.2 s.toNat (by omega)
    have ⟨e0, e1, e2, e3, e4, e5, es, eb, em, et⟩ := hgs
    have ⟨z0, z1, z2, z3, _⟩ := hz
    have bb := gB1_bd ((0 ≤ r ∧ r < σ.1 3 (5 * 0 + s.toNat) 4) ∧ 0 ≤ c ∧ c < σ.1 3 (5 * 0 + s.toNat) 5)
    refine x_aload_0 K dX6_withCell_0 ?_
    refine x_iload_1 K dX6_withCell_1 ?_
    refine x_callV1 K (c6_existing Y h hY s h1) mtX6_existing miX6_existing rc0 ⟨by decide, (by decide)⟩ lkRX6_64 ⟨by decide, by decide, by decide⟩ rfl (Nat.le_of_ble_eq_true rfl) dX6_withCell_2 ?_
    refine x_astore_4 K dX6_withCell_5 rfl ?_
    refine x_aload_4 K dX6_withCell_7 ?_
    refine x_iload_2 K dX6_withCell_9 ?_
    refine x_iload_3 K dX6_withCell_10 ?_
    refine x_callV2 K (c4_hasCell (5 * 0 + s.toNat) hi r c hr hc (by rw [e0]; omega) (by rw [e1]; omega)) mtX4_hasCell miX4_hasCell rc3 ⟨by decide, hi⟩ lkRX6_345 ⟨by decide, by decide, by decide⟩ rfl (Nat.le_of_ble_eq_true rfl) dX6_withCell_11 ?_
    refine x_if_ne (tgt := 28) K (by omega) dX6_withCell_14 (by decide) (fun h14 => absurd (gB1_f (fun q => hh ⟨h1, by rw [e0, e1] at q; exact q⟩)) h14) (fun h14 => ?_)
    exact x_throww K gThr_IndexOutOfBoundsException gTxt_348 hE rfl ⟨by decide, (Nat.le_of_ble_eq_true rfl)⟩ (by decide) (by decide) dX6_withCell_17 dX6_withCell_20 dX6_withCell_21 dX6_withCell_24 dX6_withCell_27
  · refine x_aload_0 K dX6_withCell_0 ?_
    refine x_iload_1 K dX6_withCell_1 ?_
    refine x_callV1x K (c6_existing_x Y h hY s hs h1) mtX6_existing miX6_existing rc0 ⟨by decide, (by decide)⟩ lkRX6_64 ⟨by decide, by decide, by decide⟩ rfl (Nat.le_of_ble_eq_true rfl) dX6_withCell_2 hE
theorem c6_onlySealed {E : gE} {σ : gS} (i : Nat) (hi : i < 56) (hz2 : σ.1 3 i 6 = 1) : gCt E mX6_onlySealed 8 0 [rf 3 i] σ (.inl (some (rf 3 i))) σ := by
  refine gCt_of (L := [some (rf 3 i)]) (by decide +kernel) rfl rfl (Nat.le_of_ble_eq_true rfl) (fun X K hE => ?_)
  refine x_aload_0 K dX6_onlySealed_0 ?_
  refine x_getI K gfRX6_74 ⟨by decide, hi⟩ dX6_onlySealed_1 ?_
  refine x_if_ne (tgt := 18) K (by omega) dX6_onlySealed_4 (by decide) (fun h4 => ?_) (fun h4 => absurd h4 (by omega))
  refine x_aload_0 K dX6_onlySealed_18 ?_
  exact x_aret K hE rfl dX6_onlySealed_19 (by decide) (by decide) rfl rfl
theorem c6_onlySealed_x {E : gE} {σ : gS} (i : Nat) (hi : i < 56) (hz2 : σ.1 3 i 6 = 0) : gCt E mX6_onlySealed 8 1 [rf 3 i] σ (.inr "java/util/NoSuchElementException") σ := by
  refine gCt_of (L := [some (rf 3 i)]) (by decide +kernel) rfl rfl (Nat.le_of_ble_eq_true rfl) (fun X K hE => ?_)
  refine x_aload_0 K dX6_onlySealed_0 ?_
  refine x_getI K gfRX6_74 ⟨by decide, hi⟩ dX6_onlySealed_1 ?_
  refine x_if_ne (tgt := 18) K (by omega) dX6_onlySealed_4 (by decide) (fun h4 => absurd hz2 h4) (fun h4 => ?_)
  exact x_throwwN K gThN gTxt_350 hE rfl ⟨by decide, (Nat.le_of_ble_eq_true rfl)⟩ (by decide) (by decide) dX6_onlySealed_7 dX6_onlySealed_10 dX6_onlySealed_11 dX6_onlySealed_14 dX6_onlySealed_17
theorem c6_rowSum {E : gE} {σ : gS} (Y : Nat → Int) (h : gSh σ 0 Y) (hY : gY Y) (s r : Int) (hs : -2147483648 ≤ s ∧ s < 2147483648) (hr : -2147483648 ≤ r ∧ r < 2147483648) (hh : gRow Y s r) (hz2 : zb Y s.toNat 2 = 1) : gCt E mX6_rowSum 12 0 [rf 0 0, iv s, iv r] σ (.inl (some (iv (zb Y s.toNat (6 + r.toNat))))) σ := by
  refine gCt_of (L := [some (rf 0 0), some (iv s), some (iv r)]) (by decide +kernel) rfl rfl (Nat.le_of_ble_eq_true rfl) (fun X K hE => ?_)
  have hY0 := hY.1
  have hhit := hh.1
  have hi : 5 * 0 + s.toNat < 56 := by omega
  have hz := hY.2 s.toNat (by omega)
  have hgs := h.2 s.toNat (by omega)
  have ⟨e0, e1, e2, e3, e4, e5, es, eb, em, et⟩ := hgs
  have ⟨z0, z1, z2, z3, _⟩ := hz
  have hz6 : σ.1 3 (5 * 0 + s.toNat) 6 = 1 := e2.trans hz2
  obtain ⟨r, rfl⟩ : ∃ r2 : Nat, r = (r2 : Int) := ⟨r.toNat, by omega⟩
  refine x_aload_0 K dX6_rowSum_0 ?_
  refine x_iload_1 K dX6_rowSum_1 ?_
  refine x_iload_2 K dX6_rowSum_2 ?_
  refine x_callV2 K (c6_withRow Y h hY s r hr hh) mtX6_withRow miX6_withRow rc0 ⟨by decide, (by decide)⟩ lkRX6_121 ⟨by decide, by decide, by decide⟩ rfl (Nat.le_of_ble_eq_true rfl) dX6_rowSum_3 ?_
  refine x_callS1 K (c6_onlySealed (5 * 0 + s.toNat) hi hz6) mtX6_onlySealed msX6_onlySealed lkRX6_125 ⟨by decide, by decide, by decide⟩ rfl (Nat.le_of_ble_eq_true rfl) dX6_rowSum_6 ?_
  refine x_iload_2 K dX6_rowSum_9 ?_
  refine x_callV1 K (c4_toldSum (5 * 0 + s.toNat) hi r (by omega)) mtX4_toldSum miX4_toldSum rc3 ⟨by decide, hi⟩ lkRX6_129 ⟨by decide, by decide, by decide⟩ rfl (Nat.le_of_ble_eq_true rfl) dX6_rowSum_10 ?_
  exact x_iret K hE rfl dX6_rowSum_13 (by decide) (by decide) (et r (by omega)) rfl
theorem c6_rowSum_1 {E : gE} {σ : gS} (Y : Nat → Int) (h : gSh σ 0 Y) (hY : gY Y) (s r : Int) (hs : -2147483648 ≤ s ∧ s < 2147483648) (hr : -2147483648 ≤ r ∧ r < 2147483648) (hh : ¬ gRow Y s r) : gCt E mX6_rowSum 12 1 [rf 0 0, iv s, iv r] σ (.inr "java/lang/IndexOutOfBoundsException") σ := by
  refine gCt_of (L := [some (rf 0 0), some (iv s), some (iv r)]) (by decide +kernel) rfl rfl (Nat.le_of_ble_eq_true rfl) (fun X K hE => ?_)
  refine x_aload_0 K dX6_rowSum_0 ?_
  refine x_iload_1 K dX6_rowSum_1 ?_
  refine x_iload_2 K dX6_rowSum_2 ?_
  refine x_callV2x K (c6_withRow_x Y h hY s r hs hr hh) mtX6_withRow miX6_withRow rc0 ⟨by decide, (by decide)⟩ lkRX6_121 ⟨by decide, by decide, by decide⟩ rfl (Nat.le_of_ble_eq_true rfl) dX6_rowSum_3 hE
theorem c6_rowSum_2 {E : gE} {σ : gS} (Y : Nat → Int) (h : gSh σ 0 Y) (hY : gY Y) (s r : Int) (hs : -2147483648 ≤ s ∧ s < 2147483648) (hr : -2147483648 ≤ r ∧ r < 2147483648) (hh : gRow Y s r) (hz2 : zb Y s.toNat 2 = 0) : gCt E mX6_rowSum 12 1 [rf 0 0, iv s, iv r] σ (.inr "java/util/NoSuchElementException") σ := by
  refine gCt_of (L := [some (rf 0 0), some (iv s), some (iv r)]) (by decide +kernel) rfl rfl (Nat.le_of_ble_eq_true rfl) (fun X K hE => ?_)
  have hY0 := hY.1
  have hhit := hh.1
  have hi : 5 * 0 + s.toNat < 56 := by omega
  have hz := hY.2 s.toNat (by omega)
  have hgs := h.2 s.toNat (by omega)
  have ⟨e0, e1, e2, e3, e4, e5, es, eb, em, et⟩ := hgs
  have ⟨z0, z1, z2, z3, _⟩ := hz
  have hz6 : σ.1 3 (5 * 0 + s.toNat) 6 = 0 := e2.trans hz2
  refine x_aload_0 K dX6_rowSum_0 ?_
  refine x_iload_1 K dX6_rowSum_1 ?_
  refine x_iload_2 K dX6_rowSum_2 ?_
  refine x_callV2 K (c6_withRow Y h hY s r hr hh) mtX6_withRow miX6_withRow rc0 ⟨by decide, (by decide)⟩ lkRX6_121 ⟨by decide, by decide, by decide⟩ rfl (Nat.le_of_ble_eq_true rfl) dX6_rowSum_3 ?_
  refine x_callS1x K (c6_onlySealed_x (5 * 0 + s.toNat) hi hz6) mtX6_onlySealed msX6_onlySealed lkRX6_125 ⟨by decide, by decide, by decide⟩ rfl (Nat.le_of_ble_eq_true rfl) dX6_rowSum_6 hE
theorem c6_columnSum {E : gE} {σ : gS} (Y : Nat → Int) (h : gSh σ 0 Y) (hY : gY Y) (s c : Int) (hs : -2147483648 ≤ s ∧ s < 2147483648) (hc : -2147483648 ≤ c ∧ c < 2147483648) (hh : gCol Y s c) (hz2 : zb Y s.toNat 2 = 1) : gCt E mX6_columnSum 12 0 [rf 0 0, iv s, iv c] σ (.inl (some (iv (zb Y s.toNat (6 + (6 + c.toNat)))))) σ := by
  refine gCt_of (L := [some (rf 0 0), some (iv s), some (iv c)]) (by decide +kernel) rfl rfl (Nat.le_of_ble_eq_true rfl) (fun X K hE => ?_)
  have hY0 := hY.1
  have hhit := hh.1
  have hi : 5 * 0 + s.toNat < 56 := by omega
  have hz := hY.2 s.toNat (by omega)
  have hgs := h.2 s.toNat (by omega)
  have ⟨e0, e1, e2, e3, e4, e5, es, eb, em, et⟩ := hgs
  have ⟨z0, z1, z2, z3, _⟩ := hz
  have hz6 : σ.1 3 (5 * 0 + s.toNat) 6 = 1 := e2.trans hz2
  obtain ⟨c, rfl⟩ : ∃ c2 : Nat, c = (c2 : Int) := ⟨c.toNat, by omega⟩
  refine x_aload_0 K dX6_columnSum_0 ?_
  refine x_iload_1 K dX6_columnSum_1 ?_
  refine x_iload_2 K dX6_columnSum_2 ?_
  refine x_callV2 K (c6_withColumn Y h hY s c hc hh) mtX6_withColumn miX6_withColumn rc0 ⟨by decide, (by decide)⟩ lkRX6_133 ⟨by decide, by decide, by decide⟩ rfl (Nat.le_of_ble_eq_true rfl) dX6_columnSum_3 ?_
  refine x_callS1 K (c6_onlySealed (5 * 0 + s.toNat) hi hz6) mtX6_onlySealed msX6_onlySealed lkRX6_125 ⟨by decide, by decide, by decide⟩ rfl (Nat.le_of_ble_eq_true rfl) dX6_columnSum_6 ?_
  refine x_bipush K dX6_columnSum_9 rfl ?_
  refine x_iload_2 K dX6_columnSum_11 ?_
  refine x_iadd K dX6_columnSum_12 ?_
  refine gWX.top (b := ((6 + c : Nat) : Int)) (by omega) ?_
  refine x_callV1 K (c4_toldSum (5 * 0 + s.toNat) hi (6 + c) (by omega)) mtX4_toldSum miX4_toldSum rc3 ⟨by decide, hi⟩ lkRX6_129 ⟨by decide, by decide, by decide⟩ rfl (Nat.le_of_ble_eq_true rfl) dX6_columnSum_13 ?_
  exact x_iret K hE rfl dX6_columnSum_16 (by decide) (by decide) (et (6 + c) (by omega)) rfl
theorem c6_columnSum_1 {E : gE} {σ : gS} (Y : Nat → Int) (h : gSh σ 0 Y) (hY : gY Y) (s c : Int) (hs : -2147483648 ≤ s ∧ s < 2147483648) (hc : -2147483648 ≤ c ∧ c < 2147483648) (hh : ¬ gCol Y s c) : gCt E mX6_columnSum 12 1 [rf 0 0, iv s, iv c] σ (.inr "java/lang/IndexOutOfBoundsException") σ := by
  refine gCt_of (L := [some (rf 0 0), some (iv s), some (iv c)]) (by decide +kernel) rfl rfl (Nat.le_of_ble_eq_true rfl) (fun X K hE => ?_)
  refine x_aload_0 K dX6_columnSum_0 ?_
  refine x_iload_1 K dX6_columnSum_1 ?_
  refine x_iload_2 K dX6_columnSum_2 ?_
  refine x_callV2x K (c6_withColumn_x Y h hY s c hs hc hh) mtX6_withColumn miX6_withColumn rc0 ⟨by decide, (by decide)⟩ lkRX6_133 ⟨by decide, by decide, by decide⟩ rfl (Nat.le_of_ble_eq_true rfl) dX6_columnSum_3 hE
theorem c6_columnSum_2 {E : gE} {σ : gS} (Y : Nat → Int) (h : gSh σ 0 Y) (hY : gY Y) (s c : Int) (hs : -2147483648 ≤ s ∧ s < 2147483648) (hc : -2147483648 ≤ c ∧ c < 2147483648) (hh : gCol Y s c) (hz2 : zb Y s.toNat 2 = 0) : gCt E mX6_columnSum 12 1 [rf 0 0, iv s, iv c] σ (.inr "java/util/NoSuchElementException") σ := by
  refine gCt_of (L := [some (rf 0 0), some (iv s), some (iv c)]) (by decide +kernel) rfl rfl (Nat.le_of_ble_eq_true rfl) (fun X K hE => ?_)
  have hY0 := hY.1
  have hhit := hh.1
  have hi : 5 * 0 + s.toNat < 56 := by omega
  have hz := hY.2 s.toNat (by omega)
  have hgs := h.2 s.toNat (by omega)
  have ⟨e0, e1, e2, e3, e4, e5, es, eb, em, et⟩ := hgs
  have ⟨z0, z1, z2, z3, _⟩ := hz
  have hz6 : σ.1 3 (5 * 0 + s.toNat) 6 = 0 := e2.trans hz2
  refine x_aload_0 K dX6_columnSum_0 ?_
  refine x_iload_1 K dX6_columnSum_1 ?_
  refine x_iload_2 K dX6_columnSum_2 ?_
  refine x_callV2 K (c6_withColumn Y h hY s c hc hh) mtX6_withColumn miX6_withColumn rc0 ⟨by decide, (by decide)⟩ lkRX6_133 ⟨by decide, by decide, by decide⟩ rfl (Nat.le_of_ble_eq_true rfl) dX6_columnSum_3 ?_
  refine x_callS1x K (c6_onlySealed_x (5 * 0 + s.toNat) hi hz6) mtX6_onlySealed msX6_onlySealed lkRX6_125 ⟨by decide, by decide, by decide⟩ rfl (Nat.le_of_ble_eq_true rfl) dX6_columnSum_6 hE
theorem c6_rowFault {E : gE} {σ : gS} (Y : Nat → Int) (h : gSh σ 0 Y) (hY : gY Y) (s r : Int) (hs : -2147483648 ≤ s ∧ s < 2147483648) (hr : -2147483648 ≤ r ∧ r < 2147483648) (hh : gRow Y s r) (hz2 : zb Y s.toNat 2 = 1) : gCt E mX6_rowFault 12 0 [rf 0 0, iv s, iv r] σ (.inl (some (iv (s_f (zb Y s.toNat) r.toNat)))) σ := by
  refine gCt_of (L := [some (rf 0 0), some (iv s), some (iv r)]) (by decide +kernel) rfl rfl (Nat.le_of_ble_eq_true rfl) (fun X K hE => ?_)
  have hY0 := hY.1
  have hhit := hh.1
  have hi : 5 * 0 + s.toNat < 56 := by omega
  have hz := hY.2 s.toNat (by omega)
  have hgs := h.2 s.toNat (by omega)
  have ⟨e0, e1, e2, e3, e4, e5, es, eb, em, et⟩ := hgs
  have ⟨z0, z1, z2, z3, _⟩ := hz
  have hz6 : σ.1 3 (5 * 0 + s.toNat) 6 = 1 := e2.trans hz2
  obtain ⟨r, rfl⟩ : ∃ r2 : Nat, r = (r2 : Int) := ⟨r.toNat, by omega⟩
  refine x_aload_0 K dX6_rowFault_0 ?_
  refine x_iload_1 K dX6_rowFault_1 ?_
  refine x_iload_2 K dX6_rowFault_2 ?_
  refine x_callV2 K (c6_withRow Y h hY s r hr hh) mtX6_withRow miX6_withRow rc0 ⟨by decide, (by decide)⟩ lkRX6_121 ⟨by decide, by decide, by decide⟩ rfl (Nat.le_of_ble_eq_true rfl) dX6_rowFault_3 ?_
  refine x_callS1 K (c6_onlySealed (5 * 0 + s.toNat) hi hz6) mtX6_onlySealed msX6_onlySealed lkRX6_125 ⟨by decide, by decide, by decide⟩ rfl (Nat.le_of_ble_eq_true rfl) dX6_rowFault_6 ?_
  refine x_iload_2 K dX6_rowFault_9 ?_
  refine x_callV1 K (c4_fault (5 * 0 + s.toNat) hi (zb Y s.toNat) hgs hz r (by omega)) mtX4_fault miX4_fault rc3 ⟨by decide, hi⟩ lkRX6_136 ⟨by decide, by decide, by decide⟩ rfl (Nat.le_of_ble_eq_true rfl) dX6_rowFault_10 ?_
  exact x_iret K hE rfl dX6_rowFault_13 (by decide) (by decide) rfl rfl
theorem c6_rowFault_1 {E : gE} {σ : gS} (Y : Nat → Int) (h : gSh σ 0 Y) (hY : gY Y) (s r : Int) (hs : -2147483648 ≤ s ∧ s < 2147483648) (hr : -2147483648 ≤ r ∧ r < 2147483648) (hh : ¬ gRow Y s r) : gCt E mX6_rowFault 12 1 [rf 0 0, iv s, iv r] σ (.inr "java/lang/IndexOutOfBoundsException") σ := by
  refine gCt_of (L := [some (rf 0 0), some (iv s), some (iv r)]) (by decide +kernel) rfl rfl (Nat.le_of_ble_eq_true rfl) (fun X K hE => ?_)
  refine x_aload_0 K dX6_rowFault_0 ?_
  refine x_iload_1 K dX6_rowFault_1 ?_
  refine x_iload_2 K dX6_rowFault_2 ?_
  refine x_callV2x K (c6_withRow_x Y h hY s r hs hr hh) mtX6_withRow miX6_withRow rc0 ⟨by decide, (by decide)⟩ lkRX6_121 ⟨by decide, by decide, by decide⟩ rfl (Nat.le_of_ble_eq_true rfl) dX6_rowFault_3 hE
theorem c6_rowFault_2 {E : gE} {σ : gS} (Y : Nat → Int) (h : gSh σ 0 Y) (hY : gY Y) (s r : Int) (hs : -2147483648 ≤ s ∧ s < 2147483648) (hr : -2147483648 ≤ r ∧ r < 2147483648) (hh : gRow Y s r) (hz2 : zb Y s.toNat 2 = 0) : gCt E mX6_rowFault 12 1 [rf 0 0, iv s, iv r] σ (.inr "java/util/NoSuchElementException") σ := by
  refine gCt_of (L := [some (rf 0 0), some (iv s), some (iv r)]) (by decide +kernel) rfl rfl (Nat.le_of_ble_eq_true rfl) (fun X K hE => ?_)
  have hY0 := hY.1
  have hhit := hh.1
  have hi : 5 * 0 + s.toNat < 56 := by omega
  have hz := hY.2 s.toNat (by omega)
  have hgs := h.2 s.toNat (by omega)
  have ⟨e0, e1, e2, e3, e4, e5, es, eb, em, et⟩ := hgs
  have ⟨z0, z1, z2, z3, _⟩ := hz
  have hz6 : σ.1 3 (5 * 0 + s.toNat) 6 = 0 := e2.trans hz2
  refine x_aload_0 K dX6_rowFault_0 ?_
  refine x_iload_1 K dX6_rowFault_1 ?_
  refine x_iload_2 K dX6_rowFault_2 ?_
  refine x_callV2 K (c6_withRow Y h hY s r hr hh) mtX6_withRow miX6_withRow rc0 ⟨by decide, (by decide)⟩ lkRX6_121 ⟨by decide, by decide, by decide⟩ rfl (Nat.le_of_ble_eq_true rfl) dX6_rowFault_3 ?_
  refine x_callS1x K (c6_onlySealed_x (5 * 0 + s.toNat) hi hz6) mtX6_onlySealed msX6_onlySealed lkRX6_125 ⟨by decide, by decide, by decide⟩ rfl (Nat.le_of_ble_eq_true rfl) dX6_rowFault_6 hE
theorem c6_columnFault {E : gE} {σ : gS} (Y : Nat → Int) (h : gSh σ 0 Y) (hY : gY Y) (s c : Int) (hs : -2147483648 ≤ s ∧ s < 2147483648) (hc : -2147483648 ≤ c ∧ c < 2147483648) (hh : gCol Y s c) (hz2 : zb Y s.toNat 2 = 1) : gCt E mX6_columnFault 12 0 [rf 0 0, iv s, iv c] σ (.inl (some (iv (s_f (zb Y s.toNat) (6 + c.toNat))))) σ := by
  refine gCt_of (L := [some (rf 0 0), some (iv s), some (iv c)]) (by decide +kernel) rfl rfl (Nat.le_of_ble_eq_true rfl) (fun X K hE => ?_)
  have hY0 := hY.1
  have hhit := hh.1
  have hi : 5 * 0 + s.toNat < 56 := by omega
  have hz := hY.2 s.toNat (by omega)
  have hgs := h.2 s.toNat (by omega)
  have ⟨e0, e1, e2, e3, e4, e5, es, eb, em, et⟩ := hgs
  have ⟨z0, z1, z2, z3, _⟩ := hz
  have hz6 : σ.1 3 (5 * 0 + s.toNat) 6 = 1 := e2.trans hz2
  obtain ⟨c, rfl⟩ : ∃ c2 : Nat, c = (c2 : Int) := ⟨c.toNat, by omega⟩
  refine x_aload_0 K dX6_columnFault_0 ?_
  refine x_iload_1 K dX6_columnFault_1 ?_
  refine x_iload_2 K dX6_columnFault_2 ?_
  refine x_callV2 K (c6_withColumn Y h hY s c hc hh) mtX6_withColumn miX6_withColumn rc0 ⟨by decide, (by decide)⟩ lkRX6_133 ⟨by decide, by decide, by decide⟩ rfl (Nat.le_of_ble_eq_true rfl) dX6_columnFault_3 ?_
  refine x_callS1 K (c6_onlySealed (5 * 0 + s.toNat) hi hz6) mtX6_onlySealed msX6_onlySealed lkRX6_125 ⟨by decide, by decide, by decide⟩ rfl (Nat.le_of_ble_eq_true rfl) dX6_columnFault_6 ?_
  refine x_bipush K dX6_columnFault_9 rfl ?_
  refine x_iload_2 K dX6_columnFault_11 ?_
  refine x_iadd K dX6_columnFault_12 ?_
  refine gWX.top (b := ((6 + c : Nat) : Int)) (by omega) ?_
  refine x_callV1 K (c4_fault (5 * 0 + s.toNat) hi (zb Y s.toNat) hgs hz (6 + c) (by omega)) mtX4_fault miX4_fault rc3 ⟨by decide, hi⟩ lkRX6_136 ⟨by decide, by decide, by decide⟩ rfl (Nat.le_of_ble_eq_true rfl) dX6_columnFault_13 ?_
  exact x_iret K hE rfl dX6_columnFault_16 (by decide) (by decide) rfl rfl
theorem c6_columnFault_1 {E : gE} {σ : gS} (Y : Nat → Int) (h : gSh σ 0 Y) (hY : gY Y) (s c : Int) (hs : -2147483648 ≤ s ∧ s < 2147483648) (hc : -2147483648 ≤ c ∧ c < 2147483648) (hh : ¬ gCol Y s c) : gCt E mX6_columnFault 12 1 [rf 0 0, iv s, iv c] σ (.inr "java/lang/IndexOutOfBoundsException") σ := by
  refine gCt_of (L := [some (rf 0 0), some (iv s), some (iv c)]) (by decide +kernel) rfl rfl (Nat.le_of_ble_eq_true rfl) (fun X K hE => ?_)
  refine x_aload_0 K dX6_columnFault_0 ?_
  refine x_iload_1 K dX6_columnFault_1 ?_
  refine x_iload_2 K dX6_columnFault_2 ?_
  refine x_callV2x K (c6_withColumn_x Y h hY s c hs hc hh) mtX6_withColumn miX6_withColumn rc0 ⟨by decide, (by decide)⟩ lkRX6_133 ⟨by decide, by decide, by decide⟩ rfl (Nat.le_of_ble_eq_true rfl) dX6_columnFault_3 hE
theorem c6_columnFault_2 {E : gE} {σ : gS} (Y : Nat → Int) (h : gSh σ 0 Y) (hY : gY Y) (s c : Int) (hs : -2147483648 ≤ s ∧ s < 2147483648) (hc : -2147483648 ≤ c ∧ c < 2147483648) (hh : gCol Y s c) (hz2 : zb Y s.toNat 2 = 0) : gCt E mX6_columnFault 12 1 [rf 0 0, iv s, iv c] σ (.inr "java/util/NoSuchElementException") σ := by
  refine gCt_of (L := [some (rf 0 0), some (iv s), some (iv c)]) (by decide +kernel) rfl rfl (Nat.le_of_ble_eq_true rfl) (fun X K hE => ?_)
  have hY0 := hY.1
  have hhit := hh.1
  have hi : 5 * 0 + s.toNat < 56 := by omega
  have hz := hY.2 s.toNat (by omega)
  have hgs := h.2 s.toNat (by omega)
  have ⟨e0, e1, e2, e3, e4, e5, es, eb, em, et⟩ := hgs
  have ⟨z0, z1, z2, z3, _⟩ := hz
  have hz6 : σ.1 3 (5 * 0 + s.toNat) 6 = 0 := e2.trans hz2
  refine x_aload_0 K dX6_columnFault_0 ?_
  refine x_iload_1 K dX6_columnFault_1 ?_
  refine x_iload_2 K dX6_columnFault_2 ?_
  refine x_callV2 K (c6_withColumn Y h hY s c hc hh) mtX6_withColumn miX6_withColumn rc0 ⟨by decide, (by decide)⟩ lkRX6_133 ⟨by decide, by decide, by decide⟩ rfl (Nat.le_of_ble_eq_true rfl) dX6_columnFault_3 ?_
  refine x_callS1x K (c6_onlySealed_x (5 * 0 + s.toNat) hi hz6) mtX6_onlySealed msX6_onlySealed lkRX6_125 ⟨by decide, by decide, by decide⟩ rfl (Nat.le_of_ble_eq_true rfl) dX6_columnFault_6 hE
theorem c6_wrongRows {E : gE} {σ : gS} (Y : Nat → Int) (h : gSh σ 0 Y) (hY : gY Y) (s : Int) (hs : -2147483648 ≤ s ∧ s < 2147483648) (hh : gHit Y s) (hz2 : zb Y s.toNat 2 = 1) : gCt E mX6_wrongRows 12 0 [rf 0 0, iv s] σ (.inl (some (iv (s_wr (zb Y s.toNat))))) σ := by
  refine gCt_of (L := [some (rf 0 0), some (iv s)]) (by decide +kernel) rfl rfl (Nat.le_of_ble_eq_true rfl) (fun X K hE => ?_)
  have hY0 := hY.1
  have hi : 5 * 0 + s.toNat < 56 := by omega
  have hz := hY.2 s.toNat (by omega)
  have hgs := h.2 s.toNat (by omega)
  have ⟨e0, e1, e2, e3, e4, e5, es, eb, em, et⟩ := hgs
  have ⟨z0, z1, z2, z3, _⟩ := hz
  have hz6 : σ.1 3 (5 * 0 + s.toNat) 6 = 1 := e2.trans hz2
  refine x_aload_0 K dX6_wrongRows_0 ?_
  refine x_iload_1 K dX6_wrongRows_1 ?_
  refine x_callV1 K (c6_existing Y h hY s hh) mtX6_existing miX6_existing rc0 ⟨by decide, (by decide)⟩ lkRX6_64 ⟨by decide, by decide, by decide⟩ rfl (Nat.le_of_ble_eq_true rfl) dX6_wrongRows_2 ?_
  refine x_callS1 K (c6_onlySealed (5 * 0 + s.toNat) hi hz6) mtX6_onlySealed msX6_onlySealed lkRX6_125 ⟨by decide, by decide, by decide⟩ rfl (Nat.le_of_ble_eq_true rfl) dX6_wrongRows_5 ?_
  refine x_callV0 K (c4_rowsWrong (5 * 0 + s.toNat) hi (zb Y s.toNat) hgs hz) mtX4_rowsWrong miX4_rowsWrong rc3 ⟨by decide, hi⟩ lkRX6_139 ⟨by decide, by decide, by decide⟩ rfl (Nat.le_of_ble_eq_true rfl) dX6_wrongRows_8 ?_
  exact x_iret K hE rfl dX6_wrongRows_11 (by decide) (by decide) rfl rfl
theorem c6_wrongRows_1 {E : gE} {σ : gS} (Y : Nat → Int) (h : gSh σ 0 Y) (hY : gY Y) (s : Int) (hs : -2147483648 ≤ s ∧ s < 2147483648) (hh : ¬ gHit Y s) : gCt E mX6_wrongRows 12 1 [rf 0 0, iv s] σ (.inr "java/lang/IndexOutOfBoundsException") σ := by
  refine gCt_of (L := [some (rf 0 0), some (iv s)]) (by decide +kernel) rfl rfl (Nat.le_of_ble_eq_true rfl) (fun X K hE => ?_)
  refine x_aload_0 K dX6_wrongRows_0 ?_
  refine x_iload_1 K dX6_wrongRows_1 ?_
  refine x_callV1x K (c6_existing_x Y h hY s hs hh) mtX6_existing miX6_existing rc0 ⟨by decide, (by decide)⟩ lkRX6_64 ⟨by decide, by decide, by decide⟩ rfl (Nat.le_of_ble_eq_true rfl) dX6_wrongRows_2 hE
theorem c6_wrongRows_2 {E : gE} {σ : gS} (Y : Nat → Int) (h : gSh σ 0 Y) (hY : gY Y) (s : Int) (hs : -2147483648 ≤ s ∧ s < 2147483648) (hh : gHit Y s) (hz2 : zb Y s.toNat 2 = 0) : gCt E mX6_wrongRows 12 1 [rf 0 0, iv s] σ (.inr "java/util/NoSuchElementException") σ := by
  refine gCt_of (L := [some (rf 0 0), some (iv s)]) (by decide +kernel) rfl rfl (Nat.le_of_ble_eq_true rfl) (fun X K hE => ?_)
  have hY0 := hY.1
  have hi : 5 * 0 + s.toNat < 56 := by omega
  have hz := hY.2 s.toNat (by omega)
  have hgs := h.2 s.toNat (by omega)
  have ⟨e0, e1, e2, e3, e4, e5, es, eb, em, et⟩ := hgs
  have ⟨z0, z1, z2, z3, _⟩ := hz
  have hz6 : σ.1 3 (5 * 0 + s.toNat) 6 = 0 := e2.trans hz2
  refine x_aload_0 K dX6_wrongRows_0 ?_
  refine x_iload_1 K dX6_wrongRows_1 ?_
  refine x_callV1 K (c6_existing Y h hY s hh) mtX6_existing miX6_existing rc0 ⟨by decide, (by decide)⟩ lkRX6_64 ⟨by decide, by decide, by decide⟩ rfl (Nat.le_of_ble_eq_true rfl) dX6_wrongRows_2 ?_
  refine x_callS1x K (c6_onlySealed_x (5 * 0 + s.toNat) hi hz6) mtX6_onlySealed msX6_onlySealed lkRX6_125 ⟨by decide, by decide, by decide⟩ rfl (Nat.le_of_ble_eq_true rfl) dX6_wrongRows_5 hE
theorem c6_wrongColumns {E : gE} {σ : gS} (Y : Nat → Int) (h : gSh σ 0 Y) (hY : gY Y) (s : Int) (hs : -2147483648 ≤ s ∧ s < 2147483648) (hh : gHit Y s) (hz2 : zb Y s.toNat 2 = 1) : gCt E mX6_wrongColumns 12 0 [rf 0 0, iv s] σ (.inl (some (iv (s_wc (zb Y s.toNat))))) σ := by
  refine gCt_of (L := [some (rf 0 0), some (iv s)]) (by decide +kernel) rfl rfl (Nat.le_of_ble_eq_true rfl) (fun X K hE => ?_)
  have hY0 := hY.1
  have hi : 5 * 0 + s.toNat < 56 := by omega
  have hz := hY.2 s.toNat (by omega)
  have hgs := h.2 s.toNat (by omega)
  have ⟨e0, e1, e2, e3, e4, e5, es, eb, em, et⟩ := hgs
  have ⟨z0, z1, z2, z3, _⟩ := hz
  have hz6 : σ.1 3 (5 * 0 + s.toNat) 6 = 1 := e2.trans hz2
  refine x_aload_0 K dX6_wrongColumns_0 ?_
  refine x_iload_1 K dX6_wrongColumns_1 ?_
  refine x_callV1 K (c6_existing Y h hY s hh) mtX6_existing miX6_existing rc0 ⟨by decide, (by decide)⟩ lkRX6_64 ⟨by decide, by decide, by decide⟩ rfl (Nat.le_of_ble_eq_true rfl) dX6_wrongColumns_2 ?_
  refine x_callS1 K (c6_onlySealed (5 * 0 + s.toNat) hi hz6) mtX6_onlySealed msX6_onlySealed lkRX6_125 ⟨by decide, by decide, by decide⟩ rfl (Nat.le_of_ble_eq_true rfl) dX6_wrongColumns_5 ?_
  refine x_callV0 K (c4_columnsWrong (5 * 0 + s.toNat) hi (zb Y s.toNat) hgs hz) mtX4_columnsWrong miX4_columnsWrong rc3 ⟨by decide, hi⟩ lkRX6_142 ⟨by decide, by decide, by decide⟩ rfl (Nat.le_of_ble_eq_true rfl) dX6_wrongColumns_8 ?_
  exact x_iret K hE rfl dX6_wrongColumns_11 (by decide) (by decide) rfl rfl
theorem c6_wrongColumns_1 {E : gE} {σ : gS} (Y : Nat → Int) (h : gSh σ 0 Y) (hY : gY Y) (s : Int) (hs : -2147483648 ≤ s ∧ s < 2147483648) (hh : ¬ gHit Y s) : gCt E mX6_wrongColumns 12 1 [rf 0 0, iv s] σ (.inr "java/lang/IndexOutOfBoundsException") σ := by
  refine gCt_of (L := [some (rf 0 0), some (iv s)]) (by decide +kernel) rfl rfl (Nat.le_of_ble_eq_true rfl) (fun X K hE => ?_)
  refine x_aload_0 K dX6_wrongColumns_0 ?_
  refine x_iload_1 K dX6_wrongColumns_1 ?_
  refine x_callV1x K (c6_existing_x Y h hY s hs hh) mtX6_existing miX6_existing rc0 ⟨by decide, (by decide)⟩ lkRX6_64 ⟨by decide, by decide, by decide⟩ rfl (Nat.le_of_ble_eq_true rfl) dX6_wrongColumns_2 hE
theorem c6_wrongColumns_2 {E : gE} {σ : gS} (Y : Nat → Int) (h : gSh σ 0 Y) (hY : gY Y) (s : Int) (hs : -2147483648 ≤ s ∧ s < 2147483648) (hh : gHit Y s) (hz2 : zb Y s.toNat 2 = 0) : gCt E mX6_wrongColumns 12 1 [rf 0 0, iv s] σ (.inr "java/util/NoSuchElementException") σ := by
  refine gCt_of (L := [some (rf 0 0), some (iv s)]) (by decide +kernel) rfl rfl (Nat.le_of_ble_eq_true rfl) (fun X K hE => ?_)
  have hY0 := hY.1
  have hi : 5 * 0 + s.toNat < 56 := by omega
  have hz := hY.2 s.toNat (by omega)
  have hgs := h.2 s.toNat (by omega)
  have ⟨e0, e1, e2, e3, e4, e5, es, eb, em, et⟩ := hgs
  have ⟨z0, z1, z2, z3, _⟩ := hz
  have hz6 : σ.1 3 (5 * 0 + s.toNat) 6 = 0 := e2.trans hz2
  refine x_aload_0 K dX6_wrongColumns_0 ?_
  refine x_iload_1 K dX6_wrongColumns_1 ?_
  refine x_callV1 K (c6_existing Y h hY s hh) mtX6_existing miX6_existing rc0 ⟨by decide, (by decide)⟩ lkRX6_64 ⟨by decide, by decide, by decide⟩ rfl (Nat.le_of_ble_eq_true rfl) dX6_wrongColumns_2 ?_
  refine x_callS1x K (c6_onlySealed_x (5 * 0 + s.toNat) hi hz6) mtX6_onlySealed msX6_onlySealed lkRX6_125 ⟨by decide, by decide, by decide⟩ rfl (Nat.le_of_ble_eq_true rfl) dX6_wrongColumns_5 hE
theorem c6_signAt {E : gE} {σ : gS} (Y : Nat → Int) (h : gSh σ 0 Y) (hY : gY Y) (s r c : Int) (hs : -2147483648 ≤ s ∧ s < 2147483648) (hr : -2147483648 ≤ r ∧ r < 2147483648) (hc : -2147483648 ≤ c ∧ c < 2147483648) (hh : gCel Y s r c) : gCt E mX6_signAt 12 0 [rf 0 0, iv s, iv r, iv c] σ (.inl (some (iv (zb Y s.toNat (20 + (8 * r.toNat + c.toNat)))))) σ := by
  refine gCt_of (L := [some (rf 0 0), some (iv s), some (iv r), some (iv c)]) (by decide +kernel) rfl rfl (Nat.le_of_ble_eq_true rfl) (fun X K hE => ?_)
  have hY0 := hY.1
  have hhit := hh.1
  have hi : 5 * 0 + s.toNat < 56 := by omega
  have hz := hY.2 s.toNat (by omega)
  have hgs := h.2 s.toNat (by omega)
  have ⟨e0, e1, e2, e3, e4, e5, es, eb, em, et⟩ := hgs
  have ⟨z0, z1, z2, z3, _⟩ := hz
  obtain ⟨r, rfl⟩ : ∃ r2 : Nat, r = (r2 : Int) := ⟨r.toNat, by omega⟩
  obtain ⟨c, rfl⟩ : ∃ c2 : Nat, c = (c2 : Int) := ⟨c.toNat, by omega⟩
  refine x_aload_0 K dX6_signAt_0 ?_
  refine x_iload_1 K dX6_signAt_1 ?_
  refine x_iload_2 K dX6_signAt_2 ?_
  refine x_iload_3 K dX6_signAt_3 ?_
  refine x_callV3 K (c6_withCell Y h hY s r c hr hc hh) mtX6_withCell miX6_withCell rc0 ⟨by decide, (by decide)⟩ lkRX6_101 ⟨by decide, by decide, by decide⟩ rfl (Nat.le_of_ble_eq_true rfl) dX6_signAt_4 ?_
  refine x_iload_2 K dX6_signAt_7 ?_
  refine x_iload_3 K dX6_signAt_8 ?_
  refine x_callV2 K (c4_sign (5 * 0 + s.toNat) hi r c (by omega) (by omega)) mtX4_sign miX4_sign rc3 ⟨by decide, hi⟩ lkRX6_105 ⟨by decide, by decide, by decide⟩ rfl (Nat.le_of_ble_eq_true rfl) dX6_signAt_9 ?_
  exact x_iret K hE rfl dX6_signAt_12 (by decide) (by decide) (es _ (by omega)) rfl
theorem c6_signAt_1 {E : gE} {σ : gS} (Y : Nat → Int) (h : gSh σ 0 Y) (hY : gY Y) (s r c : Int) (hs : -2147483648 ≤ s ∧ s < 2147483648) (hr : -2147483648 ≤ r ∧ r < 2147483648) (hc : -2147483648 ≤ c ∧ c < 2147483648) (hh : ¬ gCel Y s r c) : gCt E mX6_signAt 12 1 [rf 0 0, iv s, iv r, iv c] σ (.inr "java/lang/IndexOutOfBoundsException") σ := by
  refine gCt_of (L := [some (rf 0 0), some (iv s), some (iv r), some (iv c)]) (by decide +kernel) rfl rfl (Nat.le_of_ble_eq_true rfl) (fun X K hE => ?_)
  refine x_aload_0 K dX6_signAt_0 ?_
  refine x_iload_1 K dX6_signAt_1 ?_
  refine x_iload_2 K dX6_signAt_2 ?_
  refine x_iload_3 K dX6_signAt_3 ?_
  refine x_callV3x K (c6_withCell_x Y h hY s r c hs hr hc hh) mtX6_withCell miX6_withCell rc0 ⟨by decide, (by decide)⟩ lkRX6_101 ⟨by decide, by decide, by decide⟩ rfl (Nat.le_of_ble_eq_true rfl) dX6_signAt_4 hE
theorem c6_isInDoubt {E : gE} {σ : gS} (Y : Nat → Int) (h : gSh σ 0 Y) (hY : gY Y) (s r c : Int) (hs : -2147483648 ≤ s ∧ s < 2147483648) (hr : -2147483648 ≤ r ∧ r < 2147483648) (hc : -2147483648 ≤ c ∧ c < 2147483648) (hh : gCel Y s r c) : gCt E mX6_isInDoubt 12 0 [rf 0 0, iv s, iv r, iv c] σ (.inl (some (iv (gB1 (s_df (zb Y s.toNat) r.toNat c.toNat = true))))) σ := by
  refine gCt_of (L := [some (rf 0 0), some (iv s), some (iv r), some (iv c)]) (by decide +kernel) rfl rfl (Nat.le_of_ble_eq_true rfl) (fun X K hE => ?_)
  have hY0 := hY.1
  have hhit := hh.1
  have hi : 5 * 0 + s.toNat < 56 := by omega
  have hz := hY.2 s.toNat (by omega)
  have hgs := h.2 s.toNat (by omega)
  have ⟨e0, e1, e2, e3, e4, e5, es, eb, em, et⟩ := hgs
  have ⟨z0, z1, z2, z3, _⟩ := hz
  obtain ⟨r, rfl⟩ : ∃ r2 : Nat, r = (r2 : Int) := ⟨r.toNat, by omega⟩
  obtain ⟨c, rfl⟩ : ∃ c2 : Nat, c = (c2 : Int) := ⟨c.toNat, by omega⟩
  refine x_aload_0 K dX6_isInDoubt_0 ?_
  refine x_iload_1 K dX6_isInDoubt_1 ?_
  refine x_iload_2 K dX6_isInDoubt_2 ?_
  refine x_iload_3 K dX6_isInDoubt_3 ?_
  refine x_callV3 K (c6_withCell Y h hY s r c hr hc hh) mtX6_withCell miX6_withCell rc0 ⟨by decide, (by decide)⟩ lkRX6_101 ⟨by decide, by decide, by decide⟩ rfl (Nat.le_of_ble_eq_true rfl) dX6_isInDoubt_4 ?_
  refine x_iload_2 K dX6_isInDoubt_7 ?_
  refine x_iload_3 K dX6_isInDoubt_8 ?_
  refine x_callV2 K (c4_isDoubtful (5 * 0 + s.toNat) hi (zb Y s.toNat) hgs hz r c (by omega) (by omega)) mtX4_isDoubtful miX4_isDoubtful rc3 ⟨by decide, hi⟩ lkRX6_145 ⟨by decide, by decide, by decide⟩ rfl (Nat.le_of_ble_eq_true rfl) dX6_isInDoubt_9 ?_
  have bb := gB1_bd (s_df (zb Y s.toNat) r c = true)
  exact x_zret K hE rfl dX6_isInDoubt_12 (by decide) (by decide) (by omega) rfl rfl
theorem c6_isInDoubt_1 {E : gE} {σ : gS} (Y : Nat → Int) (h : gSh σ 0 Y) (hY : gY Y) (s r c : Int) (hs : -2147483648 ≤ s ∧ s < 2147483648) (hr : -2147483648 ≤ r ∧ r < 2147483648) (hc : -2147483648 ≤ c ∧ c < 2147483648) (hh : ¬ gCel Y s r c) : gCt E mX6_isInDoubt 12 1 [rf 0 0, iv s, iv r, iv c] σ (.inr "java/lang/IndexOutOfBoundsException") σ := by
  refine gCt_of (L := [some (rf 0 0), some (iv s), some (iv r), some (iv c)]) (by decide +kernel) rfl rfl (Nat.le_of_ble_eq_true rfl) (fun X K hE => ?_)
  refine x_aload_0 K dX6_isInDoubt_0 ?_
  refine x_iload_1 K dX6_isInDoubt_1 ?_
  refine x_iload_2 K dX6_isInDoubt_2 ?_
  refine x_iload_3 K dX6_isInDoubt_3 ?_
  refine x_callV3x K (c6_withCell_x Y h hY s r c hs hr hc hh) mtX6_withCell miX6_withCell rc0 ⟨by decide, (by decide)⟩ lkRX6_101 ⟨by decide, by decide, by decide⟩ rfl (Nat.le_of_ble_eq_true rfl) dX6_isInDoubt_4 hE
theorem c6_doubts {E : gE} {σ : gS} (Y : Nat → Int) (h : gSh σ 0 Y) (hY : gY Y) (s : Int) (hs : -2147483648 ≤ s ∧ s < 2147483648) (hh : gHit Y s) : gCt E mX6_doubts 12 0 [rf 0 0, iv s] σ (.inl (some (iv (s_db (zb Y s.toNat))))) σ := by
  refine gCt_of (L := [some (rf 0 0), some (iv s)]) (by decide +kernel) rfl rfl (Nat.le_of_ble_eq_true rfl) (fun X K hE => ?_)
  have hY0 := hY.1
  have hi : 5 * 0 + s.toNat < 56 := by omega
  have hz := hY.2 s.toNat (by omega)
  have hgs := h.2 s.toNat (by omega)
  have ⟨e0, e1, e2, e3, e4, e5, es, eb, em, et⟩ := hgs
  have ⟨z0, z1, z2, z3, _⟩ := hz
  refine x_aload_0 K dX6_doubts_0 ?_
  refine x_iload_1 K dX6_doubts_1 ?_
  refine x_callV1 K (c6_existing Y h hY s hh) mtX6_existing miX6_existing rc0 ⟨by decide, (by decide)⟩ lkRX6_64 ⟨by decide, by decide, by decide⟩ rfl (Nat.le_of_ble_eq_true rfl) dX6_doubts_2 ?_
  refine x_callV0 K (c4_doubtsByCell (5 * 0 + s.toNat) hi (zb Y s.toNat) hgs hz) mtX4_doubtsByCell miX4_doubtsByCell rc3 ⟨by decide, hi⟩ lkRX6_149 ⟨by decide, by decide, by decide⟩ rfl (Nat.le_of_ble_eq_true rfl) dX6_doubts_5 ?_
  exact x_iret K hE rfl dX6_doubts_8 (by decide) (by decide) rfl rfl
theorem c6_doubts_1 {E : gE} {σ : gS} (Y : Nat → Int) (h : gSh σ 0 Y) (hY : gY Y) (s : Int) (hs : -2147483648 ≤ s ∧ s < 2147483648) (hh : ¬ gHit Y s) : gCt E mX6_doubts 12 1 [rf 0 0, iv s] σ (.inr "java/lang/IndexOutOfBoundsException") σ := by
  refine gCt_of (L := [some (rf 0 0), some (iv s)]) (by decide +kernel) rfl rfl (Nat.le_of_ble_eq_true rfl) (fun X K hE => ?_)
  refine x_aload_0 K dX6_doubts_0 ?_
  refine x_iload_1 K dX6_doubts_1 ?_
  refine x_callV1x K (c6_existing_x Y h hY s hs hh) mtX6_existing miX6_existing rc0 ⟨by decide, (by decide)⟩ lkRX6_64 ⟨by decide, by decide, by decide⟩ rfl (Nat.le_of_ble_eq_true rfl) dX6_doubts_2 hE
theorem c6_doubtsAgain {E : gE} {σ : gS} (Y : Nat → Int) (h : gSh σ 0 Y) (hY : gY Y) (s : Int) (hs : -2147483648 ≤ s ∧ s < 2147483648) (hh : gHit Y s) : gCt E mX6_doubtsAgain 12 0 [rf 0 0, iv s] σ (.inl (some (iv (s_dp (zb Y s.toNat))))) σ := by
  refine gCt_of (L := [some (rf 0 0), some (iv s)]) (by decide +kernel) rfl rfl (Nat.le_of_ble_eq_true rfl) (fun X K hE => ?_)
  have hY0 := hY.1
  have hi : 5 * 0 + s.toNat < 56 := by omega
  have hz := hY.2 s.toNat (by omega)
  have hgs := h.2 s.toNat (by omega)
  have ⟨e0, e1, e2, e3, e4, e5, es, eb, em, et⟩ := hgs
  have ⟨z0, z1, z2, z3, _⟩ := hz
  refine x_aload_0 K dX6_doubtsAgain_0 ?_
  refine x_iload_1 K dX6_doubtsAgain_1 ?_
  refine x_callV1 K (c6_existing Y h hY s hh) mtX6_existing miX6_existing rc0 ⟨by decide, (by decide)⟩ lkRX6_64 ⟨by decide, by decide, by decide⟩ rfl (Nat.le_of_ble_eq_true rfl) dX6_doubtsAgain_2 ?_
  refine x_callV0 K (c4_doubtsByProduct (5 * 0 + s.toNat) hi (zb Y s.toNat) hgs hz) mtX4_doubtsByProduct miX4_doubtsByProduct rc3 ⟨by decide, hi⟩ lkRX6_152 ⟨by decide, by decide, by decide⟩ rfl (Nat.le_of_ble_eq_true rfl) dX6_doubtsAgain_5 ?_
  exact x_iret K hE rfl dX6_doubtsAgain_8 (by decide) (by decide) rfl rfl
theorem c6_doubtsAgain_1 {E : gE} {σ : gS} (Y : Nat → Int) (h : gSh σ 0 Y) (hY : gY Y) (s : Int) (hs : -2147483648 ≤ s ∧ s < 2147483648) (hh : ¬ gHit Y s) : gCt E mX6_doubtsAgain 12 1 [rf 0 0, iv s] σ (.inr "java/lang/IndexOutOfBoundsException") σ := by
  refine gCt_of (L := [some (rf 0 0), some (iv s)]) (by decide +kernel) rfl rfl (Nat.le_of_ble_eq_true rfl) (fun X K hE => ?_)
  refine x_aload_0 K dX6_doubtsAgain_0 ?_
  refine x_iload_1 K dX6_doubtsAgain_1 ?_
  refine x_callV1x K (c6_existing_x Y h hY s hs hh) mtX6_existing miX6_existing rc0 ⟨by decide, (by decide)⟩ lkRX6_64 ⟨by decide, by decide, by decide⟩ rfl (Nat.le_of_ble_eq_true rfl) dX6_doubtsAgain_2 hE
theorem c6_scrollOf_1 {E : gE} {σ : gS} (Y : Nat → Int) (h : gSh σ 0 Y) (hY : gY Y) (s k : Int) (hs : -2147483648 ≤ s ∧ s < 2147483648) (hk : -2147483648 ≤ k ∧ k < 2147483648) (hh : ¬ gHit Y s) : gCt E mX6_scrollOf 12 1 [rf 0 0, iv s, iv k] σ (.inr "java/lang/IndexOutOfBoundsException") σ := by
  refine gCt_of (L := [some (rf 0 0), some (iv s), some (iv k), none]) (by decide +kernel) rfl rfl (Nat.le_of_ble_eq_true rfl) (fun X K hE => ?_)
  refine x_aload_0 K dX6_scrollOf_0 ?_
  refine x_iload_1 K dX6_scrollOf_1 ?_
  refine x_callV1x K (c6_existing_x Y h hY s hs hh) mtX6_existing miX6_existing rc0 ⟨by decide, (by decide)⟩ lkRX6_64 ⟨by decide, by decide, by decide⟩ rfl (Nat.le_of_ble_eq_true rfl) dX6_scrollOf_2 hE
theorem c6_scrollOf_2 {E : gE} {σ : gS} (Y : Nat → Int) (h : gSh σ 0 Y) (hY : gY Y) (s k : Int) (hs : -2147483648 ≤ s ∧ s < 2147483648) (hk : -2147483648 ≤ k ∧ k < 2147483648) (hh : gHit Y s) (hk2 : ¬ (0 ≤ k ∧ k ≤ 6)) : gCt E mX6_scrollOf 12 1 [rf 0 0, iv s, iv k] σ (.inr "java/lang/IllegalArgumentException") σ := by
  refine gCt_of (L := [some (rf 0 0), some (iv s), some (iv k), none]) (by decide +kernel) rfl rfl (Nat.le_of_ble_eq_true rfl) (fun X K hE => ?_)
  have hY0 := hY.1
  have hi : 5 * 0 + s.toNat < 56 := by omega
  have hz := hY.2 s.toNat (by omega)
  have hgs := h.2 s.toNat (by omega)
  have ⟨e0, e1, e2, e3, e4, e5, es, eb, em, et⟩ := hgs
  have ⟨z0, z1, z2, z3, _⟩ := hz
  refine x_aload_0 K dX6_scrollOf_0 ?_
  refine x_iload_1 K dX6_scrollOf_1 ?_
  refine x_callV1 K (c6_existing Y h hY s hh) mtX6_existing miX6_existing rc0 ⟨by decide, (by decide)⟩ lkRX6_64 ⟨by decide, by decide, by decide⟩ rfl (Nat.le_of_ble_eq_true rfl) dX6_scrollOf_2 ?_
  refine x_astore_3 K dX6_scrollOf_5 rfl ?_
  refine x_iload_2 K dX6_scrollOf_6 ?_
  refine x_tblOut (tgt := 91) K (by omega) (by omega) dX6_scrollOf_7 (by decide) ?_
  exact x_throw K gThr_IllegalArgumentException gTxt_93 hE rfl ⟨by decide, (Nat.le_of_ble_eq_true rfl)⟩ (by decide) (by decide) dX6_scrollOf_91 dX6_scrollOf_94 dX6_scrollOf_95 dX6_scrollOf_97 dX6_scrollOf_100
def s_of (z : Nat → Int) (k : Nat) : Int := if k = 4 then s_sm z else if k < 4 then z k else z (k - 1)
theorem c6_scrollOf {E : gE} {σ : gS} (Y : Nat → Int) (h : gSh σ 0 Y) (hY : gY Y) (s : Int) (k : Nat) (hs : -2147483648 ≤ s ∧ s < 2147483648) (hh : gHit Y s) (hk : k ≤ 6) : gCt E mX6_scrollOf 12 0 [rf 0 0, iv s, iv (k : Int)] σ (.inl (some (iv (s_of (zb Y s.toNat) k)))) σ := by
  refine gCt_of (L := [some (rf 0 0), some (iv s), some (iv (k : Int)), none]) (by decide +kernel) rfl rfl (Nat.le_of_ble_eq_true rfl) (fun X K hE => ?_)
  have hY0 := hY.1
  have hi : 5 * 0 + s.toNat < 56 := by omega
  have hz := hY.2 s.toNat (by omega)
  have hgs := h.2 s.toNat (by omega)
  have ⟨e0, e1, e2, e3, e4, e5, es, eb, em, et⟩ := hgs
  have ⟨z0, z1, z2, z3, _⟩ := hz
  refine x_aload_0 K dX6_scrollOf_0 ?_
  refine x_iload_1 K dX6_scrollOf_1 ?_
  refine x_callV1 K (c6_existing Y h hY s hh) mtX6_existing miX6_existing rc0 ⟨by decide, (by decide)⟩ lkRX6_64 ⟨by decide, by decide, by decide⟩ rfl (Nat.le_of_ble_eq_true rfl) dX6_scrollOf_2 ?_
  refine x_astore_3 K dX6_scrollOf_5 rfl ?_
  refine x_iload_2 K dX6_scrollOf_6 ?_
  obtain rfl | rfl | rfl | rfl | rfl | rfl | rfl : k = 0 ∨ k = 1 ∨ k = 2 ∨ k = 3 ∨ k = 4 ∨ k = 5 ∨ k = 6 := by omega
  · refine x_tblIn (tgt := 48) K 0 (by decide) (by decide) (by decide) rfl dX6_scrollOf_7 (by decide) ?_
    refine x_aload_3 K dX6_scrollOf_48 ?_
    refine x_getI K gfRX6_68 ⟨by decide, hi⟩ dX6_scrollOf_49 ?_
    exact x_iret K hE rfl dX6_scrollOf_52 (by decide) (by decide) e0 rfl
  · refine x_tblIn (tgt := 53) K 1 (by decide) (by decide) (by decide) rfl dX6_scrollOf_7 (by decide) ?_
    refine x_aload_3 K dX6_scrollOf_53 ?_
    refine x_getI K gfRX6_71 ⟨by decide, hi⟩ dX6_scrollOf_54 ?_
    exact x_iret K hE rfl dX6_scrollOf_57 (by decide) (by decide) e1 rfl
  · refine x_tblIn (tgt := 58) K 2 (by decide) (by decide) (by decide) rfl dX6_scrollOf_7 (by decide) ?_
    refine x_aload_3 K dX6_scrollOf_58 ?_
    refine x_getI K gfRX6_74 ⟨by decide, hi⟩ dX6_scrollOf_59 ?_
    refine x_if_eq (tgt := 69) K (by omega) dX6_scrollOf_62 (by decide) (fun h62 => ?_) (fun h62 => ?_)
    · refine x_iconst K dX6_scrollOf_69 ?_
      exact x_iret K hE rfl dX6_scrollOf_70 (by decide) (by decide) (by show _ = zb Y s.toNat 2; omega) rfl
    · refine x_iconst K dX6_scrollOf_65 ?_
      refine x_goto (tgt := 70) K dX6_scrollOf_66 (by decide) ?_
      exact x_iret K hE rfl dX6_scrollOf_70 (by decide) (by decide) (by show _ = zb Y s.toNat 2; omega) rfl
  · refine x_tblIn (tgt := 71) K 3 (by decide) (by decide) (by decide) rfl dX6_scrollOf_7 (by decide) ?_
    refine x_aload_3 K dX6_scrollOf_71 ?_
    refine x_getI K gfRX6_78 ⟨by decide, hi⟩ dX6_scrollOf_72 ?_
    exact x_iret K hE rfl dX6_scrollOf_75 (by decide) (by decide) e3 rfl
  · refine x_tblIn (tgt := 76) K 4 (by decide) (by decide) (by decide) rfl dX6_scrollOf_7 (by decide) ?_
    refine x_aload_3 K dX6_scrollOf_76 ?_
    refine x_callV0 K (c4_smudgedCells (5 * 0 + s.toNat) hi (zb Y s.toNat) hgs hz) mtX4_smudgedCells miX4_smudgedCells rc3 ⟨by decide, hi⟩ lkRX6_81 ⟨by decide, by decide, by decide⟩ rfl (Nat.le_of_ble_eq_true rfl) dX6_scrollOf_77 ?_
    exact x_iret K hE rfl dX6_scrollOf_80 (by decide) (by decide) rfl rfl
  · refine x_tblIn (tgt := 81) K 5 (by decide) (by decide) (by decide) rfl dX6_scrollOf_7 (by decide) ?_
    refine x_aload_3 K dX6_scrollOf_81 ?_
    refine x_getI K gfRX6_85 ⟨by decide, hi⟩ dX6_scrollOf_82 ?_
    exact x_iret K hE rfl dX6_scrollOf_85 (by decide) (by decide) e4 rfl
  · refine x_tblIn (tgt := 86) K 6 (by decide) (by decide) (by decide) rfl dX6_scrollOf_7 (by decide) ?_
    refine x_aload_3 K dX6_scrollOf_86 ?_
    refine x_getI K gfRX6_88 ⟨by decide, hi⟩ dX6_scrollOf_87 ?_
    exact x_iret K hE rfl dX6_scrollOf_90 (by decide) (by decide) e5 rfl
theorem c6_wouldMend_1 {E : gE} {σ : gS} (Y : Nat → Int) (h : gSh σ 0 Y) (hY : gY Y) (s : Int) (hs : -2147483648 ≤ s ∧ s < 2147483648) (hh : ¬ gHit Y s) : gCt E mX6_wouldMend 12 1 [rf 0 0, iv s] σ (.inr "java/lang/IndexOutOfBoundsException") σ := by
  refine gCt_of (L := [some (rf 0 0), some (iv s), none]) (by decide +kernel) rfl rfl (Nat.le_of_ble_eq_true rfl) (fun X K hE => ?_)
  refine x_aload_0 K dX6_wouldMend_0 ?_
  refine x_iload_1 K dX6_wouldMend_1 ?_
  refine x_callV1x K (c6_existing_x Y h hY s hs hh) mtX6_existing miX6_existing rc0 ⟨by decide, (by decide)⟩ lkRX6_64 ⟨by decide, by decide, by decide⟩ rfl (Nat.le_of_ble_eq_true rfl) dX6_wouldMend_2 hE
theorem s_om_bd {z : Nat → Int} (hz : gZ z) {n : Int} (hn : 0 ≤ n ∧ n ≤ 4) : 0 ≤ s_om z n ∧ s_om z n < 1000 := by
  have b1 := s_sm_bd hz
  have b2 := s_wr_bd z
  have b3 := s_wc_bd z
  unfold s_om
  split
  · omega
  split
  · omega
  split
  · omega
  split
  · omega
  have f1 := s_fw_row (z := z) (by omega)
  have f2 := s_fw_col (z := z) (by omega)
  have g1 := s_f_bd hz (b := s_r1 z) (by omega)
  have g2 := s_f_bd hz (b := 6 + s_c1 z) (by omega)
  split <;> omega
theorem c6_wouldMend {E : gE} {σ : gS} (Y : Nat → Int) (h : gSh σ 0 Y) (hY : gY Y) (s : Int) (hs : -2147483648 ≤ s ∧ s < 2147483648) (hh : gHit Y s) (hom : s_om (zb Y s.toNat) s = 0) : gCt E mX6_wouldMend 12 0 [rf 0 0, iv s] σ (.inl (some (iv (10 * (s_r1 (zb Y s.toNat) : Int) + (s_c1 (zb Y s.toNat) : Int))))) σ := by
  refine gCt_of (L := [some (rf 0 0), some (iv s), none]) (by decide +kernel) rfl rfl (Nat.le_of_ble_eq_true rfl) (fun X K hE => ?_)
  have hY0 := hY.1
  have hi : 5 * 0 + s.toNat < 56 := by omega
  have hz := hY.2 s.toNat (by omega)
  have hgs := h.2 s.toNat (by omega)
  have ⟨e0, e1, e2, e3, e4, e5, es, eb, em, et⟩ := hgs
  have ⟨z0, z1, z2, z3, _⟩ := hz
  obtain ⟨w1, w2, w3⟩ := s_om_0 hz hh.1 hom
  refine x_aload_0 K dX6_wouldMend_0 ?_
  refine x_iload_1 K dX6_wouldMend_1 ?_
  refine x_callV1 K (c6_existing Y h hY s hh) mtX6_existing miX6_existing rc0 ⟨by decide, (by decide)⟩ lkRX6_64 ⟨by decide, by decide, by decide⟩ rfl (Nat.le_of_ble_eq_true rfl) dX6_wouldMend_2 ?_
  refine x_astore_2 K dX6_wouldMend_5 rfl ?_
  refine x_aload_2 K dX6_wouldMend_6 ?_
  refine x_iload_1 K dX6_wouldMend_7 ?_
  refine x_callV1 K (c4_obstacleToMending (5 * 0 + s.toNat) hi (zb Y s.toNat) hgs hz s) mtX4_obstacleToMending miX4_obstacleToMending rc3 ⟨by decide, hi⟩ lkRX6_158 ⟨by decide, by decide, by decide⟩ rfl (Nat.le_of_ble_eq_true rfl) dX6_wouldMend_8 ?_
  have bom := s_om_bd hz (n := s) (by omega)
  refine x_if_eq (tgt := 24) K (by omega) dX6_wouldMend_11 (by decide) (fun h11 => ?_) (fun h11 => absurd hom h11)
  refine x_aload_2 K dX6_wouldMend_24 ?_
  refine x_callV0 K (c4_cellToMend (5 * 0 + s.toNat) hi (zb Y s.toNat) hgs hz (by have := w3.1; omega) (by have := w3.2.1; omega)) mtX4_cellToMend miX4_cellToMend rc3 ⟨by decide, hi⟩ lkRX6_166 ⟨by decide, by decide, by decide⟩ rfl (Nat.le_of_ble_eq_true rfl) dX6_wouldMend_25 ?_
  exact x_iret K hE rfl dX6_wouldMend_28 (by decide) (by decide) rfl rfl
theorem c6_wouldMend_2 {E : gE} {σ : gS} (Y : Nat → Int) (h : gSh σ 0 Y) (hY : gY Y) (s : Int) (hs : -2147483648 ≤ s ∧ s < 2147483648) (hh : gHit Y s) (hom : s_om (zb Y s.toNat) s ≠ 0) : gCt E mX6_wouldMend 12 1 [rf 0 0, iv s] σ (.inr "java/util/NoSuchElementException") σ := by
  refine gCt_of (L := [some (rf 0 0), some (iv s), none]) (by decide +kernel) rfl rfl (Nat.le_of_ble_eq_true rfl) (fun X K hE => ?_)
  have hY0 := hY.1
  have hi : 5 * 0 + s.toNat < 56 := by omega
  have hz := hY.2 s.toNat (by omega)
  have hgs := h.2 s.toNat (by omega)
  have ⟨e0, e1, e2, e3, e4, e5, es, eb, em, et⟩ := hgs
  have ⟨z0, z1, z2, z3, _⟩ := hz
  refine x_aload_0 K dX6_wouldMend_0 ?_
  refine x_iload_1 K dX6_wouldMend_1 ?_
  refine x_callV1 K (c6_existing Y h hY s hh) mtX6_existing miX6_existing rc0 ⟨by decide, (by decide)⟩ lkRX6_64 ⟨by decide, by decide, by decide⟩ rfl (Nat.le_of_ble_eq_true rfl) dX6_wouldMend_2 ?_
  refine x_astore_2 K dX6_wouldMend_5 rfl ?_
  refine x_aload_2 K dX6_wouldMend_6 ?_
  refine x_iload_1 K dX6_wouldMend_7 ?_
  refine x_callV1 K (c4_obstacleToMending (5 * 0 + s.toNat) hi (zb Y s.toNat) hgs hz s) mtX4_obstacleToMending miX4_obstacleToMending rc3 ⟨by decide, hi⟩ lkRX6_158 ⟨by decide, by decide, by decide⟩ rfl (Nat.le_of_ble_eq_true rfl) dX6_wouldMend_8 ?_
  have bom := s_om_bd hz (n := s) (by omega)
  refine x_if_eq (tgt := 24) K (by omega) dX6_wouldMend_11 (by decide) (fun h11 => absurd h11 hom) (fun h11 => ?_)
  exact x_throwN K gThN gTxt_163 hE rfl ⟨by decide, (Nat.le_of_ble_eq_true rfl)⟩ (by decide) (by decide) dX6_wouldMend_14 dX6_wouldMend_17 dX6_wouldMend_18 dX6_wouldMend_20 dX6_wouldMend_23
