/-! ===== ScrollChecks$Scroll: what changes a scroll ===== -/
theorem gMend_put {σ : gS} {i : Nat} {z : Nat → Int} (h : gScr σ i z) (hr : s_r1 z < 6) (hc : s_c1 z < 8) : gU (gSetS σ i (s_r1 z) (s_c1 z) ((z (20 + (8 * s_r1 z + s_c1 z)) + s_f z (s_r1 z)) % 10)) 3 i 8 ((gSetS σ i (s_r1 z) (s_c1 z) ((z (20 + (8 * s_r1 z + s_c1 z)) + s_f z (s_r1 z)) % 10)).1 3 i 8 + 1) = gPut σ i (zMend z) := by
  rw [gSetS_off σ i _ _ _ (by omega), gPut_u (gScr_set h _ hr hc) (by omega) (by omega), gSetS_put h _ hr hc, gPut_put]
  refine gPut_zc σ i (fun j hj => ?_)
  have e4 := h.2.2.2.2.1
  unfold zMend
  rw [e4]
theorem c4_mendCell {E : gE} {σ : gS} (i : Nat) (hi : i < 56) (z : Nat → Int) (h : gScr σ i z) (hz : gZ z) (n1 : s_wr z ≠ 0) (n2 : s_wc z ≠ 0) : gCt E mX4_mendCell 4 0 [rf 3 i] σ (.inl (some (iv (10 * (s_r1 z : Int) + (s_c1 z : Int))))) (gPut σ i (zMend z)) := by
  refine gCt_of (L := [some (rf 3 i), none, none]) (by decide +kernel) rfl rfl (Nat.le_of_ble_eq_true rfl) (fun X K hE => ?_)
  have ⟨e0, e1, e2, e3, e4, e5, es, eb, em, et⟩ := h
  have ⟨q0, q1, q2, q3, q4, q5, q6, q7, q8⟩ := hz
  have f1 := s_fw_row (z := z) (by omega)
  have f2 := s_fw_col (z := z) (by omega)
  have b1 := s_f_bd hz (b := s_r1 z) (by omega)
  have b2 := (s_w_iff z _).mp f1.2.2
  have b3 := s_m_row f1.2.1 f2.2.1 b2.2.1
  have b4 := es (8 * s_r1 z + s_c1 z) (by omega)
  have b5 := q5 (8 * s_r1 z + s_c1 z) (by omega)
  refine x_aload_0 K dX4_mendCell_0 ?_
  refine x_iconst K dX4_mendCell_1 ?_
  refine x_callV1 K (c4_firstWrongFrom i hi z h hz 0 (by omega)) mtX4_firstWrongFrom miX4_firstWrongFrom rc3 ⟨by decide, hi⟩ lkRX4_100 ⟨by decide, by decide, by decide⟩ rfl (Nat.le_of_ble_eq_true rfl) dX4_mendCell_2 ?_
  refine gWX.top (b := (s_r1 z : Int)) f1.1 ?_
  refine x_istore_1 K dX4_mendCell_5 rfl ?_
  refine x_aload_0 K dX4_mendCell_6 ?_
  refine x_bipush K dX4_mendCell_7 rfl ?_
  refine x_callV1 K (c4_firstWrongFrom i hi z h hz 6 (by omega)) mtX4_firstWrongFrom miX4_firstWrongFrom rc3 ⟨by decide, hi⟩ lkRX4_100 ⟨by decide, by decide, by decide⟩ rfl (Nat.le_of_ble_eq_true rfl) dX4_mendCell_9 ?_
  refine gWX.top (b := ((6 + s_c1 z : Nat) : Int)) f2.1 ?_
  refine x_bipush K dX4_mendCell_12 rfl ?_
  refine x_isub K dX4_mendCell_14 ?_
  refine gWX.top (b := (s_c1 z : Int)) (by omega) ?_
  refine x_istore_2 K dX4_mendCell_15 rfl ?_
  refine x_aload_0 K dX4_mendCell_16 ?_
  refine x_iload_1 K dX4_mendCell_17 ?_
  refine x_iload_2 K dX4_mendCell_18 ?_
  refine x_aload_0 K dX4_mendCell_19 ?_
  refine x_iload_1 K dX4_mendCell_20 ?_
  refine x_callV1 K (c4_fault i hi z h hz (s_r1 z) (by omega)) mtX4_fault miX4_fault rc3 ⟨by decide, hi⟩ lkRX4_123 ⟨by decide, by decide, by decide⟩ rfl (Nat.le_of_ble_eq_true rfl) dX4_mendCell_21 ?_
  refine x_callV3 K (c4_letSlip i hi (s_r1 z) (s_c1 z) f1.2.1 f2.2.1 _ (by omega) (by omega)) mtX4_letSlip miX4_letSlip rc3 ⟨by decide, hi⟩ lkRX4_126 ⟨by decide, by decide, by decide⟩ rfl (Nat.le_of_ble_eq_true rfl) dX4_mendCell_24 ?_
  refine x_pop K dX4_mendCell_27 rfl ?_
  refine x_aload_0 K dX4_mendCell_28 ?_
  refine x_dup K dX4_mendCell_29 rfl ?_
  refine x_getI K gfRX4_38 ⟨by decide, hi⟩ dX4_mendCell_30 ?_
  refine x_iconst K dX4_mendCell_33 ?_
  refine x_iadd K dX4_mendCell_34 ?_
  refine x_putI K gpRX4_38 ⟨by decide, hi⟩ dX4_mendCell_35 ?_
  refine x_bipush K dX4_mendCell_38 rfl ?_
  refine x_iload_1 K dX4_mendCell_40 ?_
  refine x_imul K dX4_mendCell_41 ?_
  refine x_iload_2 K dX4_mendCell_42 ?_
  refine x_iadd K dX4_mendCell_43 ?_
  exact x_iret K hE rfl dX4_mendCell_44 (by decide) (by decide) rfl (by rw [b4]; exact gMend_put h f1.2.1 f2.2.1)
def zt (z : Nat → Int) (r c o : Nat) : Nat → Int := if o = 0 then z else zset z r c ((o : Int) - 1)
theorem zt_set (z : Nat → Int) (r c o : Nat) (s : Int) (j : Nat) : zset (zt z r c o) r c s j = zset z r c s j := by
  unfold zt
  split
  · rfl
  · rw [zset_at, zset_at, zset_at]; split <;> rfl
theorem zt_Z {z : Nat → Int} (hz : gZ z) {r c : Nat} (hr : (r : Int) < z 0) (hc : (c : Int) < z 1) {o : Nat} (ho : o ≤ 10) : gZ (zt z r c o) := by
  unfold zt
  split
  · exact hz
  · exact gZ_set hz hr hc (by omega)
theorem zset_self (z : Nat → Int) (r c : Nat) (j : Nat) : zset z r c (z (20 + (8 * r + c))) j = z j := by
  rw [zset_at]
  split
  · rename_i e; rw [e]
  · rfl
theorem s_mc_no {z : Nat → Int} {r c : Nat} (h : ∀ o : Nat, o < 10 → ¬ ((o : Int) ≠ z (20 + (8 * r + c)) ∧ s_fw (zset z r c o) 0 = -1)) : s_mc z r c = false := by
  apply Bool.eq_false_iff.mpr
  intro q
  obtain ⟨o, h1, h2⟩ := (s_mc_iff z r c).mp q
  exact h o h1 h2
theorem c4_isMendedByCell {E : gE} {σ : gS} (i : Nat) (hi : i < 56) (z : Nat → Int) (h : gScr σ i z) (hz : gZ z) (r c : Nat) (hr : r < 6) (hc : c < 8) (hr2 : (r : Int) < z 0) (hc2 : (c : Int) < z 1) (hv : z (20 + (8 * r + c)) ≠ -1) : gCt E mX4_isMendedByCell 5 0 [rf 3 i, iv (r : Int), iv (c : Int)] σ (.inl (some (iv (gB1 (s_mc z r c = true))))) σ := by
  refine gCt_of (L := [some (rf 3 i), some (iv (r : Int)), some (iv (c : Int)), none, none, none]) (by decide +kernel) rfl rfl (Nat.le_of_ble_eq_true rfl) (fun X K hE => ?_)
  have ⟨e0, e1, e2, e3, e4, e5, es, eb, em, et⟩ := h
  have ⟨q0, q1, q2, q3, q4, q5, q6, q7, q8⟩ := hz
  have b5 := q5 (8 * r + c) (by omega)
  refine x_aload_0 K dX4_isMendedByCell_0 ?_
  refine x_iload_1 K dX4_isMendedByCell_1 ?_
  refine x_iload_2 K dX4_isMendedByCell_2 ?_
  refine x_callV2 K (c4_sign i hi r c (by omega) (by omega)) mtX4_sign miX4_sign rc3 ⟨by decide, hi⟩ lkRX4_63 ⟨by decide, by decide, by decide⟩ rfl (Nat.le_of_ble_eq_true rfl) dX4_isMendedByCell_3 ?_
  refine gWX.top (b := z (20 + (8 * r + c))) (es _ (by omega)) ?_
  refine x_istore_3 K dX4_isMendedByCell_6 rfl ?_
  refine x_iconst K dX4_isMendedByCell_7 ?_
  refine x_istore_4 K dX4_isMendedByCell_8 rfl ?_
  refine x_iconst K dX4_isMendedByCell_10 ?_
  refine x_istore_5 K dX4_isMendedByCell_11 rfl ?_
  refine gLp (P := fun o : Nat => (∀ k : Nat, k < o → ¬ ((k : Int) ≠ z (20 + (8 * r + c)) ∧ s_fw (zset z r c k) 0 = -1)) → gWX X E 0 0 13 [some (rf 3 i), some (iv (r : Int)), some (iv (c : Int)), some (iv (z (20 + (8 * r + c)))), some (iv 0), some (iv (o : Int))] [] (gPut σ i (zt z r c o))) (10) (fun k0 => ?_) (fun o ho ih => ?_) ?_
  · exact gWX.to rfl (gPut_self h).symm (k0 (fun k hk => absurd hk (Nat.not_lt_zero k)))
  · intro hy
    refine x_iload_5 K dX4_isMendedByCell_13 ?_
    refine x_bipush K dX4_isMendedByCell_15 rfl ?_
    refine x_icmp_gt (tgt := 59) K (by omega) dX4_isMendedByCell_17 (by decide) (fun h17 => absurd h17 (by omega)) (fun h17 => ?_)
    refine x_iload_4 K dX4_isMendedByCell_20 ?_
    refine x_if_ne (tgt := 59) K (by omega) dX4_isMendedByCell_22 (by decide) (fun h22 => absurd rfl h22) (fun h22 => ?_)
    refine x_aload_0 K dX4_isMendedByCell_25 ?_
    refine x_iload_1 K dX4_isMendedByCell_26 ?_
    refine x_iload_2 K dX4_isMendedByCell_27 ?_
    refine x_iload_5 K dX4_isMendedByCell_28 ?_
    refine x_callV3v K (c4_setSignQ i hi (zt z r c o) (zt z r c (o + 1)) (zt_Z hz (by omega) (by omega) (by omega)) r c (by omega) (by omega) (o : Int) (by omega) (fun j hj => (zt_set z r c o _ j).trans (by unfold zt; rw [if_neg (by omega), show ((o + 1 : Nat) : Int) - 1 = (o : Int) by omega]))) mtX4_setSign miX4_setSign rc3 ⟨by decide, hi⟩ lkRX4_79 ⟨by decide, by decide, by decide⟩ rfl (Nat.le_of_ble_eq_true rfl) dX4_isMendedByCell_30 ?_
    have ez : zt z r c (o + 1) = zset z r c (o : Int) := by unfold zt; rw [if_neg (by omega), show ((o + 1 : Nat) : Int) - 1 = (o : Int) by omega]
    refine x_iload_5 K dX4_isMendedByCell_33 ?_
    refine x_iload_3 K dX4_isMendedByCell_35 ?_
    refine x_icmp_eq (tgt := 50) K (by omega) dX4_isMendedByCell_36 (by decide) (fun h36 => ?_) (fun h36 => ?_)
    · have hx : ¬ ((o : Int) ≠ z (20 + (8 * r + c)) ∧ s_fw (zset z r c (o : Int)) 0 = -1) := fun q => q.1 (by omega)
      refine x_iconst K dX4_isMendedByCell_50 ?_
      refine x_istore_4 K dX4_isMendedByCell_51 rfl ?_
      refine x_iinc_5 K dX4_isMendedByCell_53 rfl ?_
      refine x_goto (tgt := 13) K dX4_isMendedByCell_56 (by decide) ?_
      exact gWX.to rfl rfl (ih (fun k hk q => (Nat.lt_or_ge k o).elim (fun e => hy k e q) (fun e => by
        obtain rfl : k = o := by omega
        exact hx q)))
    · refine x_aload_0 K dX4_isMendedByCell_39 ?_
      refine x_callV0 K (c4_isAllRight i hi (zt z r c (o + 1)) (gScr_put _ i _) (zt_Z hz (by omega) (by omega) (by omega))) mtX4_isAllRight miX4_isAllRight rc3 ⟨by decide, hi⟩ lkRX4_133 ⟨by decide, by decide, by decide⟩ rfl (Nat.le_of_ble_eq_true rfl) dX4_isMendedByCell_40 ?_
      have b9 := gB1_bd (s_fw (zt z r c (o + 1)) 0 = -1)
      refine x_if_eq (tgt := 50) K (by omega) dX4_isMendedByCell_43 (by decide) (fun h43 => ?_) (fun h43 => ?_)
      · have hx : ¬ ((o : Int) ≠ z (20 + (8 * r + c)) ∧ s_fw (zset z r c (o : Int)) 0 = -1) := fun q => by
          rw [← ez] at q
          rw [gB1_t q.2] at h43
          omega
        refine x_iconst K dX4_isMendedByCell_50 ?_
        refine x_istore_4 K dX4_isMendedByCell_51 rfl ?_
        refine x_iinc_5 K dX4_isMendedByCell_53 rfl ?_
        refine x_goto (tgt := 13) K dX4_isMendedByCell_56 (by decide) ?_
        exact gWX.to rfl rfl (ih (fun k hk q => (Nat.lt_or_ge k o).elim (fun e => hy k e q) (fun e => by
          obtain rfl : k = o := by omega
          exact hx q)))
      · have hx : (o : Int) ≠ z (20 + (8 * r + c)) ∧ s_fw (zset z r c (o : Int)) 0 = -1 := ⟨by omega, Classical.byContradiction (fun q => h43 (by rw [← ez] at q; exact gB1_f q))⟩
        refine x_iconst K dX4_isMendedByCell_46 ?_
        refine x_goto (tgt := 51) K dX4_isMendedByCell_47 (by decide) ?_
        refine x_istore_4 K dX4_isMendedByCell_51 rfl ?_
        refine x_iinc_5 K dX4_isMendedByCell_53 rfl ?_
        refine x_goto (tgt := 13) K dX4_isMendedByCell_56 (by decide) ?_
        refine x_iload_5 K dX4_isMendedByCell_13 ?_
        refine x_bipush K dX4_isMendedByCell_15 rfl ?_
        refine x_icmp_gt (tgt := 59) K (by omega) dX4_isMendedByCell_17 (by decide) (fun h17 => ?_) (fun h17 => ?_)
        · refine x_aload_0 K dX4_isMendedByCell_59 ?_
          refine x_iload_1 K dX4_isMendedByCell_60 ?_
          refine x_iload_2 K dX4_isMendedByCell_61 ?_
          refine x_iload_3 K dX4_isMendedByCell_62 ?_
          refine x_callV3v K (c4_setSignQ i hi (zt z r c (o + 1)) z (zt_Z hz (by omega) (by omega) (by omega)) r c (by omega) (by omega) _ (by omega) (fun j hj => (zt_set z r c (o + 1) _ j).trans (zset_self z r c j))) mtX4_setSign miX4_setSign rc3 ⟨by decide, hi⟩ lkRX4_79 ⟨by decide, by decide, by decide⟩ rfl (Nat.le_of_ble_eq_true rfl) dX4_isMendedByCell_63 ?_
          rw [gPut_self h]
          refine x_iload_4 K dX4_isMendedByCell_66 ?_
          exact x_zret K hE rfl dX4_isMendedByCell_68 (by decide) (by decide) (by omega) (gB1_t ((s_mc_iff z r c).mpr ⟨o, by omega, hx.1, hx.2⟩)).symm rfl
        · refine x_iload_4 K dX4_isMendedByCell_20 ?_
          refine x_if_ne (tgt := 59) K (by omega) dX4_isMendedByCell_22 (by decide) (fun h22 => ?_) (fun h22 => absurd h22 (by omega))
          refine x_aload_0 K dX4_isMendedByCell_59 ?_
          refine x_iload_1 K dX4_isMendedByCell_60 ?_
          refine x_iload_2 K dX4_isMendedByCell_61 ?_
          refine x_iload_3 K dX4_isMendedByCell_62 ?_
          refine x_callV3v K (c4_setSignQ i hi (zt z r c (o + 1)) z (zt_Z hz (by omega) (by omega) (by omega)) r c (by omega) (by omega) _ (by omega) (fun j hj => (zt_set z r c (o + 1) _ j).trans (zset_self z r c j))) mtX4_setSign miX4_setSign rc3 ⟨by decide, hi⟩ lkRX4_79 ⟨by decide, by decide, by decide⟩ rfl (Nat.le_of_ble_eq_true rfl) dX4_isMendedByCell_63 ?_
          rw [gPut_self h]
          refine x_iload_4 K dX4_isMendedByCell_66 ?_
          exact x_zret K hE rfl dX4_isMendedByCell_68 (by decide) (by decide) (by omega) (gB1_t ((s_mc_iff z r c).mpr ⟨o, by omega, hx.1, hx.2⟩)).symm rfl
  · intro hy
    refine x_iload_5 K dX4_isMendedByCell_13 ?_
    refine x_bipush K dX4_isMendedByCell_15 rfl ?_
    refine x_icmp_gt (tgt := 59) K (by omega) dX4_isMendedByCell_17 (by decide) (fun h17 => ?_) (fun h17 => absurd h17 (by omega))
    refine x_aload_0 K dX4_isMendedByCell_59 ?_
    refine x_iload_1 K dX4_isMendedByCell_60 ?_
    refine x_iload_2 K dX4_isMendedByCell_61 ?_
    refine x_iload_3 K dX4_isMendedByCell_62 ?_
    refine x_callV3v K (c4_setSignQ i hi (zt z r c 10) z (zt_Z hz (by omega) (by omega) (by omega)) r c (by omega) (by omega) _ (by omega) (fun j hj => (zt_set z r c 10 _ j).trans (zset_self z r c j))) mtX4_setSign miX4_setSign rc3 ⟨by decide, hi⟩ lkRX4_79 ⟨by decide, by decide, by decide⟩ rfl (Nat.le_of_ble_eq_true rfl) dX4_isMendedByCell_63 ?_
    rw [gPut_self h]
    refine x_iload_4 K dX4_isMendedByCell_66 ?_
    exact x_zret K hE rfl dX4_isMendedByCell_68 (by decide) (by decide) (by omega) (gB1_f (by rw [s_mc_no hy]; exact Bool.false_ne_true)).symm rfl
theorem c4_findMendByTrying {E : gE} {σ : gS} (i : Nat) (hi : i < 56) (z : Nat → Int) (h : gScr σ i z) (hz : gZ z) (h2 : z 2 = 1) (hs : s_sm z = 0) : gCt E mX4_findMendByTrying 6 0 [rf 3 i] σ (.inl (some (iv (if s_mb z then 10 * (s_r1 z : Int) + (s_c1 z : Int) else -1)))) σ := by
  refine gCt_of (L := [some (rf 3 i), none, none]) (by decide +kernel) rfl rfl (Nat.le_of_ble_eq_true rfl) (fun X K hE => ?_)
  have ⟨e0, e1, e2, e3, e4, e5, es, eb, em, et⟩ := h
  have ⟨q0, q1, q2, q3, q4, q5, q6, q7, q8⟩ := hz
  refine x_iconst K dX4_findMendByTrying_0 ?_
  refine x_istore_1 K dX4_findMendByTrying_1 rfl ?_
  refine gLp (P := fun r : Nat => (∀ r2 c2 : Nat, r2 < r → (c2 : Int) < z 1 → s_mc z r2 c2 = false) → gWX X E 0 0 2 [some (rf 3 i), some (iv (r : Int)), none] [] (σ)) ((z 0).toNat) (fun k0 => ?_) (fun r hr ih => ?_) ?_
  · exact gWX.to rfl rfl (k0 (fun r2 c2 hk => absurd hk (Nat.not_lt_zero r2)))
  · intro hy
    refine x_iload_1 K dX4_findMendByTrying_2 ?_
    refine x_aload_0 K dX4_findMendByTrying_3 ?_
    refine x_getI K gfRX4_28 ⟨by decide, hi⟩ dX4_findMendByTrying_4 ?_
    refine x_icmp_ge (tgt := 48) K (by omega) dX4_findMendByTrying_7 (by decide) (fun h7 => absurd h7 (by omega)) (fun h7 => ?_)
    refine x_iconst K dX4_findMendByTrying_10 ?_
    refine x_istore_2 K dX4_findMendByTrying_11 rfl ?_
    refine gLp (P := fun c : Nat => (∀ c2 : Nat, c2 < c → s_mc z r c2 = false) → gWX X E 0 0 12 [some (rf 3 i), some (iv (r : Int)), some (iv (c : Int))] [] (σ)) ((z 1).toNat) (fun k0 => ?_) (fun c hc ih => ?_) ?_
    · exact gWX.to rfl rfl (k0 (fun c2 hk => absurd hk (Nat.not_lt_zero c2)))
    · intro hyc
      refine x_iload_2 K dX4_findMendByTrying_12 ?_
      refine x_aload_0 K dX4_findMendByTrying_13 ?_
      refine x_getI K gfRX4_31 ⟨by decide, hi⟩ dX4_findMendByTrying_14 ?_
      refine x_icmp_ge (tgt := 42) K (by omega) dX4_findMendByTrying_17 (by decide) (fun h17 => absurd h17 (by omega)) (fun h17 => ?_)
      refine x_aload_0 K dX4_findMendByTrying_20 ?_
      refine x_iload_1 K dX4_findMendByTrying_21 ?_
      refine x_iload_2 K dX4_findMendByTrying_22 ?_
      refine x_callV2 K (c4_isMendedByCell i hi z h hz r c (by omega) (by omega) (by omega) (by omega) (s_sm_no hz hs (by omega) (by omega))) mtX4_isMendedByCell miX4_isMendedByCell rc3 ⟨by decide, hi⟩ lkRX4_130 ⟨by decide, by decide, by decide⟩ rfl (Nat.le_of_ble_eq_true rfl) dX4_findMendByTrying_23 ?_
      have b9 := gB1_bd (s_mc z r c = true)
      refine x_if_eq (tgt := 36) K (by omega) dX4_findMendByTrying_26 (by decide) (fun h26 => ?_) (fun h26 => ?_)
      · have hm : s_mc z r c = false := Bool.eq_false_iff.mpr (fun q => by rw [gB1_t q] at h26; omega)
        refine x_iinc_2 K dX4_findMendByTrying_36 rfl ?_
        refine x_goto (tgt := 12) K dX4_findMendByTrying_39 (by decide) ?_
        exact gWX.to rfl rfl (ih (fun c2 hk => (Nat.lt_or_ge c2 c).elim (fun e => hyc c2 e) (fun e => by
          obtain rfl : c2 = c := by omega
          exact hm)))
      · have hm : s_mc z r c = true := Classical.byContradiction (fun q => h26 (gB1_f q))
        have hk := (s_try hz h2 hs (by omega) (by omega)).mp hm
        refine x_bipush K dX4_findMendByTrying_29 rfl ?_
        refine x_iload_1 K dX4_findMendByTrying_31 ?_
        refine x_imul K dX4_findMendByTrying_32 ?_
        refine x_iload_2 K dX4_findMendByTrying_33 ?_
        refine x_iadd K dX4_findMendByTrying_34 ?_
        exact x_iret K hE rfl dX4_findMendByTrying_35 (by decide) (by decide) (by rw [if_pos hk.1, ← hk.2.1, ← hk.2.2]) rfl
    · intro hyc
      refine x_iload_2 K dX4_findMendByTrying_12 ?_
      refine x_aload_0 K dX4_findMendByTrying_13 ?_
      refine x_getI K gfRX4_31 ⟨by decide, hi⟩ dX4_findMendByTrying_14 ?_
      refine x_icmp_ge (tgt := 42) K (by omega) dX4_findMendByTrying_17 (by decide) (fun h17 => ?_) (fun h17 => absurd h17 (by omega))
      refine x_iinc_1 K dX4_findMendByTrying_42 rfl ?_
      refine x_goto (tgt := 2) K dX4_findMendByTrying_45 (by decide) ?_
      exact gWX.fgt 2 (gWX.to rfl rfl (ih (fun r2 c2 h1 h3 => (Nat.lt_or_ge r2 r).elim (fun e => hy r2 c2 e h3) (fun e => by
        obtain rfl : r2 = r := by omega
        exact hyc c2 (by omega)))))
  · intro hy
    refine x_iload_1 K dX4_findMendByTrying_2 ?_
    refine x_aload_0 K dX4_findMendByTrying_3 ?_
    refine x_getI K gfRX4_28 ⟨by decide, hi⟩ dX4_findMendByTrying_4 ?_
    refine x_icmp_ge (tgt := 48) K (by omega) dX4_findMendByTrying_7 (by decide) (fun h7 => ?_) (fun h7 => absurd h7 (by omega))
    refine x_iconst K dX4_findMendByTrying_48 ?_
    exact x_iret K hE rfl dX4_findMendByTrying_49 (by decide) (by decide) (by
  refine (if_neg (fun q => ?_)).symm
  have g1 := s_fw_row (z := z) (by have := q.1; omega)
  have g2 := s_fw_col (z := z) (by have := q.2.1; omega)
  have g3 := s_w_row hz g1.2.1 g1.2.2
  have g4 := s_w_col hz g2.2.1 g2.2.2
  have g5 := hy (s_r1 z) (s_c1 z) (by omega) g4
  rw [(s_try hz h2 hs g1.2.1 g2.2.1).mpr ⟨q, rfl, rfl⟩] at g5
  cases g5) rfl
theorem c4_bandToFill {E : gE} {σ : gS} (i : Nat) (hi : i < 56) (z : Nat → Int) (h : gScr σ i z) (hz : gZ z) : gCt E mX4_bandToFill 3 0 [rf 3 i] σ (.inl (some (iv (s_bf z)))) σ := by
  refine gCt_of (L := [some (rf 3 i), none]) (by decide +kernel) rfl rfl (Nat.le_of_ble_eq_true rfl) (fun X K hE => ?_)
  have ⟨e0, e1, e2, e3, e4, e5, es, eb, em, et⟩ := h
  have ⟨q0, q1, q2, q3, q4, q5, q6, q7, q8⟩ := hz
  refine x_iconst K dX4_bandToFill_0 ?_
  refine x_istore_1 K dX4_bandToFill_1 rfl ?_
  refine gLp (P := fun k : Nat => (s_bf z = gFst (fun b => decide (s_m z b = 1)) k (14 - k)) → gWX X E 0 0 2 [some (rf 3 i), some (iv (k : Int))] [] (σ)) (14) (fun k0 => ?_) (fun k hk ih => ?_) ?_
  · exact gWX.to rfl rfl (k0 rfl)
  · intro hy
    rw [show 14 - k = (14 - (k + 1)) + 1 by omega] at hy
    unfold gFst at hy
    refine x_iload_1 K dX4_bandToFill_2 ?_
    refine x_bipush K dX4_bandToFill_3 rfl ?_
    refine x_icmp_ge (tgt := 28) K (by omega) dX4_bandToFill_5 (by decide) (fun h5 => absurd h5 (by omega)) (fun h5 => ?_)
    refine x_aload_0 K dX4_bandToFill_8 ?_
    refine x_getR K gfRX4_18 ⟨by decide, hi⟩ dX4_bandToFill_9 ?_
    refine x_iload_1 K dX4_bandToFill_12 ?_
    refine x_callS2 K (c6_entry (k := 6) (i := i) rfl ⟨by decide, hi⟩ (k) (by omega)) mtX6_entry msX6_entry lkRX4_59 ⟨by decide, by decide, by decide⟩ rfl (Nat.le_of_ble_eq_true rfl) dX4_bandToFill_13 ?_
    refine gWX.top (b := s_m z k) (em k (by omega)) ?_
    have b9 := s_m_bd z k
    refine x_iconst K dX4_bandToFill_16 ?_
    refine x_icmp_ne (tgt := 22) K (by omega) dX4_bandToFill_17 (by decide) (fun h17 => ?_) (fun h17 => ?_)
    · have hw : ¬ decide (s_m z k = 1) = true := fun q => h17 (of_decide_eq_true q)
      rw [if_neg hw] at hy
      have hy2 : s_bf z = gFst (fun b => decide (s_m z b = 1)) (k + 1) (14 - (k + 1)) := hy
      refine x_iinc_1 K dX4_bandToFill_22 rfl ?_
      refine x_goto (tgt := 2) K dX4_bandToFill_25 (by decide) ?_
      exact gWX.to rfl rfl (ih hy2)
    · have hw : decide (s_m z k = 1) = true := decide_eq_true (by omega)
      rw [if_pos hw] at hy
      refine x_iload_1 K dX4_bandToFill_20 ?_
      exact x_iret K hE rfl dX4_bandToFill_21 (by decide) (by decide) hy.symm rfl
  · intro hy
    rw [show 14 - 14 = 0 by omega] at hy
    refine x_iload_1 K dX4_bandToFill_2 ?_
    refine x_bipush K dX4_bandToFill_3 rfl ?_
    refine x_icmp_ge (tgt := 28) K (by omega) dX4_bandToFill_5 (by decide) (fun h5 => ?_) (fun h5 => absurd h5 (by omega))
    refine x_iconst K dX4_bandToFill_28 ?_
    exact x_iret K hE rfl dX4_bandToFill_29 (by decide) (by decide) hy.symm rfl
theorem zFp_Z {z : Nat → Int} (hz : gZ z) {b : Nat} (hb : b < 14) (m : Nat) : gZ (zFp z b m) := by
  obtain ⟨h0, h1, h2, h3, h4, h5, h6, h7, h8⟩ := hz
  have hf := s_f_bd ⟨h0, h1, h2, h3, h4, h5, h6, h7, h8⟩ hb
  have e : ∀ j, j < 20 → zFp z b m j = z j := fun j hj => if_neg (by omega)
  refine ⟨by rw [e 0 (by omega)]; exact h0, by rw [e 1 (by omega)]; exact h1, by rw [e 2 (by omega)]; exact h2, by rw [e 3 (by omega)]; exact h3, fun b hb => by rw [e _ (by omega)]; exact h4 b hb, fun j hj => ?_, fun a ha b hb q => ?_, fun a ha q => ?_, fun b hb q => ?_⟩
  · unfold zFp; split
    · omega
    · exact h5 j hj
  · rw [e 0 (by omega), e 1 (by omega)] at q
    have := h6 a ha b hb q
    unfold zFp
    rw [if_neg (by omega)]
    exact this
  · rw [e 0 (by omega)] at q
    rw [e _ (by omega)]
    exact h7 a ha q
  · rw [e 1 (by omega)] at q
    rw [e _ (by omega)]
    exact h8 b hb q
theorem zFp_lo {z : Nat → Int} {b m j : Nat} (h : j < 20) : zFp z b m j = z j := if_neg (by omega)
theorem gPut_s (σ : gS) (i : Nat) (z : Nat → Int) {j : Nat} (h : j < 6) : (gPut σ i z).1 3 i (4 + j) = z j := by
  rw [gPut_3, if_pos (by omega), show 4 + j - 4 = j by omega]
theorem zFp_at (z : Nat → Int) (b m j : Nat) : zFp z b m j = if 20 ≤ j ∧ j < 20 + m ∧ z j = -1 ∧ s_in ((j - 20) / 8) ((j - 20) % 8) b then s_f z b else z j := rfl
theorem zFp_more {z : Nat → Int} (b : Nat) {m n : Nat} (hm : m ≤ n) (h : ∀ k, m ≤ k → k < n → ¬ (z (20 + k) = -1 ∧ s_in (k / 8) (k % 8) b)) (j : Nat) : zFp z b m j = zFp z b n j := by
  rw [zFp_at, zFp_at]
  by_cases q : 20 ≤ j ∧ j < 20 + m ∧ z j = -1 ∧ s_in ((j - 20) / 8) ((j - 20) % 8) b
  · rw [if_pos q, if_pos ⟨q.1, by omega, q.2.2⟩]
  · rw [if_neg q, if_neg (fun y => by
      have h2 := h (j - 20)
      rw [show 20 + (j - 20) = j by omega] at h2
      by_cases y2 : j < 20 + m
      · exact q ⟨y.1, y2, y.2.2⟩
      · exact h2 (by omega) (by omega) y.2.2)]
theorem zFp_one {z : Nat → Int} {b r c : Nat} (hc : c < 8) (h : z (20 + (8 * r + c)) = -1) (h2 : s_in r c b) (j : Nat) : zset (zFp z b (8 * r + c)) r c (s_f z b) j = zFp z b (8 * r + c + 1) j := by
  rw [zset_at]
  split
  · rename_i e
    subst e
    rw [zFp_at, if_pos ⟨by omega, by omega, h, by rw [show (20 + (8 * r + c) - 20) / 8 = r by omega, show (20 + (8 * r + c) - 20) % 8 = c by omega]; exact h2⟩]
  · rename_i e
    rw [zFp_at, zFp_at]
    by_cases q : 20 ≤ j ∧ j < 20 + (8 * r + c) ∧ z j = -1 ∧ s_in ((j - 20) / 8) ((j - 20) % 8) b
    · rw [if_pos q, if_pos ⟨q.1, by omega, q.2.2⟩]
    · rw [if_neg q, if_neg (fun y => q ⟨y.1, by omega, y.2.2⟩)]
theorem zFp_0 (z : Nat → Int) (b j : Nat) : zFp z b 0 j = z j := if_neg (by omega)
theorem c4_fillBand {E : gE} {σ : gS} (i : Nat) (hi : i < 56) (z : Nat → Int) (h : gScr σ i z) (hz : gZ z) (b : Nat) (hb : b < 14) : gCt E mX4_fillBand 3 0 [rf 3 i, iv (b : Int)] σ (.inl none) (gPut σ i (zFp z b 48)) := by
  refine gCt_of (L := [some (rf 3 i), some (iv (b : Int)), none, none, none]) (by decide +kernel) rfl rfl (Nat.le_of_ble_eq_true rfl) (fun X K hE => ?_)
  have ⟨e0, e1, e2, e3, e4, e5, es, eb, em, et⟩ := h
  have ⟨q0, q1, q2, q3, q4, q5, q6, q7, q8⟩ := hz
  have hf := s_f_bd hz hb
  refine x_aload_0 K dX4_fillBand_0 ?_
  refine x_iload_1 K dX4_fillBand_1 ?_
  refine x_callV1 K (c4_fault i hi z h hz b hb) mtX4_fault miX4_fault rc3 ⟨by decide, hi⟩ lkRX4_123 ⟨by decide, by decide, by decide⟩ rfl (Nat.le_of_ble_eq_true rfl) dX4_fillBand_2 ?_
  refine x_istore_2 K dX4_fillBand_5 rfl ?_
  refine x_iconst K dX4_fillBand_6 ?_
  refine x_istore_3 K dX4_fillBand_7 rfl ?_
  refine gLp (P := fun r : Nat => gWX X E 0 0 8 [some (rf 3 i), some (iv (b : Int)), some (iv (s_f z b)), some (iv (r : Int)), none] [] (gPut σ i (zFp z b (8 * r)))) ((z 0).toNat) (fun k0 => ?_) (fun r hr ih => ?_) ?_
  · exact gWX.to rfl ((gPut_self h).symm.trans (gPut_zc σ i (fun j _ => (zFp_0 z b j).symm))) (k0)
  · refine x_iload_3 K dX4_fillBand_8 ?_
    refine x_aload_0 K dX4_fillBand_9 ?_
    refine x_getI K gfRX4_28 ⟨by decide, hi⟩ dX4_fillBand_10 ?_
    refine gWX.top (b := z 0) ((gPut_s σ i _ (j := 0) (by omega)).trans (zFp_lo (by omega))) ?_
    refine x_icmp_ge (tgt := 69) K (by omega) dX4_fillBand_13 (by decide) (fun h13 => absurd h13 (by omega)) (fun h13 => ?_)
    refine x_iconst K dX4_fillBand_16 ?_
    refine x_istore_4 K dX4_fillBand_17 rfl ?_
    refine gLp (P := fun c : Nat => gWX X E 0 0 19 [some (rf 3 i), some (iv (b : Int)), some (iv (s_f z b)), some (iv (r : Int)), some (iv (c : Int))] [] (gPut σ i (zFp z b (8 * r + c)))) ((z 1).toNat) (fun k0 => ?_) (fun c hc ih => ?_) ?_
    · exact gWX.to rfl rfl (k0)
    · refine x_iload_4 K dX4_fillBand_19 ?_
      refine x_aload_0 K dX4_fillBand_21 ?_
      refine x_getI K gfRX4_31 ⟨by decide, hi⟩ dX4_fillBand_22 ?_
      refine gWX.top (b := z 1) ((gPut_s σ i _ (j := 1) (by omega)).trans (zFp_lo (by omega))) ?_
      refine x_icmp_ge (tgt := 63) K (by omega) dX4_fillBand_25 (by decide) (fun h25 => absurd h25 (by omega)) (fun h25 => ?_)
      refine x_iload_3 K dX4_fillBand_28 ?_
      refine x_iload_4 K dX4_fillBand_29 ?_
      refine x_iload_1 K dX4_fillBand_31 ?_
      refine x_callS3 K (c4_isInBand r c (by omega) (by omega) b hb) mtX4_isInBand msX4_isInBand lkRX4_103 ⟨by decide, by decide, by decide⟩ rfl (Nat.le_of_ble_eq_true rfl) dX4_fillBand_32 ?_
      have b9 := gB1_bd (s_in r c b)
      refine x_if_eq (tgt := 57) K (by omega) dX4_fillBand_35 (by decide) (fun h35 => ?_) (fun h35 => ?_)
      · have hx : ¬ (z (20 + (8 * r + c)) = -1 ∧ s_in r c b) := fun q => by rw [gB1_t q.2] at h35; omega
        refine gWX.eq (σ' := gPut σ i (zFp z b (8 * r + (c + 1)))) (gPut_zc σ i (fun j _ => zFp_more b (by omega) (fun k h1 h3 => by
          obtain rfl : k = 8 * r + c := by omega
          exact fun q => hx (by rw [show (8 * r + c) / 8 = r by omega, show (8 * r + c) % 8 = c by omega] at q; exact q)) j)) ?_
        refine x_iinc_4 K dX4_fillBand_57 rfl ?_
        refine x_goto (tgt := 19) K dX4_fillBand_60 (by decide) ?_
        exact gWX.to rfl rfl ih
      · have hin : s_in r c b := Classical.byContradiction (fun q => h35 (gB1_f q))
        have b8 := q5 (8 * r + c) (by omega)
        refine x_aload_0 K dX4_fillBand_38 ?_
        refine x_iload_3 K dX4_fillBand_39 ?_
        refine x_iload_4 K dX4_fillBand_40 ?_
        refine x_callV2 K (c4_sign i hi r c (by omega) (by omega)) mtX4_sign miX4_sign rc3 ⟨by decide, hi⟩ lkRX4_63 ⟨by decide, by decide, by decide⟩ rfl (Nat.le_of_ble_eq_true rfl) dX4_fillBand_42 ?_
        refine gWX.top (b := z (20 + (8 * r + c))) (by rw [gPut_4, if_pos (by omega), zFp_at, if_neg (by omega)]) ?_
        refine x_iconst K dX4_fillBand_45 ?_
        refine x_icmp_ne (tgt := 57) K (by omega) dX4_fillBand_46 (by decide) (fun h46 => ?_) (fun h46 => ?_)
        · have hx : ¬ (z (20 + (8 * r + c)) = -1 ∧ s_in r c b) := fun q => h46 q.1
          refine gWX.eq (σ' := gPut σ i (zFp z b (8 * r + (c + 1)))) (gPut_zc σ i (fun j _ => zFp_more b (by omega) (fun k h1 h3 => by
            obtain rfl : k = 8 * r + c := by omega
            exact fun q => hx (by rw [show (8 * r + c) / 8 = r by omega, show (8 * r + c) % 8 = c by omega] at q; exact q)) j)) ?_
          refine x_iinc_4 K dX4_fillBand_57 rfl ?_
          refine x_goto (tgt := 19) K dX4_fillBand_60 (by decide) ?_
          exact gWX.to rfl rfl ih
        · refine x_aload_0 K dX4_fillBand_49 ?_
          refine x_iload_3 K dX4_fillBand_50 ?_
          refine x_iload_4 K dX4_fillBand_51 ?_
          refine x_iload_2 K dX4_fillBand_53 ?_
          refine x_callV3v K (c4_setSignQ i hi (zFp z b (8 * r + c)) (zFp z b (8 * r + (c + 1))) (zFp_Z hz hb _) r c (by omega) (by omega) _ (by omega) (fun j _ => zFp_one (by omega) (by omega) hin j)) mtX4_setSign miX4_setSign rc3 ⟨by decide, hi⟩ lkRX4_79 ⟨by decide, by decide, by decide⟩ rfl (Nat.le_of_ble_eq_true rfl) dX4_fillBand_54 ?_
          refine x_iinc_4 K dX4_fillBand_57 rfl ?_
          refine x_goto (tgt := 19) K dX4_fillBand_60 (by decide) ?_
          exact gWX.to rfl rfl ih
    · refine x_iload_4 K dX4_fillBand_19 ?_
      refine x_aload_0 K dX4_fillBand_21 ?_
      refine x_getI K gfRX4_31 ⟨by decide, hi⟩ dX4_fillBand_22 ?_
      refine gWX.top (b := z 1) ((gPut_s σ i _ (j := 1) (by omega)).trans (zFp_lo (by omega))) ?_
      refine x_icmp_ge (tgt := 63) K (by omega) dX4_fillBand_25 (by decide) (fun h25 => ?_) (fun h25 => absurd h25 (by omega))
      refine x_iinc_3 K dX4_fillBand_63 rfl ?_
      refine x_goto (tgt := 8) K dX4_fillBand_66 (by decide) ?_
      exact gWX.fgt 4 (gWX.to rfl (gPut_zc σ i (fun j _ => zFp_more b (by omega) (fun k h1 h3 => by
        have q := q6 r (by omega) (k - 8 * r) (by omega) (Or.inr (by omega))
        rw [show 8 * r + (k - 8 * r) = k by omega] at q
        omega) j)) ih)
  · refine x_iload_3 K dX4_fillBand_8 ?_
    refine x_aload_0 K dX4_fillBand_9 ?_
    refine x_getI K gfRX4_28 ⟨by decide, hi⟩ dX4_fillBand_10 ?_
    refine gWX.top (b := z 0) ((gPut_s σ i _ (j := 0) (by omega)).trans (zFp_lo (by omega))) ?_
    refine x_icmp_ge (tgt := 69) K (by omega) dX4_fillBand_13 (by decide) (fun h13 => ?_) (fun h13 => absurd h13 (by omega))
    exact x_vret K hE rfl dX4_fillBand_69 (by decide) (by decide) (gPut_zc σ i (fun j _ => zFp_more b (by omega) (fun k h1 h3 => by
  have q := q6 (k / 8) (by omega) (k % 8) (by omega) (Or.inl (by omega))
  rw [show 8 * (k / 8) + k % 8 = k by omega] at q
  omega) j))
theorem gFill_end {σ : gS} {i : Nat} {z y : Nat → Int} {k : Int} (h1 : (s_fill 48 z).1 = k) (h2 : (s_fill 48 z).2 = y) (h3 : y 5 = z 5) : gU (gPut σ i y) 3 i 9 ((gPut σ i y).1 3 i 9 + k) = gPut σ i (zFill z) := by
  rw [gPut_u (gScr_put σ i y) (by omega) (by omega), gPut_put]
  refine gPut_zc σ i (fun j hj => ?_)
  unfold zFill
  rw [show (gPut σ i y).1 3 i 9 = y 5 from gPut_s σ i y (j := 5) (by omega), h1, h2, h3]
theorem c4_fillCells {E : gE} {σ : gS} (i : Nat) (hi : i < 56) (z : Nat → Int) (h : gScr σ i z) (hz : gZ z) : gCt E mX4_fillCells 4 0 [rf 3 i] σ (.inl (some (iv ((s_fill 48 z).1)))) (gPut σ i (zFill z)) := by
  refine gCt_of (L := [some (rf 3 i), none, none]) (by decide +kernel) rfl rfl (Nat.le_of_ble_eq_true rfl) (fun X K hE => ?_)
  refine x_iconst K dX4_fillCells_0 ?_
  refine x_istore_1 K dX4_fillCells_1 rfl ?_
  refine x_aload_0 K dX4_fillCells_2 ?_
  refine x_callV0 K (c4_bandToFill i hi z h hz) mtX4_bandToFill miX4_bandToFill rc3 ⟨by decide, hi⟩ lkRX4_137 ⟨by decide, by decide, by decide⟩ rfl (Nat.le_of_ble_eq_true rfl) dX4_fillCells_3 ?_
  refine x_istore_2 K dX4_fillCells_6 rfl ?_
  refine gLp (P := fun k : Nat => ∀ y : Nat → Int, (gZ y ∧ y 5 = z 5 ∧ (s_fill 48 z).1 = (k : Int) + (s_fill (48 - k) y).1 ∧ (s_fill 48 z).2 = (s_fill (48 - k) y).2) → gWX X E 0 0 7 [some (rf 3 i), some (iv (k : Int)), some (iv (s_bf y))] [] (gPut σ i y)) (48) (fun k0 => ?_) (fun k hk ih => ?_) ?_
  · exact gWX.to rfl (gPut_self h).symm (k0 z ⟨hz, rfl, (Int.zero_add _).symm, rfl⟩)
  · intro y hy
    have b7 : -1 ≤ s_bf y ∧ s_bf y < ((0 + 14 : Nat) : Int) := gFst_bd (fun b => decide (s_m y b = 1)) 14 0
    refine x_iload_1 K dX4_fillCells_7 ?_
    refine x_bipush K dX4_fillCells_8 rfl ?_
    refine x_icmp_ge (tgt := 34) K (by omega) dX4_fillCells_10 (by decide) (fun h10 => absurd h10 (by omega)) (fun h10 => ?_)
    refine x_iload_2 K dX4_fillCells_13 ?_
    refine x_iconst K dX4_fillCells_14 ?_
    refine x_icmp_eq (tgt := 34) K (by omega) dX4_fillCells_15 (by decide) (fun h15 => ?_) (fun h15 => ?_)
    · have hs0 : s_fill (48 - k) y = (0, y) := by
        rw [show 48 - k = (48 - (k + 1)) + 1 by omega]
        exact if_pos h15
      refine x_aload_0 K dX4_fillCells_34 ?_
      refine x_dup K dX4_fillCells_35 rfl ?_
      refine x_getI K gfRX4_41 ⟨by decide, hi⟩ dX4_fillCells_36 ?_
      refine x_iload_1 K dX4_fillCells_39 ?_
      refine x_iadd K dX4_fillCells_40 ?_
      refine x_putI K gpRX4_41 ⟨by decide, hi⟩ dX4_fillCells_41 ?_
      refine x_iload_1 K dX4_fillCells_44 ?_
      exact x_iret K hE rfl dX4_fillCells_45 (by decide) (by decide) (by rw [hy.2.2.1, hs0]; exact (Int.add_zero _).symm) (gFill_end (by rw [hy.2.2.1, hs0]; exact Int.add_zero _) (by rw [hy.2.2.2, hs0]) hy.2.1)
    · have hs0 : s_fill (48 - k) y = ((s_fill (48 - (k + 1)) (zF1 y)).1 + 1, (s_fill (48 - (k + 1)) (zF1 y)).2) := by
        rw [show 48 - k = (48 - (k + 1)) + 1 by omega]
        exact if_neg h15
      obtain ⟨x, ex, px, _, hx, _⟩ := gFst_yes (p := fun b => decide (s_m y b = 1)) (n := 14) (a := 0) h15
      have ex2 : s_bf y = (x : Int) := ex
      have ex3 : zF1 y = zFp y x 48 := by unfold zF1; rw [ex2]; rfl
      have hy3 : gZ (zF1 y) := by rw [ex3]; exact zFp_Z hy.1 (by omega) 48
      have hy4 : zF1 y 5 = z 5 := by rw [ex3]; exact (zFp_lo (by omega)).trans hy.2.1
      have hy5 : (s_fill 48 z).1 = ((k + 1 : Nat) : Int) + (s_fill (48 - (k + 1)) (zF1 y)).1 := by
        rw [hy.2.2.1, hs0]
        show (k : Int) + ((s_fill (48 - (k + 1)) (zF1 y)).1 + 1) = _
        omega
      have hy6 : (s_fill 48 z).2 = (s_fill (48 - (k + 1)) (zF1 y)).2 := by rw [hy.2.2.2, hs0]
      refine x_aload_0 K dX4_fillCells_18 ?_
      refine x_iload_2 K dX4_fillCells_19 ?_
      refine gWX.top (b := (x : Int)) ex2 ?_
      refine x_callV1v K (c4_fillBand i hi y (gScr_put σ i y) hy.1 x (by omega)) mtX4_fillBand miX4_fillBand rc3 ⟨by decide, hi⟩ lkRX4_140 ⟨by decide, by decide, by decide⟩ rfl (Nat.le_of_ble_eq_true rfl) dX4_fillCells_20 ?_
      rw [gPut_put, ← ex3]
      refine x_iinc_1 K dX4_fillCells_23 rfl ?_
      refine x_aload_0 K dX4_fillCells_26 ?_
      refine x_callV0 K (c4_bandToFill i hi (zF1 y) (gScr_put σ i _) hy3) mtX4_bandToFill miX4_bandToFill rc3 ⟨by decide, hi⟩ lkRX4_137 ⟨by decide, by decide, by decide⟩ rfl (Nat.le_of_ble_eq_true rfl) dX4_fillCells_27 ?_
      refine x_istore_2 K dX4_fillCells_30 rfl ?_
      refine x_goto (tgt := 7) K dX4_fillCells_31 (by decide) ?_
      exact gWX.to rfl rfl (ih (zF1 y) ⟨hy3, hy4, hy5, hy6⟩)
  · intro y hy
    refine x_iload_1 K dX4_fillCells_7 ?_
    refine x_bipush K dX4_fillCells_8 rfl ?_
    refine x_icmp_ge (tgt := 34) K (by omega) dX4_fillCells_10 (by decide) (fun h10 => ?_) (fun h10 => absurd h10 (by omega))
    refine x_aload_0 K dX4_fillCells_34 ?_
    refine x_dup K dX4_fillCells_35 rfl ?_
    refine x_getI K gfRX4_41 ⟨by decide, hi⟩ dX4_fillCells_36 ?_
    refine x_iload_1 K dX4_fillCells_39 ?_
    refine x_iadd K dX4_fillCells_40 ?_
    refine x_putI K gpRX4_41 ⟨by decide, hi⟩ dX4_fillCells_41 ?_
    refine x_iload_1 K dX4_fillCells_44 ?_
    exact x_iret K hE rfl dX4_fillCells_45 (by decide) (by decide) (by rw [hy.2.2.1]; exact (Int.add_zero _).symm) (gFill_end (by rw [hy.2.2.1]; exact Int.add_zero _) hy.2.2.2 hy.2.1)
theorem gClr_at (σ : gS) (k i n a b c : Nat) : (gClr σ k i n).1 a b c = if a = k ∧ b = i ∧ c < n then 0 else σ.1 a b c := rfl
theorem zNew_b (r c : Int) {b : Nat} (hb : b < 14) : s_b (zNew r c) b = 0 := by
  rw [s_b_cong (y := fun _ => 0) (fun j h1 h2 => by unfold zNew; rw [if_neg (by omega), if_neg (by omega), if_neg (by omega)]) hb]
  unfold s_b
  split
  · exact gSum_zero 8 (fun k hk => rfl)
  · exact gSum_zero 6 (fun k hk => rfl)
theorem zNew_m (r c : Int) {b : Nat} (hb : b < 14) : s_m (zNew r c) b = 0 := by
  rw [s_m_cong (y := fun _ => 0) (fun j h1 h2 => by unfold zNew; rw [if_neg (by omega), if_neg (by omega), if_neg (by omega)]) hb]
  unfold s_m
  split
  · exact gSum_zero 8 (fun k hk => rfl)
  · exact gSum_zero 6 (fun k hk => rfl)
theorem zNew_Z {r c : Int} (hr : 1 ≤ r ∧ r ≤ 6) (hc : 1 ≤ c ∧ c ≤ 8) : gZ (zNew r c) := by
  have e : ∀ j, 4 ≤ j → zNew r c j = 0 := fun j hj => by unfold zNew; rw [if_neg (by omega), if_neg (by omega), if_neg (by omega)]
  refine ⟨hr, hc, Or.inl rfl, ⟨(by show (-1 : Int) ≤ -1; omega), (by show (-1 : Int) ≤ 4; omega)⟩, fun b _ => by rw [e _ (by omega)]; decide, fun j _ => by rw [e _ (by omega)]; decide, fun a _ b _ _ => e _ (by omega), fun a _ _ => e _ (by omega), fun b _ _ => e _ (by omega)⟩
theorem c4_begin {E : gE} {σ : gS} (i : Nat) (hi : i < 56) (r c : Int) : gCt E mX4_begin 2 0 [rf 3 i, iv r, iv c] σ (.inl none) (gPut σ i (zNew r c)) := by
  refine gCt_of (L := [some (rf 3 i), some (iv r), some (iv c)]) (by decide +kernel) rfl rfl (Nat.le_of_ble_eq_true rfl) (fun X K hE => ?_)
  refine x_aload_0 K dX4_begin_0 ?_
  refine x_iload_1 K dX4_begin_1 ?_
  refine x_putI K gpRX4_28 ⟨by decide, hi⟩ dX4_begin_2 ?_
  refine x_aload_0 K dX4_begin_5 ?_
  refine x_iload_2 K dX4_begin_6 ?_
  refine x_putI K gpRX4_31 ⟨by decide, hi⟩ dX4_begin_7 ?_
  refine x_aload_0 K dX4_begin_10 ?_
  refine x_iconst K dX4_begin_11 ?_
  refine x_putZ K gpRX4_34 ⟨by decide, hi⟩ (by omega) dX4_begin_12 ?_
  refine x_aload_0 K dX4_begin_15 ?_
  refine x_iconst K dX4_begin_16 ?_
  refine x_putI K gpRX4_24 ⟨by decide, hi⟩ dX4_begin_17 ?_
  refine x_aload_0 K dX4_begin_20 ?_
  refine x_iconst K dX4_begin_21 ?_
  refine x_putI K gpRX4_38 ⟨by decide, hi⟩ dX4_begin_22 ?_
  refine x_aload_0 K dX4_begin_25 ?_
  refine x_iconst K dX4_begin_26 ?_
  refine x_putI K gpRX4_41 ⟨by decide, hi⟩ dX4_begin_27 ?_
  refine x_aload_0 K dX4_begin_30 ?_
  refine x_getR K gfRX4_9 ⟨by decide, hi⟩ dX4_begin_31 ?_
  refine x_callS1v K (c6_clear (k := 4) (i := i) rfl ⟨by decide, hi⟩) mtX6_clear msX6_clear lkRX4_44 ⟨by decide, by decide, by decide⟩ rfl (Nat.le_of_ble_eq_true rfl) dX4_begin_34 ?_
  refine x_aload_0 K dX4_begin_37 ?_
  refine x_getR K gfRX4_15 ⟨by decide, hi⟩ dX4_begin_38 ?_
  refine x_callS1v K (c6_clear (k := 5) (i := i) rfl ⟨by decide, hi⟩) mtX6_clear msX6_clear lkRX4_44 ⟨by decide, by decide, by decide⟩ rfl (Nat.le_of_ble_eq_true rfl) dX4_begin_41 ?_
  refine x_aload_0 K dX4_begin_44 ?_
  refine x_getR K gfRX4_18 ⟨by decide, hi⟩ dX4_begin_45 ?_
  refine x_callS1v K (c6_clear (k := 6) (i := i) rfl ⟨by decide, hi⟩) mtX6_clear msX6_clear lkRX4_44 ⟨by decide, by decide, by decide⟩ rfl (Nat.le_of_ble_eq_true rfl) dX4_begin_48 ?_
  refine x_aload_0 K dX4_begin_51 ?_
  refine x_getR K gfRX4_21 ⟨by decide, hi⟩ dX4_begin_52 ?_
  refine x_callS1v K (c6_clear (k := 7) (i := i) rfl ⟨by decide, hi⟩) mtX6_clear msX6_clear lkRX4_44 ⟨by decide, by decide, by decide⟩ rfl (Nat.le_of_ble_eq_true rfl) dX4_begin_55 ?_
  exact x_vret K hE rfl dX4_begin_58 (by decide) (by decide) (by
    refine gPut_eq ⟨?_, ?_, ?_, ?_, ?_, ?_, fun j hj => ?_, fun b hb => ?_, fun b hb => ?_, fun b hb => ?_⟩ rfl (fun a b c hn => ?_)
    · simp [gClr_at, gU_at, zNew]
    · simp [gClr_at, gU_at, zNew]
    · simp [gClr_at, gU_at, zNew]
    · simp [gClr_at, gU_at, zNew]
    · simp [gClr_at, gU_at, zNew]
    · simp [gClr_at, gU_at, zNew]
    · simp [gClr_at, gU_at, zNew, hj]; omega
    · rw [zNew_b r c hb]; simp [gClr_at, gU_at, hb]
    · rw [zNew_m r c hb]; simp [gClr_at, gU_at, hb]
    · simp [gClr_at, gU_at, zNew, hb]; omega
    · simp only [gClr_at, gU_at]
      repeat rw [if_neg (by omega)])
theorem c4_become {E : gE} {σ : gS} (i : Nat) (hi : i < 56) (k : Nat) (hk : k < 56) (hki : k ≠ i) (z : Nat → Int) (h : gScr σ k z) (hz : gZ z) : gCt E mX4_become 3 0 [rf 3 i, rf 3 k] σ (.inl none) (gPut σ i z) := by
  refine gCt_of (L := [some (rf 3 i), some (rf 3 k)]) (by decide +kernel) rfl rfl (Nat.le_of_ble_eq_true rfl) (fun X K hE => ?_)
  have ⟨e0, e1, e2, e3, e4, e5, es, eb, em, et⟩ := h
  have ⟨q0, q1, q2, q3, q4, q5, q6, q7, q8⟩ := hz
  refine x_aload_0 K dX4_become_0 ?_
  refine x_aload_1 K dX4_become_1 ?_
  refine x_getI K gfRX4_28 ⟨by decide, hk⟩ dX4_become_2 ?_
  refine x_putI K gpRX4_28 ⟨by decide, hi⟩ dX4_become_5 ?_
  refine x_aload_0 K dX4_become_8 ?_
  refine x_aload_1 K dX4_become_9 ?_
  refine x_getI K gfRX4_31 ⟨by decide, hk⟩ dX4_become_10 ?_
  refine x_putI K gpRX4_31 ⟨by decide, hi⟩ dX4_become_13 ?_
  refine x_aload_0 K dX4_become_16 ?_
  refine x_aload_1 K dX4_become_17 ?_
  refine x_getI K gfRX4_34 ⟨by decide, hk⟩ dX4_become_18 ?_
  refine gWX.top (b := z 2) (by simp only [gU_at]; rw [if_neg (by omega), if_neg (by omega)]; exact e2) ?_
  refine x_putZ K gpRX4_34 ⟨by decide, hi⟩ (by omega) dX4_become_21 ?_
  refine x_aload_0 K dX4_become_24 ?_
  refine x_aload_1 K dX4_become_25 ?_
  refine x_getI K gfRX4_24 ⟨by decide, hk⟩ dX4_become_26 ?_
  refine x_putI K gpRX4_24 ⟨by decide, hi⟩ dX4_become_29 ?_
  refine x_aload_0 K dX4_become_32 ?_
  refine x_aload_1 K dX4_become_33 ?_
  refine x_getI K gfRX4_38 ⟨by decide, hk⟩ dX4_become_34 ?_
  refine x_putI K gpRX4_38 ⟨by decide, hi⟩ dX4_become_37 ?_
  refine x_aload_0 K dX4_become_40 ?_
  refine x_aload_1 K dX4_become_41 ?_
  refine x_getI K gfRX4_41 ⟨by decide, hk⟩ dX4_become_42 ?_
  refine x_putI K gpRX4_41 ⟨by decide, hi⟩ dX4_become_45 ?_
  refine x_aload_1 K dX4_become_48 ?_
  refine x_getR K gfRX4_9 ⟨by decide, hk⟩ dX4_become_49 ?_
  refine x_aload_0 K dX4_become_52 ?_
  refine x_getR K gfRX4_9 ⟨by decide, hi⟩ dX4_become_53 ?_
  refine x_callS2v K (c6_transfer (k0 := 4) (i0 := k) (k := 4) (i := i) rfl rfl ⟨by decide, hk⟩ ⟨by decide, hi⟩) mtX6_transfer msX6_transfer lkRX4_48 ⟨by decide, by decide, by decide⟩ rfl (Nat.le_of_ble_eq_true rfl) dX4_become_56 ?_
  refine x_aload_1 K dX4_become_59 ?_
  refine x_getR K gfRX4_15 ⟨by decide, hk⟩ dX4_become_60 ?_
  refine x_aload_0 K dX4_become_63 ?_
  refine x_getR K gfRX4_15 ⟨by decide, hi⟩ dX4_become_64 ?_
  refine x_callS2v K (c6_transfer (k0 := 5) (i0 := k) (k := 5) (i := i) rfl rfl ⟨by decide, hk⟩ ⟨by decide, hi⟩) mtX6_transfer msX6_transfer lkRX4_48 ⟨by decide, by decide, by decide⟩ rfl (Nat.le_of_ble_eq_true rfl) dX4_become_67 ?_
  refine x_aload_1 K dX4_become_70 ?_
  refine x_getR K gfRX4_18 ⟨by decide, hk⟩ dX4_become_71 ?_
  refine x_aload_0 K dX4_become_74 ?_
  refine x_getR K gfRX4_18 ⟨by decide, hi⟩ dX4_become_75 ?_
  refine x_callS2v K (c6_transfer (k0 := 6) (i0 := k) (k := 6) (i := i) rfl rfl ⟨by decide, hk⟩ ⟨by decide, hi⟩) mtX6_transfer msX6_transfer lkRX4_48 ⟨by decide, by decide, by decide⟩ rfl (Nat.le_of_ble_eq_true rfl) dX4_become_78 ?_
  refine x_aload_1 K dX4_become_81 ?_
  refine x_getR K gfRX4_21 ⟨by decide, hk⟩ dX4_become_82 ?_
  refine x_aload_0 K dX4_become_85 ?_
  refine x_getR K gfRX4_21 ⟨by decide, hi⟩ dX4_become_86 ?_
  refine x_callS2v K (c6_transfer (k0 := 7) (i0 := k) (k := 7) (i := i) rfl rfl ⟨by decide, hk⟩ ⟨by decide, hi⟩) mtX6_transfer msX6_transfer lkRX4_48 ⟨by decide, by decide, by decide⟩ rfl (Nat.le_of_ble_eq_true rfl) dX4_become_89 ?_
  exact x_vret K hE rfl dX4_become_92 (by decide) (by decide) (by
    refine gPut_eq ⟨?_, ?_, ?_, ?_, ?_, ?_, fun j hj => ?_, fun b hb => ?_, fun b hb => ?_, fun b hb => ?_⟩ rfl (fun a b c hn => ?_)
    · simp [gCp_at, gU_at, hki]; exact e0
    · simp [gCp_at, gU_at, hki]; exact e1
    · simp [gCp_at, gU_at, hki]
    · simp [gCp_at, gU_at, hki]; exact e3
    · simp [gCp_at, gU_at, hki]; exact e4
    · simp [gCp_at, gU_at, hki]; exact e5
    · simp [gCp_at, gU_at, hki, hj]; exact es j hj
    · simp [gCp_at, gU_at, hki, hb]; exact eb b hb
    · simp [gCp_at, gU_at, hki, hb]; exact em b hb
    · simp [gCp_at, gU_at, hki, hb]; exact et b hb
    · simp only [gCp_at, gU_at]
      repeat rw [if_neg (by omega)])
theorem c4_countAsCopyOf {E : gE} {σ : gS} (i : Nat) (hi : i < 56) (z : Nat → Int) (h : gScr σ i z) (n : Int) : gCt E mX4_countAsCopyOf 1 0 [rf 3 i, iv n] σ (.inl none) (gPut σ i (zCopy z n)) := by
  refine gCt_of (L := [some (rf 3 i), some (iv n)]) (by decide +kernel) rfl rfl (Nat.le_of_ble_eq_true rfl) (fun X K hE => ?_)
  refine x_aload_0 K dX4_countAsCopyOf_0 ?_
  refine x_iload_1 K dX4_countAsCopyOf_1 ?_
  refine x_putI K gpRX4_24 ⟨by decide, hi⟩ dX4_countAsCopyOf_2 ?_
  refine x_aload_0 K dX4_countAsCopyOf_5 ?_
  refine x_iconst K dX4_countAsCopyOf_6 ?_
  refine x_putI K gpRX4_38 ⟨by decide, hi⟩ dX4_countAsCopyOf_7 ?_
  refine x_aload_0 K dX4_countAsCopyOf_10 ?_
  refine x_iconst K dX4_countAsCopyOf_11 ?_
  refine x_putI K gpRX4_41 ⟨by decide, hi⟩ dX4_countAsCopyOf_12 ?_
  exact x_vret K hE rfl dX4_countAsCopyOf_15 (by decide) (by decide) (by rw [gPut_u h (by omega) (by omega), gPut_u (gScr_put _ _ _) (by omega) (by omega), gPut_put, gPut_u (gScr_put _ _ _) (by omega) (by omega), gPut_put]; exact gPut_zc σ i (fun j _ => by unfold zCopy; (try dsimp only); (repeat' split) <;> omega))
def s_tl (z : Nat → Int) (b : Nat) : Int := if b < 6 then s_b z b % 10 else 0
def s_tt (z : Nat → Int) : Int := gSum (fun b => s_b z b % 10) 6
theorem s_tl_all (z : Nat → Int) : gSum (s_tl z) 14 = s_tt z := by
  rw [show (14 : Nat) = 6 + 8 from rfl, gSum_more 8 (fun k h1 _ => by unfold s_tl; rw [if_neg (by omega)])]
  exact gSum_cong 6 (fun k hk => if_pos hk)
def gTl (σ : gS) (i : Nat) (z : Nat → Int) (n : Nat) : gS := (fun a b c => if a = 7 ∧ b = i ∧ c < n then s_b z c % 10 else σ.1 a b c, σ.2)
theorem gTl_at (σ : gS) (i : Nat) (z : Nat → Int) (n a b c : Nat) : (gTl σ i z n).1 a b c = if a = 7 ∧ b = i ∧ c < n then s_b z c % 10 else σ.1 a b c := rfl
theorem gTl_0 (σ : gS) (i : Nat) (z : Nat → Int) : σ = gTl σ i z 0 := gS_ext (fun a b c => by rw [gTl_at, if_neg (fun h => Nat.not_lt_zero _ h.2.2)]) rfl
theorem gTl_1 (σ : gS) (i : Nat) (z : Nat → Int) (n : Nat) : gU (gTl σ i z n) 7 i n (s_b z n % 10) = gTl σ i z (n + 1) := gS_ext (fun a b c => by
  rw [gU_at, gTl_at, gTl_at]
  by_cases q : a = 7 ∧ b = i ∧ c = n
  · rw [if_pos q, if_pos ⟨q.1, q.2.1, by omega⟩, q.2.2]
  · rw [if_neg q]
    by_cases q2 : a = 7 ∧ b = i ∧ c < n
    · rw [if_pos q2, if_pos ⟨q2.1, q2.2.1, by omega⟩]
    · rw [if_neg q2, if_neg (fun y => by omega)]) rfl
theorem zTell_b (z : Nat → Int) {b : Nat} (hb : b < 14) : s_b (zTell z) b = s_b z b := s_b_cong (fun k h1 h2 => by unfold zTell; rw [if_neg (by omega), if_neg (by omega)]) hb
theorem zTell_m (z : Nat → Int) {b : Nat} (hb : b < 14) : s_m (zTell z) b = s_m z b := s_m_cong (fun k h1 h2 => by unfold zTell; rw [if_neg (by omega), if_neg (by omega)]) hb
theorem gTl_end {σ : gS} {i : Nat} {z : Nat → Int} (h : gScr σ i z) : gU (gTl σ i z 14) 3 i 6 1 = gPut σ i (zTell z) := by
  have ⟨e0, e1, e2, e3, e4, e5, es, eb, em, et⟩ := h
  refine gPut_eq ⟨?_, ?_, ?_, ?_, ?_, ?_, fun j hj => ?_, fun b hb => ?_, fun b hb => ?_, fun b hb => ?_⟩ rfl (fun a b c hn => ?_)
  · simp [gTl_at, gU_at, zTell]; exact e0
  · simp [gTl_at, gU_at, zTell]; exact e1
  · simp [gTl_at, gU_at, zTell]
  · simp [gTl_at, gU_at, zTell]; exact e3
  · simp [gTl_at, gU_at, zTell]; exact e4
  · simp [gTl_at, gU_at, zTell]; exact e5
  · rw [gU_at, if_neg (by omega), gTl_at, if_neg (by omega), es j hj]; unfold zTell; rw [if_neg (by omega), if_neg (by omega)]
  · rw [gU_at, if_neg (by omega), gTl_at, if_neg (by omega), eb b hb, zTell_b z hb]
  · rw [gU_at, if_neg (by omega), gTl_at, if_neg (by omega), em b hb, zTell_m z hb]
  · rw [gU_at, if_neg (by omega), gTl_at, if_pos ⟨rfl, rfl, hb⟩]; unfold zTell; rw [if_neg (by omega), if_pos (by omega), show 6 + b - 6 = b by omega]
  · rw [gU_at, if_neg (by omega), gTl_at, if_neg (by omega)]
theorem c4_tellSums {E : gE} {σ : gS} (i : Nat) (hi : i < 56) (z : Nat → Int) (h : gScr σ i z) (hz : gZ z) : gCt E mX4_tellSums 2 0 [rf 3 i] σ (.inl (some (iv (s_tt z)))) (gPut σ i (zTell z)) := by
  refine gCt_of (L := [some (rf 3 i), none, none, none]) (by decide +kernel) rfl rfl (Nat.le_of_ble_eq_true rfl) (fun X K hE => ?_)
  have ⟨e0, e1, e2, e3, e4, e5, es, eb, em, et⟩ := h
  have ⟨q0, q1, q2, q3, q4, q5, q6, q7, q8⟩ := hz
  refine x_iconst K dX4_tellSums_0 ?_
  refine x_istore_1 K dX4_tellSums_1 rfl ?_
  refine x_iconst K dX4_tellSums_2 ?_
  refine x_istore_2 K dX4_tellSums_3 rfl ?_
  refine gLp (P := fun b : Nat => gWX X E 0 0 4 [some (rf 3 i), some (iv (gSum (s_tl z) b)), some (iv (b : Int)), none] [] (gTl σ i z b)) (14) (fun k0 => ?_) (fun b hb ih => ?_) ?_
  · exact gWX.to rfl (gTl_0 σ i z) (k0)
  · refine x_iload_2 K dX4_tellSums_4 ?_
    refine x_bipush K dX4_tellSums_5 rfl ?_
    refine x_icmp_ge (tgt := 51) K (by omega) dX4_tellSums_7 (by decide) (fun h7 => absurd h7 (by omega)) (fun h7 => ?_)
    refine x_aload_0 K dX4_tellSums_10 ?_
    refine x_getR K gfRX4_15 ⟨by decide, hi⟩ dX4_tellSums_11 ?_
    refine x_iload_2 K dX4_tellSums_14 ?_
    refine x_callS2 K (c6_entry (k := 5) (i := i) rfl ⟨by decide, hi⟩ (b) (by omega)) mtX6_entry msX6_entry lkRX4_59 ⟨by decide, by decide, by decide⟩ rfl (Nat.le_of_ble_eq_true rfl) dX4_tellSums_15 ?_
    refine gWX.top (b := s_b z b) (by rw [gTl_at, if_neg (by omega)]; exact eb b (by omega)) ?_
    have b3 := s_b_bd hz (b := b) (by omega)
    refine x_bipush K dX4_tellSums_18 rfl ?_
    refine x_irem K (by omega) dX4_tellSums_20 ?_
    refine x_istore_3 K dX4_tellSums_21 rfl ?_
    refine x_aload_0 K dX4_tellSums_22 ?_
    refine x_getR K gfRX4_21 ⟨by decide, hi⟩ dX4_tellSums_23 ?_
    refine x_iload_2 K dX4_tellSums_26 ?_
    refine x_iload_3 K dX4_tellSums_27 ?_
    refine x_callS3v K (c6_put (k := 7) (i := i) rfl ⟨by decide, hi⟩ b (by omega) _) mtX6_put msX6_put lkRX4_72 ⟨by decide, by decide, by decide⟩ rfl (Nat.le_of_ble_eq_true rfl) dX4_tellSums_28 ?_
    refine x_iload_1 K dX4_tellSums_31 ?_
    refine x_iload_2 K dX4_tellSums_32 ?_
    refine x_bipush K dX4_tellSums_33 rfl ?_
    refine x_icmp_ge (tgt := 42) K (by omega) dX4_tellSums_35 (by decide) (fun h35 => ?_) (fun h35 => ?_)
    · refine x_iconst K dX4_tellSums_42 ?_
      refine x_iadd K dX4_tellSums_43 ?_
      refine gWX.top (b := gSum (s_tl z) b + s_tl z b) (congrArg (gSum (s_tl z) b + ·) (by unfold s_tl; split <;> omega)) ?_
      refine x_istore_1 K dX4_tellSums_44 rfl ?_
      refine x_iinc_2 K dX4_tellSums_45 rfl ?_
      refine x_goto (tgt := 4) K dX4_tellSums_48 (by decide) ?_
      exact gWX.fgt 3 (gWX.to rfl (gTl_1 σ i z b) ih)
    · refine x_iload_3 K dX4_tellSums_38 ?_
      refine x_goto (tgt := 43) K dX4_tellSums_39 (by decide) ?_
      refine x_iadd K dX4_tellSums_43 ?_
      refine gWX.top (b := gSum (s_tl z) b + s_tl z b) (congrArg (gSum (s_tl z) b + ·) (by unfold s_tl; split <;> omega)) ?_
      refine x_istore_1 K dX4_tellSums_44 rfl ?_
      refine x_iinc_2 K dX4_tellSums_45 rfl ?_
      refine x_goto (tgt := 4) K dX4_tellSums_48 (by decide) ?_
      exact gWX.fgt 3 (gWX.to rfl (gTl_1 σ i z b) ih)
  · refine x_iload_2 K dX4_tellSums_4 ?_
    refine x_bipush K dX4_tellSums_5 rfl ?_
    refine x_icmp_ge (tgt := 51) K (by omega) dX4_tellSums_7 (by decide) (fun h7 => ?_) (fun h7 => absurd h7 (by omega))
    refine x_aload_0 K dX4_tellSums_51 ?_
    refine x_iconst K dX4_tellSums_52 ?_
    refine x_putZ K gpRX4_34 ⟨by decide, hi⟩ (by omega) dX4_tellSums_53 ?_
    refine x_iload_1 K dX4_tellSums_56 ?_
    exact x_iret K hE rfl dX4_tellSums_57 (by decide) (by decide) (s_tl_all z) (gTl_end h)
def s_ib (z : Nat → Int) (b r c : Nat) : Int := if s_in r c b then z (20 + (8 * r + c)) else 0
theorem s_b_in {z : Nat → Int} (hz : gZ z) (hp : ∀ r, r < 6 → ∀ c, c < 8 → 0 ≤ z (20 + (8 * r + c))) {b : Nat} (hb : b < 14) : gSum (fun r => gSum (s_ib z b r) (z 1).toNat) (z 0).toNat = s_b z b := by
  have q0 := hz.1
  have q1 := hz.2.1
  have q6 := hz.2.2.2.2.2.2.1
  have hc : ∀ r, r < 6 → gSum (s_ib z b r) (z 1).toNat = gSum (s_ib z b r) 8 := fun r hr => by
    have := gSum_more (f := s_ib z b r) (n := (z 1).toNat) (8 - (z 1).toNat) (fun k h1 h2 => by
      unfold s_ib
      rw [q6 r hr k (by omega) (Or.inr (by omega))]
      split <;> rfl)
    rw [show (z 1).toNat + (8 - (z 1).toNat) = 8 by omega] at this
    exact this.symm
  have h1 : gSum (fun r => gSum (s_ib z b r) (z 1).toNat) (z 0).toNat = gSum (fun r => gSum (s_ib z b r) 8) 6 := by
    rw [gSum_cong (z 0).toNat (fun r hr => hc r (by omega))]
    have := gSum_more (f := fun r => gSum (s_ib z b r) 8) (n := (z 0).toNat) (6 - (z 0).toNat) (fun k h1 h2 => gSum_zero 8 (fun c hc => by
      unfold s_ib
      rw [q6 k (by omega) c hc (Or.inl (by omega))]
      split <;> rfl))
    rw [show (z 0).toNat + (6 - (z 0).toNat) = 6 by omega] at this
    exact this.symm
  rw [h1]
  unfold s_b
  split
  · rename_i h6
    rw [gSum_cong 6 (g := fun r => if r = b then s_rs z b else 0) (fun r hr => ?_), gSum_one, if_pos h6]
    try dsimp only
    by_cases e : r = b
    · subst e
      rw [if_pos rfl]
      exact gSum_cong 8 (fun c hc => by
        have := hp r hr c hc
        unfold s_ib
        rw [if_pos (Or.inl rfl)]; (try dsimp only); omega)
    · rw [if_neg e]
      exact gSum_zero 8 (fun c hc => if_neg (by unfold s_in; omega))
  · rename_i h6
    exact gSum_cong 6 (fun r hr => by
      try dsimp only
      rw [gSum_cong 8 (g := fun c => if c = b - 6 then max 0 (z (20 + (8 * r + (b - 6)))) else 0) (fun c hc => ?_), gSum_one, if_pos (by omega)]
      try dsimp only
      by_cases e : c = b - 6
      · subst e
        have := hp r hr (b - 6) (by omega)
        unfold s_ib
        rw [if_pos rfl, if_pos (by unfold s_in; omega)]; omega
      · rw [if_neg e]
        exact if_neg (by unfold s_in; omega))
theorem c4_hasToldSums {E : gE} {σ : gS} (i : Nat) (hi : i < 56) (z : Nat → Int) (h : gScr σ i z) (hz : gZ z) (hall : ∀ b, b < 14 → z (6 + b) = s_b z b % 10) (hp : ∀ r, r < 6 → ∀ c, c < 8 → 0 ≤ z (20 + (8 * r + c))) : gCt E mX4_hasToldSums 3 0 [rf 3 i] σ (.inl (some (iv (1)))) σ := by
  refine gCt_of (L := [some (rf 3 i), none, none, none, none]) (by decide +kernel) rfl rfl (Nat.le_of_ble_eq_true rfl) (fun X K hE => ?_)
  have ⟨e0, e1, e2, e3, e4, e5, es, eb, em, et⟩ := h
  have ⟨q0, q1, q2, q3, q4, q5, q6, q7, q8⟩ := hz
  refine x_iconst K dX4_hasToldSums_0 ?_
  refine x_istore_1 K dX4_hasToldSums_1 rfl ?_
  refine gLp (P := fun b : Nat => gWX X E 0 0 2 [some (rf 3 i), some (iv (b : Int)), none, none, none] [] (σ)) (14) (fun k0 => ?_) (fun b hb ih => ?_) ?_
  · exact gWX.to rfl rfl (k0)
  · refine x_iload_1 K dX4_hasToldSums_2 ?_
    refine x_bipush K dX4_hasToldSums_3 rfl ?_
    refine x_icmp_ge (tgt := 88) K (by omega) dX4_hasToldSums_5 (by decide) (fun h5 => absurd h5 (by omega)) (fun h5 => ?_)
    refine x_iconst K dX4_hasToldSums_8 ?_
    refine x_istore_2 K dX4_hasToldSums_9 rfl ?_
    refine x_iconst K dX4_hasToldSums_10 ?_
    refine x_istore_3 K dX4_hasToldSums_11 rfl ?_
    refine gLp (P := fun r : Nat => gWX X E 0 0 12 [some (rf 3 i), some (iv (b : Int)), some (iv (gSum (fun r => gSum (s_ib z b r) (z 1).toNat) r)), some (iv (r : Int)), none] [] (σ)) ((z 0).toNat) (fun k0 => ?_) (fun r hr ih => ?_) ?_
    · exact gWX.to rfl rfl (k0)
    · refine x_iload_3 K dX4_hasToldSums_12 ?_
      refine x_aload_0 K dX4_hasToldSums_13 ?_
      refine x_getI K gfRX4_28 ⟨by decide, hi⟩ dX4_hasToldSums_14 ?_
      refine x_icmp_ge (tgt := 68) K (by omega) dX4_hasToldSums_17 (by decide) (fun h17 => absurd h17 (by omega)) (fun h17 => ?_)
      refine x_iconst K dX4_hasToldSums_20 ?_
      refine x_istore_4 K dX4_hasToldSums_21 rfl ?_
      refine gLp (P := fun c : Nat => gWX X E 0 0 23 [some (rf 3 i), some (iv (b : Int)), some (iv (gSum (fun r => gSum (s_ib z b r) (z 1).toNat) r + gSum (s_ib z b r) c)), some (iv (r : Int)), some (iv (c : Int))] [] (σ)) ((z 1).toNat) (fun k0 => ?_) (fun c hc ih => ?_) ?_
      · exact gWX.to (by simp only [gSum, Int.add_zero]; rfl) rfl (k0)
      · refine x_iload_4 K dX4_hasToldSums_23 ?_
        refine x_aload_0 K dX4_hasToldSums_25 ?_
        refine x_getI K gfRX4_31 ⟨by decide, hi⟩ dX4_hasToldSums_26 ?_
        refine x_icmp_ge (tgt := 62) K (by omega) dX4_hasToldSums_29 (by decide) (fun h29 => absurd h29 (by omega)) (fun h29 => ?_)
        refine x_iload_2 K dX4_hasToldSums_32 ?_
        refine x_iload_3 K dX4_hasToldSums_33 ?_
        refine x_iload_4 K dX4_hasToldSums_34 ?_
        refine x_iload_1 K dX4_hasToldSums_36 ?_
        refine x_callS3 K (c4_isInBand r c (by omega) (by omega) b (by omega)) mtX4_isInBand msX4_isInBand lkRX4_103 ⟨by decide, by decide, by decide⟩ rfl (Nat.le_of_ble_eq_true rfl) dX4_hasToldSums_37 ?_
        have b9 := gB1_bd (s_in r c b)
        refine x_if_eq (tgt := 53) K (by omega) dX4_hasToldSums_40 (by decide) (fun h40 => ?_) (fun h40 => ?_)
        · have hin : ¬ s_in r c b := fun q => by rw [gB1_t q] at h40; omega
          have hv : s_ib z b r c = 0 := if_neg hin
          refine x_iconst K dX4_hasToldSums_53 ?_
          refine x_iadd K dX4_hasToldSums_54 ?_
          refine gWX.top (b := gSum (fun r => gSum (s_ib z b r) (z 1).toNat) r + (gSum (s_ib z b r) c + s_ib z b r c)) (by rw [hv, Int.add_assoc]) ?_
          refine x_istore_2 K dX4_hasToldSums_55 rfl ?_
          refine x_iinc_4 K dX4_hasToldSums_56 rfl ?_
          refine x_goto (tgt := 23) K dX4_hasToldSums_59 (by decide) ?_
          exact gWX.to rfl rfl (ih)
        · have hin : s_in r c b := Classical.byContradiction (fun q => h40 (gB1_f q))
          have hv : s_ib z b r c = z (20 + (8 * r + c)) := if_pos hin
          refine x_aload_0 K dX4_hasToldSums_43 ?_
          refine x_iload_3 K dX4_hasToldSums_44 ?_
          refine x_iload_4 K dX4_hasToldSums_45 ?_
          refine x_callV2 K (c4_sign i hi r c (by omega) (by omega)) mtX4_sign miX4_sign rc3 ⟨by decide, hi⟩ lkRX4_63 ⟨by decide, by decide, by decide⟩ rfl (Nat.le_of_ble_eq_true rfl) dX4_hasToldSums_47 ?_
          refine gWX.top (b := z (20 + (8 * r + c))) (es _ (by omega)) ?_
          refine x_goto (tgt := 54) K dX4_hasToldSums_50 (by decide) ?_
          refine x_iadd K dX4_hasToldSums_54 ?_
          refine gWX.top (b := gSum (fun r => gSum (s_ib z b r) (z 1).toNat) r + (gSum (s_ib z b r) c + s_ib z b r c)) (by rw [hv, Int.add_assoc]) ?_
          refine x_istore_2 K dX4_hasToldSums_55 rfl ?_
          refine x_iinc_4 K dX4_hasToldSums_56 rfl ?_
          refine x_goto (tgt := 23) K dX4_hasToldSums_59 (by decide) ?_
          exact gWX.to rfl rfl (ih)
      · refine x_iload_4 K dX4_hasToldSums_23 ?_
        refine x_aload_0 K dX4_hasToldSums_25 ?_
        refine x_getI K gfRX4_31 ⟨by decide, hi⟩ dX4_hasToldSums_26 ?_
        refine x_icmp_ge (tgt := 62) K (by omega) dX4_hasToldSums_29 (by decide) (fun h29 => ?_) (fun h29 => absurd h29 (by omega))
        refine x_iinc_3 K dX4_hasToldSums_62 rfl ?_
        refine x_goto (tgt := 12) K dX4_hasToldSums_65 (by decide) ?_
        exact gWX.fgt 4 (gWX.to rfl rfl ih)
    · refine x_iload_3 K dX4_hasToldSums_12 ?_
      refine x_aload_0 K dX4_hasToldSums_13 ?_
      refine x_getI K gfRX4_28 ⟨by decide, hi⟩ dX4_hasToldSums_14 ?_
      refine x_icmp_ge (tgt := 68) K (by omega) dX4_hasToldSums_17 (by decide) (fun h17 => ?_) (fun h17 => absurd h17 (by omega))
      refine x_iload_2 K dX4_hasToldSums_68 ?_
      refine gWX.top (b := s_b z b) (s_b_in hz hp (by omega)) ?_
      have b3 := s_b_bd hz (b := b) (by omega)
      refine x_bipush K dX4_hasToldSums_69 rfl ?_
      refine x_irem K (by omega) dX4_hasToldSums_71 ?_
      refine x_aload_0 K dX4_hasToldSums_72 ?_
      refine x_iload_1 K dX4_hasToldSums_73 ?_
      refine x_callV1 K (c4_toldSum i hi b (by omega)) mtX4_toldSum miX4_toldSum rc3 ⟨by decide, hi⟩ lkRX4_93 ⟨by decide, by decide, by decide⟩ rfl (Nat.le_of_ble_eq_true rfl) dX4_hasToldSums_74 ?_
      refine gWX.top (b := s_b z b % 10) ((et b (by omega)).trans (hall b (by omega))) ?_
      refine x_icmp_eq (tgt := 82) K (by omega) dX4_hasToldSums_77 (by decide) (fun h77 => ?_) (fun h77 => absurd rfl h77)
      refine x_iinc_1 K dX4_hasToldSums_82 rfl ?_
      refine x_goto (tgt := 2) K dX4_hasToldSums_85 (by decide) ?_
      exact gWX.fgt 2 (gWX.fgt 3 (gWX.fgt 4 (gWX.to rfl rfl ih)))
  · refine x_iload_1 K dX4_hasToldSums_2 ?_
    refine x_bipush K dX4_hasToldSums_3 rfl ?_
    refine x_icmp_ge (tgt := 88) K (by omega) dX4_hasToldSums_5 (by decide) (fun h5 => ?_) (fun h5 => absurd h5 (by omega))
    refine x_iconst K dX4_hasToldSums_88 ?_
    exact x_zret K hE rfl dX4_hasToldSums_89 (by decide) (by decide) (by omega) rfl rfl
