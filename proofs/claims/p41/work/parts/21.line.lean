/-! ===== a row of a scroll written ===== -/
def gCh (z : Nat → Int) (r c : Nat) : Int := if z (20 + (8 * r + c)) = -1 then 63 else 48 + z (20 + (8 * r + c))
def gLnC (z : Nat → Int) (r n : Nat) : List Int := (List.range n).map (gCh z r)
def gLn (z : Nat → Int) (r : Nat) : List Int := gLnC z r (z 1).toNat ++ (if z 2 = 1 then [124, 48 + z (6 + r)] else []) ++ (if s_w z r = true then [33] else [])
theorem gLnC_1 (z : Nat → Int) (r n : Nat) : gLnC z r n ++ [gCh z r n] = gLnC z r (n + 1) := by
  unfold gLnC
  rw [List.range_succ, List.map_append]
  rfl
theorem gLnC_len (z : Nat → Int) (r n : Nat) : (gLnC z r n).length = n := by simp [gLnC]
theorem gCh_bd {z : Nat → Int} (hz : gZ z) {r c : Nat} (hr : r < 6) (hc : c < 8) : 33 ≤ gCh z r c ∧ gCh z r c < 128 := by
  have := gZ_s hz hr hc
  unfold gCh
  split <;> omega
theorem gScr_tx {σ : gS} {i : Nat} {z : Nat → Int} (h : gScr σ i z) (l : List Int) : gScr (gTx σ l) i z := by
  have e : ∀ a b c : Nat, a < 12 → (gTx σ l).1 a b c = σ.1 a b c := fun a b c ha => by
    rw [gTx_at, if_neg (by omega), if_neg (by omega)]
  obtain ⟨e0, e1, e2, e3, e4, e5, es, eb, em, et⟩ := h
  exact ⟨(e _ _ _ (by omega)).trans e0, (e _ _ _ (by omega)).trans e1, (e _ _ _ (by omega)).trans e2, (e _ _ _ (by omega)).trans e3, (e _ _ _ (by omega)).trans e4, (e _ _ _ (by omega)).trans e5, fun j hj => (e _ _ _ (by omega)).trans (es j hj), fun j hj => (e _ _ _ (by omega)).trans (eb j hj), fun j hj => (e _ _ _ (by omega)).trans (em j hj), fun j hj => (e _ _ _ (by omega)).trans (et j hj)⟩
theorem gTx_lo (σ : gS) (l : List Int) {a b c : Nat} (h : a < 12) : (gTx σ l).1 a b c = σ.1 a b c := by
  rw [gTx_at, if_neg (by omega), if_neg (by omega)]
theorem c4_writeRowOn {E : gE} {σ : gS} (i : Nat) (hi : i < 56) (z : Nat → Int) (h : gScr σ i z) (hz : gZ z) (r : Nat) (hr : r < 6) (h1 : σ.1 12 0 1 = 0) (h2 : σ.1 12 0 3 = 0) : gCt E mX4_writeRowOn 4 0 [rf 3 i, rf 12 0, iv (r : Int)] σ (.inl none) (gTx σ (gLn z r)) := by
  refine gCt_of (L := [some (rf 3 i), some (rf 12 0), some (iv (r : Int)), none]) (by decide +kernel) rfl rfl (Nat.le_of_ble_eq_true rfl) (fun X K hE => ?_)
  have ⟨e0, e1, e2, e3, e4, e5, es, eb, em, et⟩ := h
  have ⟨q0, q1, q2, q3, q4, q5, q6, q7, q8⟩ := hz
  have qt := q4 r (by omega)
  refine x_iconst K dX4_writeRowOn_0 ?_
  refine x_istore_3 K dX4_writeRowOn_1 rfl ?_
  refine gLp (P := fun c : Nat => gWX X E 0 0 2 [some (rf 3 i), some (rf 12 0), some (iv (r : Int)), some (iv (c : Int))] [] (gTx σ (gLnC z r c))) ((z 1).toNat) (fun k0 => ?_) (fun c hc ih => ?_) ?_
  · exact gWX.to rfl (gTx_0 h2).symm (k0)
  · refine x_iload_3 K dX4_writeRowOn_2 ?_
    refine x_aload_0 K dX4_writeRowOn_3 ?_
    refine x_getI K gfRX4_31 ⟨by decide, hi⟩ dX4_writeRowOn_4 ?_
    refine gWX.top (b := z 1) ((gTx_lo σ _ (by omega)).trans e1) ?_
    refine x_icmp_ge (tgt := 45) K (by omega) dX4_writeRowOn_7 (by decide) (fun h7 => absurd h7 (by omega)) (fun h7 => ?_)
    refine x_aload_1 K dX4_writeRowOn_10 ?_
    refine x_aload_0 K dX4_writeRowOn_11 ?_
    refine x_iload_2 K dX4_writeRowOn_12 ?_
    refine x_iload_3 K dX4_writeRowOn_13 ?_
    refine x_callV2 K (c4_isSmudged i hi r c hr (by omega) (by rw [gTx_lo σ _ (by omega), es _ (by omega)]; exact q5 _ (by omega))) mtX4_isSmudged miX4_isSmudged rc3 ⟨by decide, hi⟩ lkRX4_83 ⟨by decide, by decide, by decide⟩ rfl (Nat.le_of_ble_eq_true rfl) dX4_writeRowOn_14 ?_
    have b5 := q5 (8 * r + c) (by omega)
    have b6 : (gTx σ (gLnC z r c)).1 4 i (8 * r + c) = z (20 + (8 * r + c)) := (gTx_lo σ _ (by omega)).trans (es _ (by omega))
    have b8 := gCh_bd hz hr (c := c) (by omega)
    have b9 := gB1_bd ((gTx σ (gLnC z r c)).1 4 i (8 * r + c) = -1)
    refine x_if_eq (tgt := 25) K (by omega) dX4_writeRowOn_17 (by decide) (fun h17 => ?_) (fun h17 => ?_)
    · have hx : ¬ z (20 + (8 * r + c)) = -1 := fun q => by rw [gB1_t (b6.trans q)] at h17; omega
      have hch : gCh z r c = 48 + z (20 + (8 * r + c)) := if_neg hx
      refine x_bipush K dX4_writeRowOn_25 rfl ?_
      refine x_aload_0 K dX4_writeRowOn_27 ?_
      refine x_iload_2 K dX4_writeRowOn_28 ?_
      refine x_iload_3 K dX4_writeRowOn_29 ?_
      refine x_callV2 K (c4_sign i hi r c hr (by omega)) mtX4_sign miX4_sign rc3 ⟨by decide, hi⟩ lkRX4_63 ⟨by decide, by decide, by decide⟩ rfl (Nat.le_of_ble_eq_true rfl) dX4_writeRowOn_30 ?_
      refine gWX.top (b := z (20 + (8 * r + c))) b6 ?_
      refine x_iadd K dX4_writeRowOn_33 ?_
      refine x_i2c K dX4_writeRowOn_34 ?_
      refine gWX.top (b := gCh z r c) (by omega) ?_
      refine x_callV1 K (cJ4_append (σ := σ) (l := gLnC z r c) h1 (by rw [gLnC_len]; omega) (gCh z r c) (by omega)) mtJ4_append_cf468 miJ4_append_cf468 rc12 ⟨by decide, (by decide)⟩ lkRX4_87 ⟨by decide, by decide, by decide⟩ rfl (Nat.le_of_ble_eq_true rfl) dX4_writeRowOn_35 ?_
      rw [gLnC_1]
      refine x_pop K dX4_writeRowOn_38 rfl ?_
      refine x_iinc_3 K dX4_writeRowOn_39 rfl ?_
      refine x_goto (tgt := 2) K dX4_writeRowOn_42 (by decide) ?_
      exact gWX.to rfl rfl (ih)
    · have hx : z (20 + (8 * r + c)) = -1 := by
        have := Classical.byContradiction (fun q => h17 (gB1_f q))
        exact b6.symm.trans this
      have hch : gCh z r c = 63 := if_pos hx
      refine x_bipush K dX4_writeRowOn_20 rfl ?_
      refine x_goto (tgt := 35) K dX4_writeRowOn_22 (by decide) ?_
      refine gWX.top (b := gCh z r c) (by omega) ?_
      refine x_callV1 K (cJ4_append (σ := σ) (l := gLnC z r c) h1 (by rw [gLnC_len]; omega) (gCh z r c) (by omega)) mtJ4_append_cf468 miJ4_append_cf468 rc12 ⟨by decide, (by decide)⟩ lkRX4_87 ⟨by decide, by decide, by decide⟩ rfl (Nat.le_of_ble_eq_true rfl) dX4_writeRowOn_35 ?_
      rw [gLnC_1]
      refine x_pop K dX4_writeRowOn_38 rfl ?_
      refine x_iinc_3 K dX4_writeRowOn_39 rfl ?_
      refine x_goto (tgt := 2) K dX4_writeRowOn_42 (by decide) ?_
      exact gWX.to rfl rfl (ih)
  · refine x_iload_3 K dX4_writeRowOn_2 ?_
    refine x_aload_0 K dX4_writeRowOn_3 ?_
    refine x_getI K gfRX4_31 ⟨by decide, hi⟩ dX4_writeRowOn_4 ?_
    refine gWX.top (b := z 1) ((gTx_lo σ _ (by omega)).trans e1) ?_
    refine x_icmp_ge (tgt := 45) K (by omega) dX4_writeRowOn_7 (by decide) (fun h7 => ?_) (fun h7 => absurd h7 (by omega))
    refine x_aload_0 K dX4_writeRowOn_45 ?_
    refine x_getI K gfRX4_34 ⟨by decide, hi⟩ dX4_writeRowOn_46 ?_
    refine gWX.top (b := z 2) ((gTx_lo σ _ (by omega)).trans e2) ?_
    refine x_if_eq (tgt := 73) K (by omega) dX4_writeRowOn_49 (by decide) (fun h49 => ?_) (fun h49 => ?_)
    · have hl : gLnC z r (z 1).toNat ++ (if z 2 = 1 then [124, 48 + z (6 + r)] else []) = gLnC z r (z 1).toNat := by rw [if_neg (by omega), List.append_nil]
      refine gWX.eq (σ' := gTx σ (gLnC z r (z 1).toNat ++ (if z 2 = 1 then [124, 48 + z (6 + r)] else []))) (by rw [hl]) ?_
      refine x_aload_0 K dX4_writeRowOn_73 ?_
      refine x_iload_2 K dX4_writeRowOn_74 ?_
      refine x_callV1 K (c4_isWrong i hi z (gScr_tx h _) hz r (by omega)) mtX4_isWrong miX4_isWrong rc3 ⟨by decide, hi⟩ lkRX4_97 ⟨by decide, by decide, by decide⟩ rfl (Nat.le_of_ble_eq_true rfl) dX4_writeRowOn_75 ?_
      have b7 := gB1_bd (s_w z r = true)
      refine x_if_eq (tgt := 88) K (by omega) dX4_writeRowOn_78 (by decide) (fun h78 => ?_) (fun h78 => ?_)
      · have hx : ¬ s_w z r = true := fun q => by rw [gB1_t q] at h78; omega
        exact x_vret K hE rfl dX4_writeRowOn_88 (by decide) (by decide) (by unfold gLn; first | rw [if_pos hx] | rw [if_neg hx, List.append_nil])
      · have hx : s_w z r = true := Classical.byContradiction (fun q => h78 (gB1_f q))
        refine x_aload_1 K dX4_writeRowOn_81 ?_
        refine x_bipush K dX4_writeRowOn_82 rfl ?_
        refine x_callV1 K (cJ4_append (σ := σ) (l := gLnC z r (z 1).toNat ++ (if z 2 = 1 then [124, 48 + z (6 + r)] else [])) h1 (by rw [List.length_append, gLnC_len]; split <;> simp <;> omega) (33) (by omega)) mtJ4_append_cf468 miJ4_append_cf468 rc12 ⟨by decide, (by decide)⟩ lkRX4_87 ⟨by decide, by decide, by decide⟩ rfl (Nat.le_of_ble_eq_true rfl) dX4_writeRowOn_84 ?_
        refine x_pop K dX4_writeRowOn_87 rfl ?_
        exact x_vret K hE rfl dX4_writeRowOn_88 (by decide) (by decide) (by unfold gLn; first | rw [if_pos hx] | rw [if_neg hx, List.append_nil])
    · have hl : gLnC z r (z 1).toNat ++ (if z 2 = 1 then [124, 48 + z (6 + r)] else []) = gLnC z r (z 1).toNat ++ [124] ++ [48 + z (6 + r)] := by rw [if_pos (by omega)]; simp
      refine x_aload_1 K dX4_writeRowOn_52 ?_
      refine x_bipush K dX4_writeRowOn_53 rfl ?_
      refine x_callV1 K (cJ4_append (σ := σ) (l := gLnC z r (z 1).toNat) h1 (by rw [gLnC_len]; omega) (124) (by omega)) mtJ4_append_cf468 miJ4_append_cf468 rc12 ⟨by decide, (by decide)⟩ lkRX4_87 ⟨by decide, by decide, by decide⟩ rfl (Nat.le_of_ble_eq_true rfl) dX4_writeRowOn_55 ?_
      refine x_pop K dX4_writeRowOn_58 rfl ?_
      refine x_aload_1 K dX4_writeRowOn_59 ?_
      refine x_bipush K dX4_writeRowOn_60 rfl ?_
      refine x_aload_0 K dX4_writeRowOn_62 ?_
      refine x_iload_2 K dX4_writeRowOn_63 ?_
      refine x_callV1 K (c4_toldSum i hi r (by omega)) mtX4_toldSum miX4_toldSum rc3 ⟨by decide, hi⟩ lkRX4_93 ⟨by decide, by decide, by decide⟩ rfl (Nat.le_of_ble_eq_true rfl) dX4_writeRowOn_64 ?_
      refine gWX.top (b := z (6 + r)) ((gTx_lo σ _ (by omega)).trans (et r (by omega))) ?_
      refine x_iadd K dX4_writeRowOn_67 ?_
      refine x_i2c K dX4_writeRowOn_68 ?_
      refine gWX.top (b := 48 + z (6 + r)) (by omega) ?_
      refine x_callV1 K (cJ4_append (σ := σ) (l := gLnC z r (z 1).toNat ++ [124]) h1 (by rw [List.length_append, gLnC_len]; simp; omega) (48 + z (6 + r)) (by omega)) mtJ4_append_cf468 miJ4_append_cf468 rc12 ⟨by decide, (by decide)⟩ lkRX4_87 ⟨by decide, by decide, by decide⟩ rfl (Nat.le_of_ble_eq_true rfl) dX4_writeRowOn_69 ?_
      refine x_pop K dX4_writeRowOn_72 rfl ?_
      refine gWX.eq (σ' := gTx σ (gLnC z r (z 1).toNat ++ (if z 2 = 1 then [124, 48 + z (6 + r)] else []))) (by rw [hl]) ?_
      refine x_aload_0 K dX4_writeRowOn_73 ?_
      refine x_iload_2 K dX4_writeRowOn_74 ?_
      refine x_callV1 K (c4_isWrong i hi z (gScr_tx h _) hz r (by omega)) mtX4_isWrong miX4_isWrong rc3 ⟨by decide, hi⟩ lkRX4_97 ⟨by decide, by decide, by decide⟩ rfl (Nat.le_of_ble_eq_true rfl) dX4_writeRowOn_75 ?_
      have b7 := gB1_bd (s_w z r = true)
      refine x_if_eq (tgt := 88) K (by omega) dX4_writeRowOn_78 (by decide) (fun h78 => ?_) (fun h78 => ?_)
      · have hx : ¬ s_w z r = true := fun q => by rw [gB1_t q] at h78; omega
        exact x_vret K hE rfl dX4_writeRowOn_88 (by decide) (by decide) (by unfold gLn; first | rw [if_pos hx] | rw [if_neg hx, List.append_nil])
      · have hx : s_w z r = true := Classical.byContradiction (fun q => h78 (gB1_f q))
        refine x_aload_1 K dX4_writeRowOn_81 ?_
        refine x_bipush K dX4_writeRowOn_82 rfl ?_
        refine x_callV1 K (cJ4_append (σ := σ) (l := gLnC z r (z 1).toNat ++ (if z 2 = 1 then [124, 48 + z (6 + r)] else [])) h1 (by rw [List.length_append, gLnC_len]; split <;> simp <;> omega) (33) (by omega)) mtJ4_append_cf468 miJ4_append_cf468 rc12 ⟨by decide, (by decide)⟩ lkRX4_87 ⟨by decide, by decide, by decide⟩ rfl (Nat.le_of_ble_eq_true rfl) dX4_writeRowOn_84 ?_
        refine x_pop K dX4_writeRowOn_87 rfl ?_
        exact x_vret K hE rfl dX4_writeRowOn_88 (by decide) (by decide) (by unfold gLn; first | rw [if_pos hx] | rw [if_neg hx, List.append_nil])
