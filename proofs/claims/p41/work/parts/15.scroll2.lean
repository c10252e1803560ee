/-! ===== ScrollChecks$Scroll: counts over cells, mending, filling ===== -/
theorem s_b_cong {z y : Nat → Int} (h : ∀ j, 20 ≤ j → j < 68 → z j = y j) {b : Nat} (hb : b < 14) : s_b z b = s_b y b := by
  unfold s_b s_rs s_cs
  split
  · exact gSum_cong 8 (fun k hk => by rw [h _ (by omega) (by omega)])
  · exact gSum_cong 6 (fun k hk => by rw [h _ (by omega) (by omega)])
theorem s_m_cong {z y : Nat → Int} (h : ∀ j, 20 ≤ j → j < 68 → z j = y j) {b : Nat} (hb : b < 14) : s_m z b = s_m y b := by
  unfold s_m s_rm s_cm
  split
  · exact gSum_cong 8 (fun k hk => by rw [h _ (by omega) (by omega)])
  · exact gSum_cong 6 (fun k hk => by rw [h _ (by omega) (by omega)])
theorem gPut_u {σ : gS} {i : Nat} {z : Nat → Int} (h : gScr σ i z) {j : Nat} (h1 : 4 ≤ j) (h2 : j < 10) (v : Int) : gU σ 3 i j v = gPut σ i (fun k => if k = j - 4 then v else z k) := by
  have ⟨e0, e1, e2, e3, e4, e5, es, eb, em, et⟩ := h
  have sb : ∀ b, b < 14 → s_b (fun k => if k = j - 4 then v else z k) b = s_b z b := fun b hb => s_b_cong (fun k h3 h4 => if_neg (by omega)) hb
  have sm : ∀ b, b < 14 → s_m (fun k => if k = j - 4 then v else z k) b = s_m z b := fun b hb => s_m_cong (fun k h3 h4 => if_neg (by omega)) hb
  have w3 : ∀ n : Nat, n < 6 → σ.1 3 i (4 + n) = z n → (gU σ 3 i j v).1 3 i (4 + n) = if n = j - 4 then v else z n := fun n hn e => by
    rw [gU_at]
    by_cases q : n = j - 4
    · rw [if_pos ⟨rfl, rfl, by omega⟩, if_pos q]
    · rw [if_neg (by omega), if_neg q, e]
  refine gPut_eq ⟨w3 0 (by omega) e0, w3 1 (by omega) e1, w3 2 (by omega) e2, w3 3 (by omega) e3, w3 4 (by omega) e4, w3 5 (by omega) e5, fun k hk => ?_, fun k hk => ?_, fun k hk => ?_, fun k hk => ?_⟩ rfl (fun a b c hn => ?_)
  · rw [gU_at, if_neg (by omega), es k hk]; exact (if_neg (by omega)).symm
  · rw [gU_at, if_neg (by omega), eb k hk, sb k hk]
  · rw [gU_at, if_neg (by omega), em k hk, sm k hk]
  · rw [gU_at, if_neg (by omega), et k hk]; exact (if_neg (by omega)).symm
  · rw [gU_at, if_neg (by omega)]
theorem gZ_cong {z y : Nat → Int} (hz : gZ z) (h : ∀ j, j < 68 → z j = y j) : gZ y := by
  obtain ⟨h0, h1, h2, h3, h4, h5, h6, h7, h8⟩ := hz
  refine ⟨by rw [← h 0 (by omega)]; exact h0, by rw [← h 1 (by omega)]; exact h1, by rw [← h 2 (by omega)]; exact h2, by rw [← h 3 (by omega)]; exact h3, fun b hb => by rw [← h _ (by omega)]; exact h4 b hb, fun j hj => by rw [← h _ (by omega)]; exact h5 j hj, fun a ha b hb q => ?_, fun a ha q => ?_, fun b hb q => ?_⟩
  · rw [← h 0 (by omega), ← h 1 (by omega)] at q
    rw [← h _ (by omega)]
    exact h6 a ha b hb q
  · rw [← h 0 (by omega)] at q
    rw [← h _ (by omega)]
    exact h7 a ha q
  · rw [← h 1 (by omega)] at q
    rw [← h _ (by omega)]
    exact h8 b hb q
theorem c4_setSignQ {E : gE} {σ : gS} (i : Nat) (hi : i < 56) (y y' : Nat → Int) (hz : gZ y) (r c : Nat) (hr : r < 6) (hc : c < 8) (s : Int) (hs : -1 ≤ s ∧ s ≤ 9) (he : ∀ j, j < 68 → zset y r c s j = y' j) : gCt E mX4_setSign 2 0 [rf 3 i, iv (r : Int), iv (c : Int), iv s] (gPut σ i y) (.inl none) (gPut σ i y') := by
  have e := gSetS_put (gScr_put σ i y) s hr hc
  rw [gPut_put, gPut_zc σ i he] at e
  rw [← e]
  exact c4_setSign i hi r c hr hc s (by rw [gPut_4, if_pos (by omega)]; exact gZ_s hz hr hc) hs
theorem c4_isInBand {E : gE} {σ : gS} (r c : Nat) (hr : r < 6) (hc : c < 8) (b : Nat) (hb : b < 14) : gCt E mX4_isInBand 1 0 [iv (r : Int), iv (c : Int), iv (b : Int)] σ (.inl (some (iv (gB1 (s_in r c b))))) σ := by
  refine gCt_of (L := [some (iv (r : Int)), some (iv (c : Int)), some (iv (b : Int))]) (by decide +kernel) rfl rfl (Nat.le_of_ble_eq_true rfl) (fun X K hE => ?_)
  refine x_iload_0 K dX4_isInBand_0 ?_
  refine x_iload_2 K dX4_isInBand_1 ?_
  refine x_icmp_eq (tgt := 13) K (by omega) dX4_isInBand_2 (by decide) (fun h2 => ?_) (fun h2 => ?_)
  · refine x_iconst K dX4_isInBand_13 ?_
    refine x_goto (tgt := 18) K dX4_isInBand_14 (by decide) ?_
    exact x_zret K hE rfl dX4_isInBand_18 (by decide) (by decide) (by omega) (by unfold gB1 s_in; split <;> omega) rfl
  · refine x_bipush K dX4_isInBand_5 rfl ?_
    refine x_iload_1 K dX4_isInBand_7 ?_
    refine x_iadd K dX4_isInBand_8 ?_
    refine x_iload_2 K dX4_isInBand_9 ?_
    refine x_icmp_ne (tgt := 17) K (by omega) dX4_isInBand_10 (by decide) (fun h10 => ?_) (fun h10 => ?_)
    · refine x_iconst K dX4_isInBand_17 ?_
      exact x_zret K hE rfl dX4_isInBand_18 (by decide) (by decide) (by omega) (by unfold gB1 s_in; split <;> omega) rfl
    · refine x_iconst K dX4_isInBand_13 ?_
      refine x_goto (tgt := 18) K dX4_isInBand_14 (by decide) ?_
      exact x_zret K hE rfl dX4_isInBand_18 (by decide) (by decide) (by omega) (by unfold gB1 s_in; split <;> omega) rfl
theorem c4_isDoubtful {E : gE} {σ : gS} (i : Nat) (hi : i < 56) (z : Nat → Int) (h : gScr σ i z) (hz : gZ z) (r c : Nat) (hr : r < 6) (hc : c < 8) : gCt E mX4_isDoubtful 3 0 [rf 3 i, iv (r : Int), iv (c : Int)] σ (.inl (some (iv (gB1 (s_df z r c = true))))) σ := by
  refine gCt_of (L := [some (rf 3 i), some (iv (r : Int)), some (iv (c : Int))]) (by decide +kernel) rfl rfl (Nat.le_of_ble_eq_true rfl) (fun X K hE => ?_)
  have ⟨e0, e1, e2, e3, e4, e5, es, eb, em, et⟩ := h
  have ⟨q0, q1, q2, q3, q4, q5, q6, q7, q8⟩ := hz
  have b0 := q5 (8 * r + c) (by omega)
  have b1 := gB1_bd (s_w z r = true)
  have b2 := gB1_bd (s_w z (6 + c) = true)
  have e : s_df z r c = true ↔ (z (20 + (8 * r + c)) = -1 ∨ (s_w z r = true ∧ s_w z (6 + c) = true)) := by unfold s_df; simp
  refine x_aload_0 K dX4_isDoubtful_0 ?_
  refine x_iload_1 K dX4_isDoubtful_1 ?_
  refine x_iload_2 K dX4_isDoubtful_2 ?_
  refine x_callV2 K (c4_sign i hi r c (by omega) (by omega)) mtX4_sign miX4_sign rc3 ⟨by decide, hi⟩ lkRX4_63 ⟨by decide, by decide, by decide⟩ rfl (Nat.le_of_ble_eq_true rfl) dX4_isDoubtful_3 ?_
  refine gWX.top (b := z (20 + (8 * r + c))) (es _ (by omega)) ?_
  refine x_iconst K dX4_isDoubtful_6 ?_
  refine x_icmp_eq (tgt := 29) K (by omega) dX4_isDoubtful_7 (by decide) (fun h7 => ?_) (fun h7 => ?_)
  · refine x_iconst K dX4_isDoubtful_29 ?_
    refine x_goto (tgt := 34) K dX4_isDoubtful_30 (by decide) ?_
    exact x_zret K hE rfl dX4_isDoubtful_34 (by decide) (by decide) (by omega) (by rw [gB1_iff e]; unfold gB1 at *; split <;> simp_all <;> omega) rfl
  · refine x_aload_0 K dX4_isDoubtful_10 ?_
    refine x_iload_1 K dX4_isDoubtful_11 ?_
    refine x_callV1 K (c4_isWrong i hi z h hz r (by omega)) mtX4_isWrong miX4_isWrong rc3 ⟨by decide, hi⟩ lkRX4_97 ⟨by decide, by decide, by decide⟩ rfl (Nat.le_of_ble_eq_true rfl) dX4_isDoubtful_12 ?_
    refine x_if_eq (tgt := 33) K (by omega) dX4_isDoubtful_15 (by decide) (fun h15 => ?_) (fun h15 => ?_)
    · refine x_iconst K dX4_isDoubtful_33 ?_
      exact x_zret K hE rfl dX4_isDoubtful_34 (by decide) (by decide) (by omega) (by rw [gB1_iff e]; unfold gB1 at *; split <;> simp_all <;> omega) rfl
    · refine x_aload_0 K dX4_isDoubtful_18 ?_
      refine x_bipush K dX4_isDoubtful_19 rfl ?_
      refine x_iload_2 K dX4_isDoubtful_21 ?_
      refine x_iadd K dX4_isDoubtful_22 ?_
      refine gWX.top (b := ((6 + c : Nat) : Int)) (by omega) ?_
      refine x_callV1 K (c4_isWrong i hi z h hz (6 + c) (by omega)) mtX4_isWrong miX4_isWrong rc3 ⟨by decide, hi⟩ lkRX4_97 ⟨by decide, by decide, by decide⟩ rfl (Nat.le_of_ble_eq_true rfl) dX4_isDoubtful_23 ?_
      refine x_if_eq (tgt := 33) K (by omega) dX4_isDoubtful_26 (by decide) (fun h26 => ?_) (fun h26 => ?_)
      · refine x_iconst K dX4_isDoubtful_33 ?_
        exact x_zret K hE rfl dX4_isDoubtful_34 (by decide) (by decide) (by omega) (by rw [gB1_iff e]; unfold gB1 at *; split <;> simp_all <;> omega) rfl
      · refine x_iconst K dX4_isDoubtful_29 ?_
        refine x_goto (tgt := 34) K dX4_isDoubtful_30 (by decide) ?_
        exact x_zret K hE rfl dX4_isDoubtful_34 (by decide) (by decide) (by omega) (by rw [gB1_iff e]; unfold gB1 at *; split <;> simp_all <;> omega) rfl
theorem c4_doubtsByCell {E : gE} {σ : gS} (i : Nat) (hi : i < 56) (z : Nat → Int) (h : gScr σ i z) (hz : gZ z) : gCt E mX4_doubtsByCell 4 0 [rf 3 i] σ (.inl (some (iv (s_db z)))) σ := by
  refine gCt_of (L := [some (rf 3 i), none, none, none]) (by decide +kernel) rfl rfl (Nat.le_of_ble_eq_true rfl) (fun X K hE => ?_)
  have ⟨e0, e1, e2, e3, e4, e5, es, eb, em, et⟩ := h
  have ⟨q0, q1, q2, q3, q4, q5, q6, q7, q8⟩ := hz
  refine x_iconst K dX4_doubtsByCell_0 ?_
  refine x_istore_1 K dX4_doubtsByCell_1 rfl ?_
  refine x_iconst K dX4_doubtsByCell_2 ?_
  refine x_istore_2 K dX4_doubtsByCell_3 rfl ?_
  refine gLp (P := fun r : Nat => gWX X E 0 0 4 [some (rf 3 i), some (iv (gSum (fun r => gSum (fun c => gB1 (s_df z r c = true)) (z 1).toNat) r)), some (iv (r : Int)), none] [] (σ)) ((z 0).toNat) (fun k0 => ?_) (fun r hr ih => ?_) ?_
  · exact gWX.to rfl rfl (k0)
  · refine x_iload_2 K dX4_doubtsByCell_4 ?_
    refine x_aload_0 K dX4_doubtsByCell_5 ?_
    refine x_getI K gfRX4_28 ⟨by decide, hi⟩ dX4_doubtsByCell_6 ?_
    refine x_icmp_ge (tgt := 51) K (by omega) dX4_doubtsByCell_9 (by decide) (fun h9 => absurd h9 (by omega)) (fun h9 => ?_)
    refine x_iconst K dX4_doubtsByCell_12 ?_
    refine x_istore_3 K dX4_doubtsByCell_13 rfl ?_
    refine gLp (P := fun c : Nat => gWX X E 0 0 14 [some (rf 3 i), some (iv (gSum (fun r => gSum (fun c => gB1 (s_df z r c = true)) (z 1).toNat) r + gSum (fun c => gB1 (s_df z r c = true)) c)), some (iv (r : Int)), some (iv (c : Int))] [] (σ)) ((z 1).toNat) (fun k0 => ?_) (fun c hc ih => ?_) ?_
    · exact gWX.to (by simp only [gSum, Int.add_zero]; rfl) rfl (k0)
    · refine x_iload_3 K dX4_doubtsByCell_14 ?_
      refine x_aload_0 K dX4_doubtsByCell_15 ?_
      refine x_getI K gfRX4_31 ⟨by decide, hi⟩ dX4_doubtsByCell_16 ?_
      refine x_icmp_ge (tgt := 45) K (by omega) dX4_doubtsByCell_19 (by decide) (fun h19 => absurd h19 (by omega)) (fun h19 => ?_)
      refine x_iload_1 K dX4_doubtsByCell_22 ?_
      refine x_aload_0 K dX4_doubtsByCell_23 ?_
      refine x_iload_2 K dX4_doubtsByCell_24 ?_
      refine x_iload_3 K dX4_doubtsByCell_25 ?_
      refine x_callV2 K (c4_isDoubtful i hi z h hz r c (by omega) (by omega)) mtX4_isDoubtful miX4_isDoubtful rc3 ⟨by decide, hi⟩ lkRX4_107 ⟨by decide, by decide, by decide⟩ rfl (Nat.le_of_ble_eq_true rfl) dX4_doubtsByCell_26 ?_
      have b9 := gB1_bd (s_df z r c = true)
      refine gTern (fun kt kf => x_if_eq (tgt := 36) K (by omega) dX4_doubtsByCell_29 (by decide) kt kf) (fun k => x_iconst K dX4_doubtsByCell_36 k) (fun k => x_iconst K dX4_doubtsByCell_32 (x_goto K dX4_doubtsByCell_33 (by decide) k)) ?_
      refine gWX.top (b := gB1 (s_df z r c = true)) (by unfold gB1; split <;> split <;> simp_all) ?_
      refine x_iadd K dX4_doubtsByCell_37 ?_
      refine gWX.top (b := gSum (fun r => gSum (fun c => gB1 (s_df z r c = true)) (z 1).toNat) r + (gSum (fun c => gB1 (s_df z r c = true)) c + gB1 (s_df z r c = true))) (Int.add_assoc _ _ _) ?_
      refine x_istore_1 K dX4_doubtsByCell_38 rfl ?_
      refine x_iinc_3 K dX4_doubtsByCell_39 rfl ?_
      refine x_goto (tgt := 14) K dX4_doubtsByCell_42 (by decide) ?_
      exact gWX.to rfl rfl (ih)
    · refine x_iload_3 K dX4_doubtsByCell_14 ?_
      refine x_aload_0 K dX4_doubtsByCell_15 ?_
      refine x_getI K gfRX4_31 ⟨by decide, hi⟩ dX4_doubtsByCell_16 ?_
      refine x_icmp_ge (tgt := 45) K (by omega) dX4_doubtsByCell_19 (by decide) (fun h19 => ?_) (fun h19 => absurd h19 (by omega))
      refine x_iinc_2 K dX4_doubtsByCell_45 rfl ?_
      refine x_goto (tgt := 4) K dX4_doubtsByCell_48 (by decide) ?_
      exact gWX.fgt 3 (gWX.to rfl rfl ih)
  · refine x_iload_2 K dX4_doubtsByCell_4 ?_
    refine x_aload_0 K dX4_doubtsByCell_5 ?_
    refine x_getI K gfRX4_28 ⟨by decide, hi⟩ dX4_doubtsByCell_6 ?_
    refine x_icmp_ge (tgt := 51) K (by omega) dX4_doubtsByCell_9 (by decide) (fun h9 => ?_) (fun h9 => absurd h9 (by omega))
    refine x_iload_1 K dX4_doubtsByCell_51 ?_
    exact x_iret K hE rfl dX4_doubtsByCell_52 (by decide) (by decide) rfl rfl
theorem c4_howOften {E : gE} {σ : gS} (i : Nat) (hi : i < 56) (z : Nat → Int) (h : gScr σ i z) (hz : gZ z) (a : Int) (ha : 0 ≤ a ∧ a ≤ 9) : gCt E mX4_howOften 3 0 [rf 3 i, iv a] σ (.inl (some (iv (s_ho z a)))) σ := by
  refine gCt_of (L := [some (rf 3 i), some (iv a), none, none, none]) (by decide +kernel) rfl rfl (Nat.le_of_ble_eq_true rfl) (fun X K hE => ?_)
  have ⟨e0, e1, e2, e3, e4, e5, es, eb, em, et⟩ := h
  have ⟨q0, q1, q2, q3, q4, q5, q6, q7, q8⟩ := hz
  refine x_iconst K dX4_howOften_0 ?_
  refine x_istore_2 K dX4_howOften_1 rfl ?_
  refine x_iconst K dX4_howOften_2 ?_
  refine x_istore_3 K dX4_howOften_3 rfl ?_
  refine gLp (P := fun r : Nat => gWX X E 0 0 4 [some (rf 3 i), some (iv a), some (iv (gSum (fun r => gSum (fun c => gB1 (z (20 + (8 * r + c)) = a)) (z 1).toNat) r)), some (iv (r : Int)), none] [] (σ)) ((z 0).toNat) (fun k0 => ?_) (fun r hr ih => ?_) ?_
  · exact gWX.to rfl rfl (k0)
  · refine x_iload_3 K dX4_howOften_4 ?_
    refine x_aload_0 K dX4_howOften_5 ?_
    refine x_getI K gfRX4_28 ⟨by decide, hi⟩ dX4_howOften_6 ?_
    refine x_icmp_ge (tgt := 55) K (by omega) dX4_howOften_9 (by decide) (fun h9 => absurd h9 (by omega)) (fun h9 => ?_)
    refine x_iconst K dX4_howOften_12 ?_
    refine x_istore_4 K dX4_howOften_13 rfl ?_
    refine gLp (P := fun c : Nat => gWX X E 0 0 15 [some (rf 3 i), some (iv a), some (iv (gSum (fun r => gSum (fun c => gB1 (z (20 + (8 * r + c)) = a)) (z 1).toNat) r + gSum (fun c => gB1 (z (20 + (8 * r + c)) = a)) c)), some (iv (r : Int)), some (iv (c : Int))] [] (σ)) ((z 1).toNat) (fun k0 => ?_) (fun c hc ih => ?_) ?_
    · exact gWX.to (by simp only [gSum, Int.add_zero]; rfl) rfl (k0)
    · refine x_iload_4 K dX4_howOften_15 ?_
      refine x_aload_0 K dX4_howOften_17 ?_
      refine x_getI K gfRX4_31 ⟨by decide, hi⟩ dX4_howOften_18 ?_
      refine x_icmp_ge (tgt := 49) K (by omega) dX4_howOften_21 (by decide) (fun h21 => absurd h21 (by omega)) (fun h21 => ?_)
      refine x_iload_2 K dX4_howOften_24 ?_
      refine x_aload_0 K dX4_howOften_25 ?_
      refine x_iload_3 K dX4_howOften_26 ?_
      refine x_iload_4 K dX4_howOften_27 ?_
      refine x_callV2 K (c4_sign i hi r c (by omega) (by omega)) mtX4_sign miX4_sign rc3 ⟨by decide, hi⟩ lkRX4_63 ⟨by decide, by decide, by decide⟩ rfl (Nat.le_of_ble_eq_true rfl) dX4_howOften_29 ?_
      refine gWX.top (b := z (20 + (8 * r + c))) (es _ (by omega)) ?_
      have b9 := q5 (8 * r + c) (by omega)
      refine x_iload_1 K dX4_howOften_32 ?_
      refine gTernN (fun kt kf => x_icmp_ne (tgt := 40) K (by omega) dX4_howOften_33 (by decide) kt kf) (fun k => x_iconst K dX4_howOften_40 k) (fun k => x_iconst K dX4_howOften_36 (x_goto K dX4_howOften_37 (by decide) k)) ?_
      refine gWX.top (b := gB1 (z (20 + (8 * r + c)) = a)) rfl ?_
      refine x_iadd K dX4_howOften_41 ?_
      refine gWX.top (b := gSum (fun r => gSum (fun c => gB1 (z (20 + (8 * r + c)) = a)) (z 1).toNat) r + (gSum (fun c => gB1 (z (20 + (8 * r + c)) = a)) c + gB1 (z (20 + (8 * r + c)) = a))) (Int.add_assoc _ _ _) ?_
      refine x_istore_2 K dX4_howOften_42 rfl ?_
      refine x_iinc_4 K dX4_howOften_43 rfl ?_
      refine x_goto (tgt := 15) K dX4_howOften_46 (by decide) ?_
      exact gWX.to rfl rfl (ih)
    · refine x_iload_4 K dX4_howOften_15 ?_
      refine x_aload_0 K dX4_howOften_17 ?_
      refine x_getI K gfRX4_31 ⟨by decide, hi⟩ dX4_howOften_18 ?_
      refine x_icmp_ge (tgt := 49) K (by omega) dX4_howOften_21 (by decide) (fun h21 => ?_) (fun h21 => absurd h21 (by omega))
      refine x_iinc_3 K dX4_howOften_49 rfl ?_
      refine x_goto (tgt := 4) K dX4_howOften_52 (by decide) ?_
      exact gWX.fgt 4 (gWX.to rfl rfl ih)
  · refine x_iload_3 K dX4_howOften_4 ?_
    refine x_aload_0 K dX4_howOften_5 ?_
    refine x_getI K gfRX4_28 ⟨by decide, hi⟩ dX4_howOften_6 ?_
    refine x_icmp_ge (tgt := 55) K (by omega) dX4_howOften_9 (by decide) (fun h9 => ?_) (fun h9 => absurd h9 (by omega))
    refine x_iload_2 K dX4_howOften_55 ?_
    exact x_iret K hE rfl dX4_howOften_56 (by decide) (by decide) rfl rfl
theorem c4_differencesTo {E : gE} {σ : gS} (i : Nat) (hi : i < 56) (z : Nat → Int) (h : gScr σ i z) (hz : gZ z) (k : Nat) (hk : k < 56) (y : Nat → Int) (h2 : gScr σ k y) (hz2 : gZ y) : gCt E mX4_differencesTo 3 0 [rf 3 i, rf 3 k] σ (.inl (some (iv (s_di z y)))) σ := by
  refine gCt_of (L := [some (rf 3 i), some (rf 3 k), none, none, none]) (by decide +kernel) rfl rfl (Nat.le_of_ble_eq_true rfl) (fun X K hE => ?_)
  have ⟨e0, e1, e2, e3, e4, e5, es, eb, em, et⟩ := h
  have ⟨q0, q1, q2, q3, q4, q5, q6, q7, q8⟩ := hz
  have ⟨_, _, _, _, _, _, us, _, _, _⟩ := h2
  have ⟨_, _, _, _, _, u5, _, _, _⟩ := hz2
  refine x_iconst K dX4_differencesTo_0 ?_
  refine x_istore_2 K dX4_differencesTo_1 rfl ?_
  refine x_iconst K dX4_differencesTo_2 ?_
  refine x_istore_3 K dX4_differencesTo_3 rfl ?_
  refine gLp (P := fun r : Nat => gWX X E 0 0 4 [some (rf 3 i), some (rf 3 k), some (iv (gSum (fun r => gSum (fun c => if z (20 + (8 * r + c)) = y (20 + (8 * r + c)) then 0 else 1) (z 1).toNat) r)), some (iv (r : Int)), none] [] (σ)) ((z 0).toNat) (fun k0 => ?_) (fun r hr ih => ?_) ?_
  · exact gWX.to rfl rfl (k0)
  · refine x_iload_3 K dX4_differencesTo_4 ?_
    refine x_aload_0 K dX4_differencesTo_5 ?_
    refine x_getI K gfRX4_28 ⟨by decide, hi⟩ dX4_differencesTo_6 ?_
    refine x_icmp_ge (tgt := 61) K (by omega) dX4_differencesTo_9 (by decide) (fun h9 => absurd h9 (by omega)) (fun h9 => ?_)
    refine x_iconst K dX4_differencesTo_12 ?_
    refine x_istore_4 K dX4_differencesTo_13 rfl ?_
    refine gLp (P := fun c : Nat => gWX X E 0 0 15 [some (rf 3 i), some (rf 3 k), some (iv (gSum (fun r => gSum (fun c => if z (20 + (8 * r + c)) = y (20 + (8 * r + c)) then 0 else 1) (z 1).toNat) r + gSum (fun c => if z (20 + (8 * r + c)) = y (20 + (8 * r + c)) then 0 else 1) c)), some (iv (r : Int)), some (iv (c : Int))] [] (σ)) ((z 1).toNat) (fun k0 => ?_) (fun c hc ih => ?_) ?_
    · exact gWX.to (by simp only [gSum, Int.add_zero]; rfl) rfl (k0)
    · refine x_iload_4 K dX4_differencesTo_15 ?_
      refine x_aload_0 K dX4_differencesTo_17 ?_
      refine x_getI K gfRX4_31 ⟨by decide, hi⟩ dX4_differencesTo_18 ?_
      refine x_icmp_ge (tgt := 55) K (by omega) dX4_differencesTo_21 (by decide) (fun h21 => absurd h21 (by omega)) (fun h21 => ?_)
      refine x_iload_2 K dX4_differencesTo_24 ?_
      refine x_aload_0 K dX4_differencesTo_25 ?_
      refine x_iload_3 K dX4_differencesTo_26 ?_
      refine x_iload_4 K dX4_differencesTo_27 ?_
      refine x_callV2 K (c4_sign i hi r c (by omega) (by omega)) mtX4_sign miX4_sign rc3 ⟨by decide, hi⟩ lkRX4_63 ⟨by decide, by decide, by decide⟩ rfl (Nat.le_of_ble_eq_true rfl) dX4_differencesTo_29 ?_
      refine gWX.top (b := z (20 + (8 * r + c))) (es _ (by omega)) ?_
      refine x_aload_1 K dX4_differencesTo_32 ?_
      refine x_iload_3 K dX4_differencesTo_33 ?_
      refine x_iload_4 K dX4_differencesTo_34 ?_
      refine x_callV2 K (c4_sign k hk r c (by omega) (by omega)) mtX4_sign miX4_sign rc3 ⟨by decide, hk⟩ lkRX4_63 ⟨by decide, by decide, by decide⟩ rfl (Nat.le_of_ble_eq_true rfl) dX4_differencesTo_36 ?_
      refine gWX.top (b := y (20 + (8 * r + c))) (us _ (by omega)) ?_
      have b9 := q5 (8 * r + c) (by omega)
      have b8 := u5 (8 * r + c) (by omega)
      refine gTernN (fun kt kf => x_icmp_ne (tgt := 46) K (by omega) dX4_differencesTo_39 (by decide) kt kf) (fun k => x_iconst K dX4_differencesTo_46 k) (fun k => x_iconst K dX4_differencesTo_42 (x_goto K dX4_differencesTo_43 (by decide) k)) ?_
      refine x_iadd K dX4_differencesTo_47 ?_
      refine gWX.top (b := gSum (fun r => gSum (fun c => if z (20 + (8 * r + c)) = y (20 + (8 * r + c)) then 0 else 1) (z 1).toNat) r + (gSum (fun c => if z (20 + (8 * r + c)) = y (20 + (8 * r + c)) then 0 else 1) c + if z (20 + (8 * r + c)) = y (20 + (8 * r + c)) then 0 else 1)) (Int.add_assoc _ _ _) ?_
      refine x_istore_2 K dX4_differencesTo_48 rfl ?_
      refine x_iinc_4 K dX4_differencesTo_49 rfl ?_
      refine x_goto (tgt := 15) K dX4_differencesTo_52 (by decide) ?_
      exact gWX.to rfl rfl (ih)
    · refine x_iload_4 K dX4_differencesTo_15 ?_
      refine x_aload_0 K dX4_differencesTo_17 ?_
      refine x_getI K gfRX4_31 ⟨by decide, hi⟩ dX4_differencesTo_18 ?_
      refine x_icmp_ge (tgt := 55) K (by omega) dX4_differencesTo_21 (by decide) (fun h21 => ?_) (fun h21 => absurd h21 (by omega))
      refine x_iinc_3 K dX4_differencesTo_55 rfl ?_
      refine x_goto (tgt := 4) K dX4_differencesTo_58 (by decide) ?_
      exact gWX.fgt 4 (gWX.to rfl rfl ih)
  · refine x_iload_3 K dX4_differencesTo_4 ?_
    refine x_aload_0 K dX4_differencesTo_5 ?_
    refine x_getI K gfRX4_28 ⟨by decide, hi⟩ dX4_differencesTo_6 ?_
    refine x_icmp_ge (tgt := 61) K (by omega) dX4_differencesTo_9 (by decide) (fun h9 => ?_) (fun h9 => absurd h9 (by omega))
    refine x_iload_2 K dX4_differencesTo_61 ?_
    exact x_iret K hE rfl dX4_differencesTo_62 (by decide) (by decide) rfl rfl
theorem c4_doubtsByProduct {E : gE} {σ : gS} (i : Nat) (hi : i < 56) (z : Nat → Int) (h : gScr σ i z) (hz : gZ z) : gCt E mX4_doubtsByProduct 4 0 [rf 3 i] σ (.inl (some (iv (s_dp z)))) σ := by
  refine gCt_of (L := [some (rf 3 i)]) (by decide +kernel) rfl rfl (Nat.le_of_ble_eq_true rfl) (fun X K hE => ?_)
  refine x_aload_0 K dX4_doubtsByProduct_0 ?_
  refine x_callV0 K (c4_smudgedCells i hi z h hz) mtX4_smudgedCells miX4_smudgedCells rc3 ⟨by decide, hi⟩ lkRX4_110 ⟨by decide, by decide, by decide⟩ rfl (Nat.le_of_ble_eq_true rfl) dX4_doubtsByProduct_1 ?_
  refine x_aload_0 K dX4_doubtsByProduct_4 ?_
  refine x_callV0 K (c4_rowsWrong i hi z h hz) mtX4_rowsWrong miX4_rowsWrong rc3 ⟨by decide, hi⟩ lkRX4_114 ⟨by decide, by decide, by decide⟩ rfl (Nat.le_of_ble_eq_true rfl) dX4_doubtsByProduct_5 ?_
  refine x_aload_0 K dX4_doubtsByProduct_8 ?_
  refine x_callV0 K (c4_columnsWrong i hi z h hz) mtX4_columnsWrong miX4_columnsWrong rc3 ⟨by decide, hi⟩ lkRX4_117 ⟨by decide, by decide, by decide⟩ rfl (Nat.le_of_ble_eq_true rfl) dX4_doubtsByProduct_9 ?_
  refine x_imul K dX4_doubtsByProduct_12 ?_
  refine x_iadd K dX4_doubtsByProduct_13 ?_
  exact x_iret K hE rfl dX4_doubtsByProduct_14 (by decide) (by decide) rfl rfl
theorem c4_obstacleToSealing {E : gE} {σ : gS} (i : Nat) (hi : i < 56) (z : Nat → Int) (h : gScr σ i z) (hz : gZ z) : gCt E mX4_obstacleToSealing 3 0 [rf 3 i] σ (.inl (some (iv (if 0 < s_sm z then 200 + s_sm z else 0)))) σ := by
  refine gCt_of (L := [some (rf 3 i), none]) (by decide +kernel) rfl rfl (Nat.le_of_ble_eq_true rfl) (fun X K hE => ?_)
  have b1 := s_sm_bd hz
  refine x_aload_0 K dX4_obstacleToSealing_0 ?_
  refine x_callV0 K (c4_smudgedCells i hi z h hz) mtX4_smudgedCells miX4_smudgedCells rc3 ⟨by decide, hi⟩ lkRX4_110 ⟨by decide, by decide, by decide⟩ rfl (Nat.le_of_ble_eq_true rfl) dX4_obstacleToSealing_1 ?_
  refine x_istore_1 K dX4_obstacleToSealing_4 rfl ?_
  refine x_iload_1 K dX4_obstacleToSealing_5 ?_
  refine x_if_le (tgt := 17) K (by omega) dX4_obstacleToSealing_6 (by decide) (fun h6 => ?_) (fun h6 => ?_)
  · refine x_iconst K dX4_obstacleToSealing_17 ?_
    exact x_iret K hE rfl dX4_obstacleToSealing_18 (by decide) (by decide) (by split <;> omega) rfl
  · refine x_iconst K dX4_obstacleToSealing_9 ?_
    refine x_iload_1 K dX4_obstacleToSealing_10 ?_
    refine x_callS2 K (c6_refused _ _) mtX6_refused msX6_refused lkRX4_120 ⟨by decide, by decide, by decide⟩ rfl (Nat.le_of_ble_eq_true rfl) dX4_obstacleToSealing_11 ?_
    refine x_goto (tgt := 18) K dX4_obstacleToSealing_14 (by decide) ?_
    exact x_iret K hE rfl dX4_obstacleToSealing_18 (by decide) (by decide) (by split <;> omega) rfl
theorem c4_obstacleToTouching {E : gE} {σ : gS} (i : Nat) (hi : i < 56) (z : Nat → Int) (h : gScr σ i z) (hz : gZ z) (r c : Nat) (hr : r < 6) (hc : c < 8) : gCt E mX4_obstacleToTouching 4 0 [rf 3 i, iv (r : Int), iv (c : Int)] σ (.inl (some (iv (if z (20 + (8 * r + c)) = -1 then 300 + (10 * (r : Int) + c) else 0)))) σ := by
  refine gCt_of (L := [some (rf 3 i), some (iv (r : Int)), some (iv (c : Int))]) (by decide +kernel) rfl rfl (Nat.le_of_ble_eq_true rfl) (fun X K hE => ?_)
  have ⟨e0, e1, e2, e3, e4, e5, es, eb, em, et⟩ := h
  have ⟨q0, q1, q2, q3, q4, q5, q6, q7, q8⟩ := hz
  have b1 := es (8 * r + c) (by omega)
  have b2 := q5 (8 * r + c) (by omega)
  have b3 := gB1_bd (σ.1 4 i (8 * r + c) = -1)
  refine x_aload_0 K dX4_obstacleToTouching_0 ?_
  refine x_iload_1 K dX4_obstacleToTouching_1 ?_
  refine x_iload_2 K dX4_obstacleToTouching_2 ?_
  refine x_callV2 K (c4_isSmudged i hi r c hr hc (by omega)) mtX4_isSmudged miX4_isSmudged rc3 ⟨by decide, hi⟩ lkRX4_83 ⟨by decide, by decide, by decide⟩ rfl (Nat.le_of_ble_eq_true rfl) dX4_obstacleToTouching_3 ?_
  refine x_if_eq (tgt := 22) K (by omega) dX4_obstacleToTouching_6 (by decide) (fun h6 => ?_) (fun h6 => ?_)
  · refine x_iconst K dX4_obstacleToTouching_22 ?_
    exact x_iret K hE rfl dX4_obstacleToTouching_23 (by decide) (by decide) (by rw [b1] at *; unfold gB1 at *; split <;> simp_all <;> omega) rfl
  · refine x_iconst K dX4_obstacleToTouching_9 ?_
    refine x_bipush K dX4_obstacleToTouching_10 rfl ?_
    refine x_iload_1 K dX4_obstacleToTouching_12 ?_
    refine x_imul K dX4_obstacleToTouching_13 ?_
    refine x_iload_2 K dX4_obstacleToTouching_14 ?_
    refine x_iadd K dX4_obstacleToTouching_15 ?_
    refine x_callS2 K (c6_refused _ _) mtX6_refused msX6_refused lkRX4_120 ⟨by decide, by decide, by decide⟩ rfl (Nat.le_of_ble_eq_true rfl) dX4_obstacleToTouching_16 ?_
    refine x_goto (tgt := 23) K dX4_obstacleToTouching_19 (by decide) ?_
    exact x_iret K hE rfl dX4_obstacleToTouching_23 (by decide) (by decide) (by rw [b1] at *; unfold gB1 at *; split <;> simp_all <;> omega) rfl
theorem c4_obstacleToFilling {E : gE} {σ : gS} (i : Nat) (hi : i < 56) (z : Nat → Int) (h : gScr σ i z) (hz : gZ z) (n : Int) : gCt E mX4_obstacleToFilling 2 0 [rf 3 i, iv n] σ (.inl (some (iv (if z 2 = 0 then 400 + n else 0)))) σ := by
  refine gCt_of (L := [some (rf 3 i), some (iv n)]) (by decide +kernel) rfl rfl (Nat.le_of_ble_eq_true rfl) (fun X K hE => ?_)
  have ⟨e0, e1, e2, e3, e4, e5, es, eb, em, et⟩ := h
  have ⟨q0, q1, q2, q3, q4, q5, q6, q7, q8⟩ := hz
  refine x_aload_0 K dX4_obstacleToFilling_0 ?_
  refine x_getI K gfRX4_34 ⟨by decide, hi⟩ dX4_obstacleToFilling_1 ?_
  refine x_if_eq (tgt := 11) K (by omega) dX4_obstacleToFilling_4 (by decide) (fun h4 => ?_) (fun h4 => ?_)
  · refine x_iconst K dX4_obstacleToFilling_11 ?_
    refine x_iload_1 K dX4_obstacleToFilling_12 ?_
    refine x_callS2 K (c6_refused _ _) mtX6_refused msX6_refused lkRX4_120 ⟨by decide, by decide, by decide⟩ rfl (Nat.le_of_ble_eq_true rfl) dX4_obstacleToFilling_13 ?_
    exact x_iret K hE rfl dX4_obstacleToFilling_16 (by decide) (by decide) (by split <;> omega) rfl
  · refine x_iconst K dX4_obstacleToFilling_7 ?_
    refine x_goto (tgt := 16) K dX4_obstacleToFilling_8 (by decide) ?_
    exact x_iret K hE rfl dX4_obstacleToFilling_16 (by decide) (by decide) (by split <;> omega) rfl
theorem c4_obstacleToMending {E : gE} {σ : gS} (i : Nat) (hi : i < 56) (z : Nat → Int) (h : gScr σ i z) (hz : gZ z) (n : Int) : gCt E mX4_obstacleToMending 4 0 [rf 3 i, iv n] σ (.inl (some (iv (s_om z n)))) σ := by
  refine gCt_of (L := [some (rf 3 i), some (iv n), none, none, none, none, none]) (by decide +kernel) rfl rfl (Nat.le_of_ble_eq_true rfl) (fun X K hE => ?_)
  have ⟨e0, e1, e2, e3, e4, e5, es, eb, em, et⟩ := h
  have ⟨q0, q1, q2, q3, q4, q5, q6, q7, q8⟩ := hz
  have b1 := s_sm_bd hz
  have b2 := s_wr_bd z
  have b3 := s_wc_bd z
  refine x_aload_0 K dX4_obstacleToMending_0 ?_
  refine x_getI K gfRX4_34 ⟨by decide, hi⟩ dX4_obstacleToMending_1 ?_
  refine x_if_ne (tgt := 13) K (by omega) dX4_obstacleToMending_4 (by decide) (fun h4 => ?_) (fun h4 => ?_)
  · refine x_aload_0 K dX4_obstacleToMending_13 ?_
    refine x_callV0 K (c4_smudgedCells i hi z h hz) mtX4_smudgedCells miX4_smudgedCells rc3 ⟨by decide, hi⟩ lkRX4_110 ⟨by decide, by decide, by decide⟩ rfl (Nat.le_of_ble_eq_true rfl) dX4_obstacleToMending_14 ?_
    refine x_istore_2 K dX4_obstacleToMending_17 rfl ?_
    refine x_iload_2 K dX4_obstacleToMending_18 ?_
    refine x_if_le (tgt := 28) K (by omega) dX4_obstacleToMending_19 (by decide) (fun h19 => ?_) (fun h19 => ?_)
    · refine x_aload_0 K dX4_obstacleToMending_28 ?_
      refine x_callV0 K (c4_rowsWrong i hi z h hz) mtX4_rowsWrong miX4_rowsWrong rc3 ⟨by decide, hi⟩ lkRX4_114 ⟨by decide, by decide, by decide⟩ rfl (Nat.le_of_ble_eq_true rfl) dX4_obstacleToMending_29 ?_
      refine x_istore_3 K dX4_obstacleToMending_32 rfl ?_
      refine x_aload_0 K dX4_obstacleToMending_33 ?_
      refine x_callV0 K (c4_columnsWrong i hi z h hz) mtX4_columnsWrong miX4_columnsWrong rc3 ⟨by decide, hi⟩ lkRX4_117 ⟨by decide, by decide, by decide⟩ rfl (Nat.le_of_ble_eq_true rfl) dX4_obstacleToMending_34 ?_
      refine x_istore_4 K dX4_obstacleToMending_37 rfl ?_
      refine x_iload_3 K dX4_obstacleToMending_39 ?_
      refine x_if_ne (tgt := 54) K (by omega) dX4_obstacleToMending_40 (by decide) (fun h40 => ?_) (fun h40 => ?_)
      · refine x_iload_3 K dX4_obstacleToMending_54 ?_
        refine x_iconst K dX4_obstacleToMending_55 ?_
        refine x_icmp_ne (tgt := 65) K (by omega) dX4_obstacleToMending_56 (by decide) (fun h56 => ?_) (fun h56 => ?_)
        · refine x_bipush K dX4_obstacleToMending_65 rfl ?_
          refine x_bipush K dX4_obstacleToMending_67 rfl ?_
          refine x_iload_3 K dX4_obstacleToMending_69 ?_
          refine x_imul K dX4_obstacleToMending_70 ?_
          refine x_iload_4 K dX4_obstacleToMending_71 ?_
          refine x_iadd K dX4_obstacleToMending_73 ?_
          refine x_callS2 K (c6_refused _ _) mtX6_refused msX6_refused lkRX4_120 ⟨by decide, by decide, by decide⟩ rfl (Nat.le_of_ble_eq_true rfl) dX4_obstacleToMending_74 ?_
          exact x_iret K hE rfl dX4_obstacleToMending_77 (by decide) (by decide) (by unfold s_om; (repeat' split) <;> omega) rfl
        · refine x_iload_4 K dX4_obstacleToMending_59 ?_
          refine x_iconst K dX4_obstacleToMending_61 ?_
          refine x_icmp_eq (tgt := 78) K (by omega) dX4_obstacleToMending_62 (by decide) (fun h62 => ?_) (fun h62 => ?_)
          · have f1 := s_fw_row (z := z) (by omega)
            have f2 := s_fw_col (z := z) (by omega)
            have b4 := s_f_bd hz (b := s_r1 z) (by omega)
            have b5 := s_f_bd hz (b := 6 + s_c1 z) (by omega)
            refine x_aload_0 K dX4_obstacleToMending_78 ?_
            refine x_aload_0 K dX4_obstacleToMending_79 ?_
            refine x_iconst K dX4_obstacleToMending_80 ?_
            refine x_callV1 K (c4_firstWrongFrom i hi z h hz 0 (by omega)) mtX4_firstWrongFrom miX4_firstWrongFrom rc3 ⟨by decide, hi⟩ lkRX4_100 ⟨by decide, by decide, by decide⟩ rfl (Nat.le_of_ble_eq_true rfl) dX4_obstacleToMending_81 ?_
            refine gWX.top (b := (s_r1 z : Int)) f1.1 ?_
            refine x_callV1 K (c4_fault i hi z h hz (s_r1 z) (by omega)) mtX4_fault miX4_fault rc3 ⟨by decide, hi⟩ lkRX4_123 ⟨by decide, by decide, by decide⟩ rfl (Nat.le_of_ble_eq_true rfl) dX4_obstacleToMending_84 ?_
            refine x_istore_5 K dX4_obstacleToMending_87 rfl ?_
            refine x_aload_0 K dX4_obstacleToMending_89 ?_
            refine x_aload_0 K dX4_obstacleToMending_90 ?_
            refine x_bipush K dX4_obstacleToMending_91 rfl ?_
            refine x_callV1 K (c4_firstWrongFrom i hi z h hz 6 (by omega)) mtX4_firstWrongFrom miX4_firstWrongFrom rc3 ⟨by decide, hi⟩ lkRX4_100 ⟨by decide, by decide, by decide⟩ rfl (Nat.le_of_ble_eq_true rfl) dX4_obstacleToMending_93 ?_
            refine gWX.top (b := ((6 + s_c1 z : Nat) : Int)) f2.1 ?_
            refine x_callV1 K (c4_fault i hi z h hz (6 + s_c1 z) (by omega)) mtX4_fault miX4_fault rc3 ⟨by decide, hi⟩ lkRX4_123 ⟨by decide, by decide, by decide⟩ rfl (Nat.le_of_ble_eq_true rfl) dX4_obstacleToMending_96 ?_
            refine x_istore_6 K dX4_obstacleToMending_99 rfl ?_
            refine x_iload_5 K dX4_obstacleToMending_101 ?_
            refine x_iload_6 K dX4_obstacleToMending_103 ?_
            refine x_icmp_ne (tgt := 112) K (by omega) dX4_obstacleToMending_105 (by decide) (fun h105 => ?_) (fun h105 => ?_)
            · refine x_bipush K dX4_obstacleToMending_112 rfl ?_
              refine x_bipush K dX4_obstacleToMending_114 rfl ?_
              refine x_iload_5 K dX4_obstacleToMending_116 ?_
              refine x_imul K dX4_obstacleToMending_118 ?_
              refine x_iload_6 K dX4_obstacleToMending_119 ?_
              refine x_iadd K dX4_obstacleToMending_121 ?_
              refine x_callS2 K (c6_refused _ _) mtX6_refused msX6_refused lkRX4_120 ⟨by decide, by decide, by decide⟩ rfl (Nat.le_of_ble_eq_true rfl) dX4_obstacleToMending_122 ?_
              exact x_iret K hE rfl dX4_obstacleToMending_125 (by decide) (by decide) (by unfold s_om; (repeat' split) <;> omega) rfl
            · refine x_iconst K dX4_obstacleToMending_108 ?_
              refine x_goto (tgt := 125) K dX4_obstacleToMending_109 (by decide) ?_
              exact x_iret K hE rfl dX4_obstacleToMending_125 (by decide) (by decide) (by unfold s_om; (repeat' split) <;> omega) rfl
          · refine x_bipush K dX4_obstacleToMending_65 rfl ?_
            refine x_bipush K dX4_obstacleToMending_67 rfl ?_
            refine x_iload_3 K dX4_obstacleToMending_69 ?_
            refine x_imul K dX4_obstacleToMending_70 ?_
            refine x_iload_4 K dX4_obstacleToMending_71 ?_
            refine x_iadd K dX4_obstacleToMending_73 ?_
            refine x_callS2 K (c6_refused _ _) mtX6_refused msX6_refused lkRX4_120 ⟨by decide, by decide, by decide⟩ rfl (Nat.le_of_ble_eq_true rfl) dX4_obstacleToMending_74 ?_
            exact x_iret K hE rfl dX4_obstacleToMending_77 (by decide) (by decide) (by unfold s_om; (repeat' split) <;> omega) rfl
      · refine x_iload_4 K dX4_obstacleToMending_43 ?_
        refine x_if_ne (tgt := 54) K (by omega) dX4_obstacleToMending_45 (by decide) (fun h45 => ?_) (fun h45 => ?_)
        · refine x_iload_3 K dX4_obstacleToMending_54 ?_
          refine x_iconst K dX4_obstacleToMending_55 ?_
          refine x_icmp_ne (tgt := 65) K (by omega) dX4_obstacleToMending_56 (by decide) (fun h56 => ?_) (fun h56 => ?_)
          · refine x_bipush K dX4_obstacleToMending_65 rfl ?_
            refine x_bipush K dX4_obstacleToMending_67 rfl ?_
            refine x_iload_3 K dX4_obstacleToMending_69 ?_
            refine x_imul K dX4_obstacleToMending_70 ?_
            refine x_iload_4 K dX4_obstacleToMending_71 ?_
            refine x_iadd K dX4_obstacleToMending_73 ?_
            refine x_callS2 K (c6_refused _ _) mtX6_refused msX6_refused lkRX4_120 ⟨by decide, by decide, by decide⟩ rfl (Nat.le_of_ble_eq_true rfl) dX4_obstacleToMending_74 ?_
            exact x_iret K hE rfl dX4_obstacleToMending_77 (by decide) (by decide) (by unfold s_om; (repeat' split) <;> omega) rfl
          · refine x_iload_4 K dX4_obstacleToMending_59 ?_
            refine x_iconst K dX4_obstacleToMending_61 ?_
            refine x_icmp_eq (tgt := 78) K (by omega) dX4_obstacleToMending_62 (by decide) (fun h62 => ?_) (fun h62 => ?_)
            · have f1 := s_fw_row (z := z) (by omega)
              have f2 := s_fw_col (z := z) (by omega)
              have b4 := s_f_bd hz (b := s_r1 z) (by omega)
              have b5 := s_f_bd hz (b := 6 + s_c1 z) (by omega)
              refine x_aload_0 K dX4_obstacleToMending_78 ?_
              refine x_aload_0 K dX4_obstacleToMending_79 ?_
              refine x_iconst K dX4_obstacleToMending_80 ?_
              refine x_callV1 K (c4_firstWrongFrom i hi z h hz 0 (by omega)) mtX4_firstWrongFrom miX4_firstWrongFrom rc3 ⟨by decide, hi⟩ lkRX4_100 ⟨by decide, by decide, by decide⟩ rfl (Nat.le_of_ble_eq_true rfl) dX4_obstacleToMending_81 ?_
              refine gWX.top (b := (s_r1 z : Int)) f1.1 ?_
              refine x_callV1 K (c4_fault i hi z h hz (s_r1 z) (by omega)) mtX4_fault miX4_fault rc3 ⟨by decide, hi⟩ lkRX4_123 ⟨by decide, by decide, by decide⟩ rfl (Nat.le_of_ble_eq_true rfl) dX4_obstacleToMending_84 ?_
              refine x_istore_5 K dX4_obstacleToMending_87 rfl ?_
              refine x_aload_0 K dX4_obstacleToMending_89 ?_
              refine x_aload_0 K dX4_obstacleToMending_90 ?_
              refine x_bipush K dX4_obstacleToMending_91 rfl ?_
              refine x_callV1 K (c4_firstWrongFrom i hi z h hz 6 (by omega)) mtX4_firstWrongFrom miX4_firstWrongFrom rc3 ⟨by decide, hi⟩ lkRX4_100 ⟨by decide, by decide, by decide⟩ rfl (Nat.le_of_ble_eq_true rfl) dX4_obstacleToMending_93 ?_
              refine gWX.top (b := ((6 + s_c1 z : Nat) : Int)) f2.1 ?_
              refine x_callV1 K (c4_fault i hi z h hz (6 + s_c1 z) (by omega)) mtX4_fault miX4_fault rc3 ⟨by decide, hi⟩ lkRX4_123 ⟨by decide, by decide, by decide⟩ rfl (Nat.le_of_ble_eq_true rfl) dX4_obstacleToMending_96 ?_
              refine x_istore_6 K dX4_obstacleToMending_99 rfl ?_
              refine x_iload_5 K dX4_obstacleToMending_101 ?_
              refine x_iload_6 K dX4_obstacleToMending_103 ?_
              refine x_icmp_ne (tgt := 112) K (by omega) dX4_obstacleToMending_105 (by decide) (fun h105 => ?_) (fun h105 => ?_)
              · refine x_bipush K dX4_obstacleToMending_112 rfl ?_
                refine x_bipush K dX4_obstacleToMending_114 rfl ?_
                refine x_iload_5 K dX4_obstacleToMending_116 ?_
                refine x_imul K dX4_obstacleToMending_118 ?_
                refine x_iload_6 K dX4_obstacleToMending_119 ?_
                refine x_iadd K dX4_obstacleToMending_121 ?_
                refine x_callS2 K (c6_refused _ _) mtX6_refused msX6_refused lkRX4_120 ⟨by decide, by decide, by decide⟩ rfl (Nat.le_of_ble_eq_true rfl) dX4_obstacleToMending_122 ?_
                exact x_iret K hE rfl dX4_obstacleToMending_125 (by decide) (by decide) (by unfold s_om; (repeat' split) <;> omega) rfl
              · refine x_iconst K dX4_obstacleToMending_108 ?_
                refine x_goto (tgt := 125) K dX4_obstacleToMending_109 (by decide) ?_
                exact x_iret K hE rfl dX4_obstacleToMending_125 (by decide) (by decide) (by unfold s_om; (repeat' split) <;> omega) rfl
            · refine x_bipush K dX4_obstacleToMending_65 rfl ?_
              refine x_bipush K dX4_obstacleToMending_67 rfl ?_
              refine x_iload_3 K dX4_obstacleToMending_69 ?_
              refine x_imul K dX4_obstacleToMending_70 ?_
              refine x_iload_4 K dX4_obstacleToMending_71 ?_
              refine x_iadd K dX4_obstacleToMending_73 ?_
              refine x_callS2 K (c6_refused _ _) mtX6_refused msX6_refused lkRX4_120 ⟨by decide, by decide, by decide⟩ rfl (Nat.le_of_ble_eq_true rfl) dX4_obstacleToMending_74 ?_
              exact x_iret K hE rfl dX4_obstacleToMending_77 (by decide) (by decide) (by unfold s_om; (repeat' split) <;> omega) rfl
        · refine x_iconst K dX4_obstacleToMending_48 ?_
          refine x_iconst K dX4_obstacleToMending_49 ?_
          refine x_callS2 K (c6_refused _ _) mtX6_refused msX6_refused lkRX4_120 ⟨by decide, by decide, by decide⟩ rfl (Nat.le_of_ble_eq_true rfl) dX4_obstacleToMending_50 ?_
          exact x_iret K hE rfl dX4_obstacleToMending_53 (by decide) (by decide) (by unfold s_om; (repeat' split) <;> omega) rfl
    · refine x_iconst K dX4_obstacleToMending_22 ?_
      refine x_iload_2 K dX4_obstacleToMending_23 ?_
      refine x_callS2 K (c6_refused _ _) mtX6_refused msX6_refused lkRX4_120 ⟨by decide, by decide, by decide⟩ rfl (Nat.le_of_ble_eq_true rfl) dX4_obstacleToMending_24 ?_
      exact x_iret K hE rfl dX4_obstacleToMending_27 (by decide) (by decide) (by unfold s_om; (repeat' split) <;> omega) rfl
  · refine x_iconst K dX4_obstacleToMending_7 ?_
    refine x_iload_1 K dX4_obstacleToMending_8 ?_
    refine x_callS2 K (c6_refused _ _) mtX6_refused msX6_refused lkRX4_120 ⟨by decide, by decide, by decide⟩ rfl (Nat.le_of_ble_eq_true rfl) dX4_obstacleToMending_9 ?_
    exact x_iret K hE rfl dX4_obstacleToMending_12 (by decide) (by decide) (by unfold s_om; (repeat' split) <;> omega) rfl
theorem c4_cellToMend {E : gE} {σ : gS} (i : Nat) (hi : i < 56) (z : Nat → Int) (h : gScr σ i z) (hz : gZ z) (n1 : s_wr z ≠ 0) (n2 : s_wc z ≠ 0) : gCt E mX4_cellToMend 4 0 [rf 3 i] σ (.inl (some (iv (10 * (s_r1 z : Int) + (s_c1 z : Int))))) σ := by
  refine gCt_of (L := [some (rf 3 i)]) (by decide +kernel) rfl rfl (Nat.le_of_ble_eq_true rfl) (fun X K hE => ?_)
  have f1 := s_fw_row (z := z) (by omega)
  have f2 := s_fw_col (z := z) (by omega)
  refine x_bipush K dX4_cellToMend_0 rfl ?_
  refine x_aload_0 K dX4_cellToMend_2 ?_
  refine x_iconst K dX4_cellToMend_3 ?_
  refine x_callV1 K (c4_firstWrongFrom i hi z h hz 0 (by omega)) mtX4_firstWrongFrom miX4_firstWrongFrom rc3 ⟨by decide, hi⟩ lkRX4_100 ⟨by decide, by decide, by decide⟩ rfl (Nat.le_of_ble_eq_true rfl) dX4_cellToMend_4 ?_
  refine gWX.top (b := (s_r1 z : Int)) f1.1 ?_
  refine x_imul K dX4_cellToMend_7 ?_
  refine x_aload_0 K dX4_cellToMend_8 ?_
  refine x_bipush K dX4_cellToMend_9 rfl ?_
  refine x_callV1 K (c4_firstWrongFrom i hi z h hz 6 (by omega)) mtX4_firstWrongFrom miX4_firstWrongFrom rc3 ⟨by decide, hi⟩ lkRX4_100 ⟨by decide, by decide, by decide⟩ rfl (Nat.le_of_ble_eq_true rfl) dX4_cellToMend_11 ?_
  refine gWX.top (b := ((6 + s_c1 z : Nat) : Int)) f2.1 ?_
  refine x_iadd K dX4_cellToMend_14 ?_
  refine x_bipush K dX4_cellToMend_15 rfl ?_
  refine x_isub K dX4_cellToMend_17 ?_
  exact x_iret K hE rfl dX4_cellToMend_18 (by decide) (by decide) (by omega) rfl
