/-! ===== the sum of a row or column as it is now, whether it is smudged, whether it is wrong ===== -/
theorem gSum_max {z : Nat → Int} (hz : gZ z) {r : Nat} (hr : r < 6) : gSum (fun c => max 0 (z (20 + (8 * r + c)))) (z 1).toNat = s_rs z r := by
  have h1 := hz.2.1
  unfold s_rs
  have h9 := gSum_more (f := fun c => max 0 (z (20 + (8 * r + c)))) (n := (z 1).toNat) (8 - (z 1).toNat) (fun c h2 h3 => by
    show max 0 (z (20 + (8 * r + c))) = 0
    rw [hz.2.2.2.2.2.2.1 r hr c (by omega) (Or.inr (by omega))]
    rfl)
  rw [show (z 1).toNat + (8 - (z 1).toNat) = 8 by omega] at h9
  exact h9.symm
theorem gSum_maxC {z : Nat → Int} (hz : gZ z) {c : Nat} (hc : c < 8) : gSum (fun r => max 0 (z (20 + (8 * r + c)))) (z 0).toNat = s_cs z c := by
  have h1 := hz.1
  unfold s_cs
  rw [show 6 = (z 0).toNat + (6 - (z 0).toNat) by omega]
  exact (gSum_more _ (fun r h2 h3 => by
    show max 0 (z (20 + (8 * r + c))) = 0
    rw [hz.2.2.2.2.2.2.1 r (by omega) c hc (Or.inl (by omega))]
    rfl)).symm
theorem now_row {E : gE} {σ : gS} (Y : Nat → Int) (h : gSh σ 0 Y) (hY : gY Y) {k r : Nat} (hk : (k : Int) < Y 0) (hr : (r : Int) < zb Y k 0) : gCt E mL_now 14 0 [rf 0 0, iv (k : Int), iv 1, iv (r : Int)] σ (.inl (some (iv (s_b (zb Y k) r % 10)))) σ := by
  refine gCt_of (L := [some (rf 0 0), some (iv (k : Int)), some (iv 1), some (iv (r : Int)), none, none, none]) (by decide +kernel) rfl rfl (Nat.le_of_ble_eq_true rfl) (fun X K hE => ?_)
  have h5 := gY_k hY hk
  have hz := hY.2 k hk
  have z0 := hz.1
  have z1 := hz.2.1
  have eb : gSum (fun c => max 0 (zb Y k (20 + (8 * r + c)))) (zb Y k 1).toNat = s_b (zb Y k) r := by
    unfold s_b
    rw [if_pos (by omega)]
    exact gSum_max hz (by omega)
  have eb2 := s_b_bd hz (b := r) (by omega)
  refine x_iconst K dL_now_0 ?_
  refine x_istore_4 K dL_now_1 rfl ?_
  refine x_iconst K dL_now_3 ?_
  refine x_istore_5 K dL_now_4 rfl ?_
  refine gLp (P := fun i : Nat => gWX X E 0 0 6 [some (rf 0 0), some (iv (k : Int)), some (iv 1), some (iv (r : Int)), some (iv (gSum (fun c => max 0 (zb Y k (20 + (8 * r + c)))) i)), some (iv (i : Int)), none] [] (σ)) ((zb Y k 1).toNat) (fun k0 => ?_) (fun i hi ih => ?_) ?_
  · exact gWX.to rfl rfl (k0)
  · have gb : 0 ≤ gSum (fun c => max 0 (zb Y k (20 + (8 * r + c)))) i ∧ gSum (fun c => max 0 (zb Y k (20 + (8 * r + c)))) i ≤ (i : Int) * 9 := gSum_bd i (fun j hj => by
      have sb := hz.2.2.2.2.2.1 (8 * r + j) (by omega)
      show 0 ≤ max 0 (zb Y k (20 + (8 * r + j))) ∧ max 0 (zb Y k (20 + (8 * r + j))) ≤ 9
      omega)
    refine x_iload_5 K dL_now_6 ?_
    refine x_aload_0 K dL_now_8 ?_
    refine x_iload_1 K dL_now_9 ?_
    refine x_iload_2 K dL_now_10 ?_
    refine x_if_eq (tgt := 18) K (by omega) dL_now_11 (by decide) (fun h11 => absurd h11 (by omega)) (fun h11 => ?_)
    refine x_iconst K dL_now_14 ?_
    refine x_goto (tgt := 19) K dL_now_15 (by decide) ?_
    refine x_callH3 K (p_of h hY 1 hk (by omega)) mtL_of msL_of (g_mem 606 (by decide +kernel)) ⟨by omega, by omega, by omega⟩ rfl (Nat.le_of_ble_eq_true rfl) dL_now_19 ?_
    refine gWX.top (b := zb Y k 1) rfl ?_
    refine x_icmp_ge (tgt := 72) K (by omega) dL_now_22 (by decide) (fun h22 => absurd h22 (by omega)) (fun h22 => ?_)
    refine x_iload_2 K dL_now_25 ?_
    refine x_if_eq (tgt := 40) K (by omega) dL_now_26 (by decide) (fun h26 => absurd h26 (by omega)) (fun h26 => ?_)
    refine x_aload_0 K dL_now_29 ?_
    refine x_iload_1 K dL_now_30 ?_
    refine x_iload_3 K dL_now_31 ?_
    refine x_iload_5 K dL_now_32 ?_
    refine x_callH4 K (p_sign h hY hk hr (by omega)) mtL_sign msL_sign (g_mem 717 (by decide +kernel)) ⟨by omega, by omega, by omega⟩ rfl (Nat.le_of_ble_eq_true rfl) dL_now_34 ?_
    have sb := hz.2.2.2.2.2.1 (8 * r + i) (by omega)
    refine x_goto (tgt := 48) K dL_now_37 (by decide) ?_
    refine x_istore_6 K dL_now_48 rfl ?_
    refine x_iload_4 K dL_now_50 ?_
    refine x_iload_6 K dL_now_52 ?_
    refine gTern (fun kt kf => x_if_ge (tgt := 61) K (by omega) dL_now_54 (by decide) kt kf) (fun k => x_iload_6 K dL_now_61 k) (fun k => x_iconst K dL_now_57 (x_goto K dL_now_58 (by decide) k)) ?_
    refine gWX.top (b := max 0 (zb Y k (20 + (8 * r + i)))) (by split <;> omega) ?_
    refine x_iadd K dL_now_63 ?_
    refine x_istore_4 K dL_now_64 rfl ?_
    refine x_iinc_5 K dL_now_66 rfl ?_
    refine x_goto (tgt := 6) K dL_now_69 (by decide) ?_
    exact gWX.fgt 6 (gWX.to rfl rfl ih)
  · refine x_iload_5 K dL_now_6 ?_
    refine x_aload_0 K dL_now_8 ?_
    refine x_iload_1 K dL_now_9 ?_
    refine x_iload_2 K dL_now_10 ?_
    refine x_if_eq (tgt := 18) K (by omega) dL_now_11 (by decide) (fun h11 => absurd h11 (by omega)) (fun h11 => ?_)
    refine x_iconst K dL_now_14 ?_
    refine x_goto (tgt := 19) K dL_now_15 (by decide) ?_
    refine x_callH3 K (p_of h hY 1 hk (by omega)) mtL_of msL_of (g_mem 606 (by decide +kernel)) ⟨by omega, by omega, by omega⟩ rfl (Nat.le_of_ble_eq_true rfl) dL_now_19 ?_
    refine gWX.top (b := zb Y k 1) rfl ?_
    refine x_icmp_ge (tgt := 72) K (by omega) dL_now_22 (by decide) (fun h22 => ?_) (fun h22 => absurd h22 (by omega))
    refine gWX.to (L' := [some (rf 0 0), some (iv (k : Int)), some (iv 1), some (iv (r : Int)), some (iv (s_b (zb Y k) r)), some (iv (((zb Y k 1).toNat : Nat) : Int)), none]) (by rw [eb]) rfl ?_
    refine x_iload_4 K dL_now_72 ?_
    refine x_bipush K dL_now_74 rfl ?_
    refine x_irem K (by omega) dL_now_76 ?_
    exact x_iret K hE rfl dL_now_77 (by decide) (by decide) rfl rfl
theorem gSum_min {z : Nat → Int} (hz : gZ z) {r : Nat} (hr : r < 6) : gSum (fun c => gB1 (z (20 + (8 * r + c)) = -1)) (z 1).toNat = s_rm z r := by
  have h1 := hz.2.1
  unfold s_rm
  have h9 := gSum_more (f := fun c => gB1 (z (20 + (8 * r + c)) = -1)) (n := (z 1).toNat) (8 - (z 1).toNat) (fun c h2 h3 => gB1_f (by
    rw [hz.2.2.2.2.2.2.1 r hr c (by omega) (Or.inr (by omega))]
    omega))
  rw [show (z 1).toNat + (8 - (z 1).toNat) = 8 by omega] at h9
  exact h9.symm
theorem gSum_minC {z : Nat → Int} (hz : gZ z) {c : Nat} (hc : c < 8) : gSum (fun r => gB1 (z (20 + (8 * r + c)) = -1)) (z 0).toNat = s_cm z c := by
  have h1 := hz.1
  unfold s_cm
  rw [show 6 = (z 0).toNat + (6 - (z 0).toNat) by omega]
  exact (gSum_more _ (fun r h2 h3 => gB1_f (by
    rw [hz.2.2.2.2.2.2.1 r (by omega) c hc (Or.inl (by omega))]
    omega))).symm
theorem smudged_row {E : gE} {σ : gS} (Y : Nat → Int) (h : gSh σ 0 Y) (hY : gY Y) {k r : Nat} (hk : (k : Int) < Y 0) (hr : (r : Int) < zb Y k 0) : gCt E mL_isSmudged 14 0 [rf 0 0, iv (k : Int), iv 1, iv (r : Int)] σ (.inl (some (iv (gB1 (0 < s_m (zb Y k) r))))) σ := by
  refine gCt_of (L := [some (rf 0 0), some (iv (k : Int)), some (iv 1), some (iv (r : Int)), none]) (by decide +kernel) rfl rfl (Nat.le_of_ble_eq_true rfl) (fun X K hE => ?_)
  have h5 := gY_k hY hk
  have hz := hY.2 k hk
  have z0 := hz.1
  have z1 := hz.2.1
  have em : gSum (fun c => gB1 (zb Y k (20 + (8 * r + c)) = -1)) (zb Y k 1).toNat = s_m (zb Y k) r := by
    unfold s_m
    rw [if_pos (by omega)]
    exact gSum_min hz (by omega)
  refine x_iconst K dL_isSmudged_0 ?_
  refine x_istore_4 K dL_isSmudged_1 rfl ?_
  refine gLp (P := fun i : Nat => (gSum (fun c => gB1 (zb Y k (20 + (8 * r + c)) = -1)) i = 0) → gWX X E 0 0 3 [some (rf 0 0), some (iv (k : Int)), some (iv 1), some (iv (r : Int)), some (iv (i : Int))] [] (σ)) ((zb Y k 1).toNat) (fun k0 => ?_) (fun i hi ih => ?_) ?_
  · exact gWX.to rfl rfl (k0 rfl)
  · intro hy
    refine x_iload_4 K dL_isSmudged_3 ?_
    refine x_aload_0 K dL_isSmudged_5 ?_
    refine x_iload_1 K dL_isSmudged_6 ?_
    refine x_iload_2 K dL_isSmudged_7 ?_
    refine x_if_eq (tgt := 15) K (by omega) dL_isSmudged_8 (by decide) (fun h8 => absurd h8 (by omega)) (fun h8 => ?_)
    refine x_iconst K dL_isSmudged_11 ?_
    refine x_goto (tgt := 16) K dL_isSmudged_12 (by decide) ?_
    refine x_callH3 K (p_of h hY 1 hk (by omega)) mtL_of msL_of (g_mem 606 (by decide +kernel)) ⟨by omega, by omega, by omega⟩ rfl (Nat.le_of_ble_eq_true rfl) dL_isSmudged_16 ?_
    refine gWX.top (b := zb Y k 1) rfl ?_
    refine x_icmp_ge (tgt := 56) K (by omega) dL_isSmudged_19 (by decide) (fun h19 => absurd h19 (by omega)) (fun h19 => ?_)
    refine x_iload_2 K dL_isSmudged_22 ?_
    refine x_if_eq (tgt := 37) K (by omega) dL_isSmudged_23 (by decide) (fun h23 => absurd h23 (by omega)) (fun h23 => ?_)
    refine x_aload_0 K dL_isSmudged_26 ?_
    refine x_iload_1 K dL_isSmudged_27 ?_
    refine x_iload_3 K dL_isSmudged_28 ?_
    refine x_iload_4 K dL_isSmudged_29 ?_
    refine x_callH4 K (p_sign h hY hk hr (by omega)) mtL_sign msL_sign (g_mem 717 (by decide +kernel)) ⟨by omega, by omega, by omega⟩ rfl (Nat.le_of_ble_eq_true rfl) dL_isSmudged_31 ?_
    have sb := hz.2.2.2.2.2.1 (8 * r + i) (by omega)
    refine x_goto (tgt := 45) K dL_isSmudged_34 (by decide) ?_
    refine x_if_ge (tgt := 50) K (by omega) dL_isSmudged_45 (by decide) (fun h45 => ?_) (fun h45 => ?_)
    · refine x_iinc_4 K dL_isSmudged_50 rfl ?_
      refine x_goto (tgt := 3) K dL_isSmudged_53 (by decide) ?_
      exact gWX.to rfl rfl (ih (by show gSum _ i + gB1 _ = 0; rw [hy, gB1_f (by omega)]; rfl))
    · refine x_iconst K dL_isSmudged_48 ?_
      exact x_zret K hE rfl dL_isSmudged_49 (by decide) (by decide) (by omega) (gB1_t (by
      have hm0 := s_m_bd (zb Y k) r
      refine Classical.byContradiction (fun q => ?_)
      have q2 : s_m (zb Y k) r = 0 := by omega
      rw [← em] at q2
      have q3 : gB1 (zb Y k (20 + (8 * r + i)) = -1) = 0 := gSum_nil (zb Y k 1).toNat (fun j hj => (gB1_bd _).1) q2 i hi
      rw [gB1_t (by omega)] at q3
      omega)).symm rfl
  · intro hy
    refine x_iload_4 K dL_isSmudged_3 ?_
    refine x_aload_0 K dL_isSmudged_5 ?_
    refine x_iload_1 K dL_isSmudged_6 ?_
    refine x_iload_2 K dL_isSmudged_7 ?_
    refine x_if_eq (tgt := 15) K (by omega) dL_isSmudged_8 (by decide) (fun h8 => absurd h8 (by omega)) (fun h8 => ?_)
    refine x_iconst K dL_isSmudged_11 ?_
    refine x_goto (tgt := 16) K dL_isSmudged_12 (by decide) ?_
    refine x_callH3 K (p_of h hY 1 hk (by omega)) mtL_of msL_of (g_mem 606 (by decide +kernel)) ⟨by omega, by omega, by omega⟩ rfl (Nat.le_of_ble_eq_true rfl) dL_isSmudged_16 ?_
    refine gWX.top (b := zb Y k 1) rfl ?_
    refine x_icmp_ge (tgt := 56) K (by omega) dL_isSmudged_19 (by decide) (fun h19 => ?_) (fun h19 => absurd h19 (by omega))
    refine x_iconst K dL_isSmudged_56 ?_
    exact x_zret K hE rfl dL_isSmudged_57 (by decide) (by decide) (by omega) (gB1_f (fun q => by rw [← em, hy] at q; omega)).symm rfl
theorem wrong_row {E : gE} {σ : gS} (Y : Nat → Int) (h : gSh σ 0 Y) (hY : gY Y) {k r : Nat} (hk : (k : Int) < Y 0) (hr : (r : Int) < zb Y k 0) : gCt E mL_isWrong 15 1 [rf 0 0, iv (k : Int), iv 1, iv (r : Int)] σ (.inl (some (iv (gB1 (s_w (zb Y k) r = true))))) σ := by
  refine gCt_of (L := [some (rf 0 0), some (iv (k : Int)), some (iv 1), some (iv (r : Int)), none]) (by decide +kernel) rfl rfl (Nat.le_of_ble_eq_true rfl) (fun X K hE => ?_)
  have h5 := gY_k hY hk
  have hz := hY.2 k hk
  have z0 := hz.1
  have z1 := hz.2.1
  have t0 := hz.2.2.2.2.1 r (by omega)
  have eb2 := s_b_bd hz (b := r) (by omega)
  have hT : (zb Y k 2 = 1 ∧ pT (zb Y k) r = zb Y k (6 + r)) ∨ (zb Y k 2 = 0 ∧ pT (zb Y k) r = -13) := by
    rcases hz.2.2.1 with q | q
    · exact Or.inr ⟨q, if_neg (by omega)⟩
    · exact Or.inl ⟨q, if_pos q⟩
  refine x_iload_2 K dL_isWrong_0 ?_
  refine x_if_eq (tgt := 13) K (by omega) dL_isWrong_1 (by decide) (fun h1 => absurd h1 (by omega)) (fun h1 => ?_)
  refine x_aload_0 K dL_isWrong_4 ?_
  refine x_iload_1 K dL_isWrong_5 ?_
  refine x_iload_3 K dL_isWrong_6 ?_
  refine x_callH3 K (p_rowSum h hY hk hr) mtL_rowSum msL_rowSum (g_mem 693 (by decide +kernel)) ⟨by omega, by omega, by omega⟩ rfl (Nat.le_of_ble_eq_true rfl) dL_isWrong_7 ?_
  refine x_goto (tgt := 19) K dL_isWrong_10 (by decide) ?_
  refine x_istore_4 K dL_isWrong_19 rfl ?_
  refine x_iload_4 K dL_isWrong_21 ?_
  refine x_if_lt (tgt := 52) K (by omega) dL_isWrong_23 (by decide) (fun h23 => ?_) (fun h23 => ?_)
  · refine x_iconst K dL_isWrong_52 ?_
    exact x_zret K hE rfl dL_isWrong_53 (by decide) (by decide) (by omega) (gB1_f (fun q => by have q2 := (s_w_iff _ _).mp q; omega)).symm rfl
  · refine x_aload_0 K dL_isWrong_26 ?_
    refine x_iload_1 K dL_isWrong_27 ?_
    refine x_iload_2 K dL_isWrong_28 ?_
    refine x_iload_3 K dL_isWrong_29 ?_
    refine x_callS4 K (smudged_row Y h hY hk hr) mtL_isSmudged msL_isSmudged lkRL_202 ⟨by decide, by decide, by decide⟩ rfl (Nat.le_of_ble_eq_true rfl) dL_isWrong_30 ?_
    have gb := gB1_bd (0 < s_m (zb Y k) r)
    have hm0 := s_m_bd (zb Y k) r
    refine x_if_ne (tgt := 52) K (by omega) dL_isWrong_33 (by decide) (fun h33 => ?_) (fun h33 => ?_)
    · refine x_iconst K dL_isWrong_52 ?_
      exact x_zret K hE rfl dL_isWrong_53 (by decide) (by decide) (by omega) (gB1_f (fun q => by have q2 := (s_w_iff _ _).mp q; exact h33 (gB1_f (by omega)))).symm rfl
    · refine x_iload_4 K dL_isWrong_36 ?_
      refine x_aload_0 K dL_isWrong_38 ?_
      refine x_iload_1 K dL_isWrong_39 ?_
      refine x_iload_2 K dL_isWrong_40 ?_
      refine x_iload_3 K dL_isWrong_41 ?_
      refine x_callS4 K (now_row Y h hY hk hr) mtL_now msL_now lkRL_206 ⟨by decide, by decide, by decide⟩ rfl (Nat.le_of_ble_eq_true rfl) dL_isWrong_42 ?_
      refine x_icmp_eq (tgt := 52) K (by omega) dL_isWrong_45 (by decide) (fun h45 => ?_) (fun h45 => ?_)
      · refine x_iconst K dL_isWrong_52 ?_
        exact x_zret K hE rfl dL_isWrong_53 (by decide) (by decide) (by omega) (gB1_f (fun q => by have q2 := (s_w_iff _ _).mp q; omega)).symm rfl
      · refine x_iconst K dL_isWrong_48 ?_
        refine x_goto (tgt := 53) K dL_isWrong_49 (by decide) ?_
        exact x_zret K hE rfl dL_isWrong_53 (by decide) (by decide) (by omega) (gB1_t ((s_w_iff _ _).mpr ⟨by omega, Classical.byContradiction (fun q => by rw [gB1_t (by omega)] at h33; omega), by omega⟩)).symm rfl
theorem now_col {E : gE} {σ : gS} (Y : Nat → Int) (h : gSh σ 0 Y) (hY : gY Y) {k c : Nat} (hk : (k : Int) < Y 0) (hc : (c : Int) < zb Y k 1) : gCt E mL_now 14 0 [rf 0 0, iv (k : Int), iv 0, iv (c : Int)] σ (.inl (some (iv (s_b (zb Y k) (6 + c) % 10)))) σ := by
  refine gCt_of (L := [some (rf 0 0), some (iv (k : Int)), some (iv 0), some (iv (c : Int)), none, none, none]) (by decide +kernel) rfl rfl (Nat.le_of_ble_eq_true rfl) (fun X K hE => ?_)
  have h5 := gY_k hY hk
  have hz := hY.2 k hk
  have z0 := hz.1
  have z1 := hz.2.1
  have eb : gSum (fun r => max 0 (zb Y k (20 + (8 * r + c)))) (zb Y k 0).toNat = s_b (zb Y k) (6 + c) := by
    unfold s_b
    rw [if_neg (by omega), show 6 + c - 6 = c by omega]
    exact gSum_maxC hz (by omega)
  have eb2 := s_b_bd hz (b := 6 + c) (by omega)
  refine x_iconst K dL_now_0 ?_
  refine x_istore_4 K dL_now_1 rfl ?_
  refine x_iconst K dL_now_3 ?_
  refine x_istore_5 K dL_now_4 rfl ?_
  refine gLp (P := fun i : Nat => gWX X E 0 0 6 [some (rf 0 0), some (iv (k : Int)), some (iv 0), some (iv (c : Int)), some (iv (gSum (fun r => max 0 (zb Y k (20 + (8 * r + c)))) i)), some (iv (i : Int)), none] [] (σ)) ((zb Y k 0).toNat) (fun k0 => ?_) (fun i hi ih => ?_) ?_
  · exact gWX.to rfl rfl (k0)
  · have gb : 0 ≤ gSum (fun r => max 0 (zb Y k (20 + (8 * r + c)))) i ∧ gSum (fun r => max 0 (zb Y k (20 + (8 * r + c)))) i ≤ (i : Int) * 9 := gSum_bd i (fun j hj => by
      have sb := hz.2.2.2.2.2.1 (8 * j + c) (by omega)
      show 0 ≤ max 0 (zb Y k (20 + (8 * j + c))) ∧ max 0 (zb Y k (20 + (8 * j + c))) ≤ 9
      omega)
    refine x_iload_5 K dL_now_6 ?_
    refine x_aload_0 K dL_now_8 ?_
    refine x_iload_1 K dL_now_9 ?_
    refine x_iload_2 K dL_now_10 ?_
    refine x_if_eq (tgt := 18) K (by omega) dL_now_11 (by decide) (fun h11 => ?_) (fun h11 => absurd rfl h11)
    refine x_iconst K dL_now_18 ?_
    refine x_callH3 K (p_of h hY 0 hk (by omega)) mtL_of msL_of (g_mem 606 (by decide +kernel)) ⟨by omega, by omega, by omega⟩ rfl (Nat.le_of_ble_eq_true rfl) dL_now_19 ?_
    refine gWX.top (b := zb Y k 0) rfl ?_
    refine x_icmp_ge (tgt := 72) K (by omega) dL_now_22 (by decide) (fun h22 => absurd h22 (by omega)) (fun h22 => ?_)
    refine x_iload_2 K dL_now_25 ?_
    refine x_if_eq (tgt := 40) K (by omega) dL_now_26 (by decide) (fun h26 => ?_) (fun h26 => absurd rfl h26)
    refine x_aload_0 K dL_now_40 ?_
    refine x_iload_1 K dL_now_41 ?_
    refine x_iload_5 K dL_now_42 ?_
    refine x_iload_3 K dL_now_44 ?_
    refine x_callH4 K (p_sign h hY hk (by omega) hc) mtL_sign msL_sign (g_mem 717 (by decide +kernel)) ⟨by omega, by omega, by omega⟩ rfl (Nat.le_of_ble_eq_true rfl) dL_now_45 ?_
    have sb := hz.2.2.2.2.2.1 (8 * i + c) (by omega)
    refine x_istore_6 K dL_now_48 rfl ?_
    refine x_iload_4 K dL_now_50 ?_
    refine x_iload_6 K dL_now_52 ?_
    refine gTern (fun kt kf => x_if_ge (tgt := 61) K (by omega) dL_now_54 (by decide) kt kf) (fun k => x_iload_6 K dL_now_61 k) (fun k => x_iconst K dL_now_57 (x_goto K dL_now_58 (by decide) k)) ?_
    refine gWX.top (b := max 0 (zb Y k (20 + (8 * i + c)))) (by split <;> omega) ?_
    refine x_iadd K dL_now_63 ?_
    refine x_istore_4 K dL_now_64 rfl ?_
    refine x_iinc_5 K dL_now_66 rfl ?_
    refine x_goto (tgt := 6) K dL_now_69 (by decide) ?_
    exact gWX.fgt 6 (gWX.to rfl rfl ih)
  · refine x_iload_5 K dL_now_6 ?_
    refine x_aload_0 K dL_now_8 ?_
    refine x_iload_1 K dL_now_9 ?_
    refine x_iload_2 K dL_now_10 ?_
    refine x_if_eq (tgt := 18) K (by omega) dL_now_11 (by decide) (fun h11 => ?_) (fun h11 => absurd rfl h11)
    refine x_iconst K dL_now_18 ?_
    refine x_callH3 K (p_of h hY 0 hk (by omega)) mtL_of msL_of (g_mem 606 (by decide +kernel)) ⟨by omega, by omega, by omega⟩ rfl (Nat.le_of_ble_eq_true rfl) dL_now_19 ?_
    refine gWX.top (b := zb Y k 0) rfl ?_
    refine x_icmp_ge (tgt := 72) K (by omega) dL_now_22 (by decide) (fun h22 => ?_) (fun h22 => absurd h22 (by omega))
    refine gWX.to (L' := [some (rf 0 0), some (iv (k : Int)), some (iv 0), some (iv (c : Int)), some (iv (s_b (zb Y k) (6 + c))), some (iv (((zb Y k 0).toNat : Nat) : Int)), none]) (by rw [eb]) rfl ?_
    refine x_iload_4 K dL_now_72 ?_
    refine x_bipush K dL_now_74 rfl ?_
    refine x_irem K (by omega) dL_now_76 ?_
    exact x_iret K hE rfl dL_now_77 (by decide) (by decide) rfl rfl
theorem smudged_col {E : gE} {σ : gS} (Y : Nat → Int) (h : gSh σ 0 Y) (hY : gY Y) {k c : Nat} (hk : (k : Int) < Y 0) (hc : (c : Int) < zb Y k 1) : gCt E mL_isSmudged 14 0 [rf 0 0, iv (k : Int), iv 0, iv (c : Int)] σ (.inl (some (iv (gB1 (0 < s_m (zb Y k) (6 + c)))))) σ := by
  refine gCt_of (L := [some (rf 0 0), some (iv (k : Int)), some (iv 0), some (iv (c : Int)), none]) (by decide +kernel) rfl rfl (Nat.le_of_ble_eq_true rfl) (fun X K hE => ?_)
  have h5 := gY_k hY hk
  have hz := hY.2 k hk
  have z0 := hz.1
  have z1 := hz.2.1
  have em : gSum (fun r => gB1 (zb Y k (20 + (8 * r + c)) = -1)) (zb Y k 0).toNat = s_m (zb Y k) (6 + c) := by
    unfold s_m
    rw [if_neg (by omega), show 6 + c - 6 = c by omega]
    exact gSum_minC hz (by omega)
  refine x_iconst K dL_isSmudged_0 ?_
  refine x_istore_4 K dL_isSmudged_1 rfl ?_
  refine gLp (P := fun i : Nat => (gSum (fun r => gB1 (zb Y k (20 + (8 * r + c)) = -1)) i = 0) → gWX X E 0 0 3 [some (rf 0 0), some (iv (k : Int)), some (iv 0), some (iv (c : Int)), some (iv (i : Int))] [] (σ)) ((zb Y k 0).toNat) (fun k0 => ?_) (fun i hi ih => ?_) ?_
  · exact gWX.to rfl rfl (k0 rfl)
  · intro hy
    refine x_iload_4 K dL_isSmudged_3 ?_
    refine x_aload_0 K dL_isSmudged_5 ?_
    refine x_iload_1 K dL_isSmudged_6 ?_
    refine x_iload_2 K dL_isSmudged_7 ?_
    refine x_if_eq (tgt := 15) K (by omega) dL_isSmudged_8 (by decide) (fun h8 => ?_) (fun h8 => absurd rfl h8)
    refine x_iconst K dL_isSmudged_15 ?_
    refine x_callH3 K (p_of h hY 0 hk (by omega)) mtL_of msL_of (g_mem 606 (by decide +kernel)) ⟨by omega, by omega, by omega⟩ rfl (Nat.le_of_ble_eq_true rfl) dL_isSmudged_16 ?_
    refine gWX.top (b := zb Y k 0) rfl ?_
    refine x_icmp_ge (tgt := 56) K (by omega) dL_isSmudged_19 (by decide) (fun h19 => absurd h19 (by omega)) (fun h19 => ?_)
    refine x_iload_2 K dL_isSmudged_22 ?_
    refine x_if_eq (tgt := 37) K (by omega) dL_isSmudged_23 (by decide) (fun h23 => ?_) (fun h23 => absurd rfl h23)
    refine x_aload_0 K dL_isSmudged_37 ?_
    refine x_iload_1 K dL_isSmudged_38 ?_
    refine x_iload_4 K dL_isSmudged_39 ?_
    refine x_iload_3 K dL_isSmudged_41 ?_
    refine x_callH4 K (p_sign h hY hk (by omega) hc) mtL_sign msL_sign (g_mem 717 (by decide +kernel)) ⟨by omega, by omega, by omega⟩ rfl (Nat.le_of_ble_eq_true rfl) dL_isSmudged_42 ?_
    have sb := hz.2.2.2.2.2.1 (8 * i + c) (by omega)
    refine x_if_ge (tgt := 50) K (by omega) dL_isSmudged_45 (by decide) (fun h45 => ?_) (fun h45 => ?_)
    · refine x_iinc_4 K dL_isSmudged_50 rfl ?_
      refine x_goto (tgt := 3) K dL_isSmudged_53 (by decide) ?_
      exact gWX.to rfl rfl (ih (by show gSum _ i + gB1 _ = 0; rw [hy, gB1_f (by omega)]; rfl))
    · refine x_iconst K dL_isSmudged_48 ?_
      exact x_zret K hE rfl dL_isSmudged_49 (by decide) (by decide) (by omega) (gB1_t (by
      have hm0 := s_m_bd (zb Y k) (6 + c)
      refine Classical.byContradiction (fun q => ?_)
      have q2 : s_m (zb Y k) (6 + c) = 0 := by omega
      rw [← em] at q2
      have q3 : gB1 (zb Y k (20 + (8 * i + c)) = -1) = 0 := gSum_nil (zb Y k 0).toNat (fun j hj => (gB1_bd _).1) q2 i hi
      rw [gB1_t (by omega)] at q3
      omega)).symm rfl
  · intro hy
    refine x_iload_4 K dL_isSmudged_3 ?_
    refine x_aload_0 K dL_isSmudged_5 ?_
    refine x_iload_1 K dL_isSmudged_6 ?_
    refine x_iload_2 K dL_isSmudged_7 ?_
    refine x_if_eq (tgt := 15) K (by omega) dL_isSmudged_8 (by decide) (fun h8 => ?_) (fun h8 => absurd rfl h8)
    refine x_iconst K dL_isSmudged_15 ?_
    refine x_callH3 K (p_of h hY 0 hk (by omega)) mtL_of msL_of (g_mem 606 (by decide +kernel)) ⟨by omega, by omega, by omega⟩ rfl (Nat.le_of_ble_eq_true rfl) dL_isSmudged_16 ?_
    refine gWX.top (b := zb Y k 0) rfl ?_
    refine x_icmp_ge (tgt := 56) K (by omega) dL_isSmudged_19 (by decide) (fun h19 => ?_) (fun h19 => absurd h19 (by omega))
    refine x_iconst K dL_isSmudged_56 ?_
    exact x_zret K hE rfl dL_isSmudged_57 (by decide) (by decide) (by omega) (gB1_f (fun q => by rw [← em, hy] at q; omega)).symm rfl
theorem wrong_col {E : gE} {σ : gS} (Y : Nat → Int) (h : gSh σ 0 Y) (hY : gY Y) {k c : Nat} (hk : (k : Int) < Y 0) (hc : (c : Int) < zb Y k 1) : gCt E mL_isWrong 15 1 [rf 0 0, iv (k : Int), iv 0, iv (c : Int)] σ (.inl (some (iv (gB1 (s_w (zb Y k) (6 + c) = true))))) σ := by
  refine gCt_of (L := [some (rf 0 0), some (iv (k : Int)), some (iv 0), some (iv (c : Int)), none]) (by decide +kernel) rfl rfl (Nat.le_of_ble_eq_true rfl) (fun X K hE => ?_)
  have h5 := gY_k hY hk
  have hz := hY.2 k hk
  have z0 := hz.1
  have z1 := hz.2.1
  have t0 := hz.2.2.2.2.1 (6 + c) (by omega)
  have eb2 := s_b_bd hz (b := (6 + c)) (by omega)
  have hT : (zb Y k 2 = 1 ∧ pT (zb Y k) (6 + c) = zb Y k (6 + (6 + c))) ∨ (zb Y k 2 = 0 ∧ pT (zb Y k) (6 + c) = -13) := by
    rcases hz.2.2.1 with q | q
    · exact Or.inr ⟨q, if_neg (by omega)⟩
    · exact Or.inl ⟨q, if_pos q⟩
  refine x_iload_2 K dL_isWrong_0 ?_
  refine x_if_eq (tgt := 13) K (by omega) dL_isWrong_1 (by decide) (fun h1 => ?_) (fun h1 => absurd rfl h1)
  refine x_aload_0 K dL_isWrong_13 ?_
  refine x_iload_1 K dL_isWrong_14 ?_
  refine x_iload_3 K dL_isWrong_15 ?_
  refine x_callH3 K (p_columnSum h hY hk hc) mtL_columnSum msL_columnSum (g_mem 734 (by decide +kernel)) ⟨by omega, by omega, by omega⟩ rfl (Nat.le_of_ble_eq_true rfl) dL_isWrong_16 ?_
  refine x_istore_4 K dL_isWrong_19 rfl ?_
  refine x_iload_4 K dL_isWrong_21 ?_
  refine x_if_lt (tgt := 52) K (by omega) dL_isWrong_23 (by decide) (fun h23 => ?_) (fun h23 => ?_)
  · refine x_iconst K dL_isWrong_52 ?_
    exact x_zret K hE rfl dL_isWrong_53 (by decide) (by decide) (by omega) (gB1_f (fun q => by have q2 := (s_w_iff _ _).mp q; omega)).symm rfl
  · refine x_aload_0 K dL_isWrong_26 ?_
    refine x_iload_1 K dL_isWrong_27 ?_
    refine x_iload_2 K dL_isWrong_28 ?_
    refine x_iload_3 K dL_isWrong_29 ?_
    refine x_callS4 K (smudged_col Y h hY hk hc) mtL_isSmudged msL_isSmudged lkRL_202 ⟨by decide, by decide, by decide⟩ rfl (Nat.le_of_ble_eq_true rfl) dL_isWrong_30 ?_
    have gb := gB1_bd (0 < s_m (zb Y k) (6 + c))
    have hm0 := s_m_bd (zb Y k) (6 + c)
    refine x_if_ne (tgt := 52) K (by omega) dL_isWrong_33 (by decide) (fun h33 => ?_) (fun h33 => ?_)
    · refine x_iconst K dL_isWrong_52 ?_
      exact x_zret K hE rfl dL_isWrong_53 (by decide) (by decide) (by omega) (gB1_f (fun q => by have q2 := (s_w_iff _ _).mp q; exact h33 (gB1_f (by omega)))).symm rfl
    · refine x_iload_4 K dL_isWrong_36 ?_
      refine x_aload_0 K dL_isWrong_38 ?_
      refine x_iload_1 K dL_isWrong_39 ?_
      refine x_iload_2 K dL_isWrong_40 ?_
      refine x_iload_3 K dL_isWrong_41 ?_
      refine x_callS4 K (now_col Y h hY hk hc) mtL_now msL_now lkRL_206 ⟨by decide, by decide, by decide⟩ rfl (Nat.le_of_ble_eq_true rfl) dL_isWrong_42 ?_
      refine x_icmp_eq (tgt := 52) K (by omega) dL_isWrong_45 (by decide) (fun h45 => ?_) (fun h45 => ?_)
      · refine x_iconst K dL_isWrong_52 ?_
        exact x_zret K hE rfl dL_isWrong_53 (by decide) (by decide) (by omega) (gB1_f (fun q => by have q2 := (s_w_iff _ _).mp q; omega)).symm rfl
      · refine x_iconst K dL_isWrong_48 ?_
        refine x_goto (tgt := 53) K dL_isWrong_49 (by decide) ?_
        exact x_zret K hE rfl dL_isWrong_53 (by decide) (by decide) (by omega) (gB1_t ((s_w_iff _ _).mpr ⟨by omega, Classical.byContradiction (fun q => by rw [gB1_t (by omega)] at h33; omega), by omega⟩)).symm rfl
