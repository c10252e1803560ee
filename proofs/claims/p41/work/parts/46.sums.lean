/-! ===== sums, faults, doubts, mending foretold ===== -/
/-- the law's counts, in a cell of its own -/
def pCt (σ : gS) (f : Nat → Int) : gS := (fun k i j => if k = 30 ∧ i = 0 then f j else σ.1 k i j, σ.2)
theorem pCt_at (σ : gS) (f : Nat → Int) (j : Nat) : (pCt σ f).1 30 0 j = f j := by
  show (if (30 : Nat) = 30 ∧ (0 : Nat) = 0 then f j else σ.1 30 0 j) = f j
  exact if_pos ⟨rfl, rfl⟩
theorem pCt_lo (σ : gS) (f : Nat → Int) : gLow σ (pCt σ f) := ⟨fun a b c h => if_neg (by omega), rfl⟩
theorem pCt_eqv (σ : gS) (f : Nat → Int) : gEqv (pCt σ f) σ := ⟨fun a h b c => (if_neg (by omega)).symm, rfl⟩
theorem pCt_u (σ : gS) (f : Nat → Int) (j : Nat) (v : Int) : gU (pCt σ f) 30 0 j v = pCt σ (fun a => if a = j then v else f a) := gS_ext (fun a b c => by
  show (if a = 30 ∧ b = 0 ∧ c = j then v else if a = 30 ∧ b = 0 then f c else σ.1 a b c) = if a = 30 ∧ b = 0 then (if c = j then v else f c) else σ.1 a b c
  by_cases q : a = 30 ∧ b = 0
  · rw [if_pos q, if_pos q]
    by_cases p : c = j
    · rw [if_pos p, if_pos ⟨q.1, q.2, p⟩]
    · rw [if_neg p, if_neg (fun y => p y.2.2)]
  · rw [if_neg q, if_neg q, if_neg (fun y => q ⟨y.1, y.2.1⟩)]) rfl
theorem pCt_cg (σ : gS) {f g : Nat → Int} (h : ∀ a, f a = g a) : pCt σ f = pCt σ g := by rw [show f = g from funext h]
theorem gEqv_put {σ σ' : gS} (h : gEqv σ σ') (i : Nat) (z : Nat → Int) : gEqv (gPut σ i z) (gPut σ' i z) := ⟨fun a ha b c => by
  have e := h.1 a ha b c
  unfold gPut
  dsimp only
  rw [e], h.2⟩
theorem s_wr_in {z : Nat → Int} (hz : gZ z) : gSum (fun r => gB1 (s_w z r = true)) (z 0).toNat = s_wr z := by
  have h0 := hz.1
  unfold s_wr
  rw [show 6 = (z 0).toNat + (6 - (z 0).toNat) by omega]
  exact (gSum_more _ (fun r h2 h3 => gB1_f (by
    rw [s_w_off hz (b := r) (by omega) (Or.inl ⟨by omega, by omega⟩)]
    decide))).symm
theorem s_wc_in {z : Nat → Int} (hz : gZ z) : gSum (fun c => gB1 (s_w z (6 + c) = true)) (z 1).toNat = s_wc z := by
  have h1 := hz.2.1
  unfold s_wc
  rw [show 8 = (z 1).toNat + (8 - (z 1).toNat) by omega]
  exact (gSum_more _ (fun c h2 h3 => gB1_f (by
    rw [s_w_off hz (b := 6 + c) (by omega) (Or.inr ⟨by omega, by omega⟩)]
    decide))).symm
theorem s_ho_bd {z : Nat → Int} (hz : gZ z) (a : Int) : 0 ≤ s_ho z a ∧ s_ho z a ≤ 48 := by
  have h0 := hz.1
  have h1 := hz.2.1
  have h := gSum_bd (f := fun r => gSum (fun c => gB1 (z (20 + (8 * r + c)) = a)) (z 1).toNat) (c := 8) (z 0).toNat (fun r _ => by
    have := gSum_le (f := fun c => gB1 (z (20 + (8 * r + c)) = a)) (c := 1) (fun k => gB1_bd _) (z 1).toNat
    (try dsimp only)
    omega)
  unfold s_ho
  omega
/-- what mending would touch -/
def pD (z : Nat → Int) : Int := if z 2 = 1 ∧ s_sm z = 0 ∧ s_mb z then 10 * (s_r1 z : Int) + (s_c1 z : Int) else -13
def pDv (z : Nat → Int) (p : Prop) [Decidable p] : Int := if p ∧ s_f z (s_r1 z) = s_f z (6 + s_c1 z) then 10 * (s_r1 z : Int) + (s_c1 z : Int) else -13
theorem pWm_D {z : Nat → Int} (hz : gZ z) (k : Nat) : pWm z k = pD z := by
  unfold pWm pD
  by_cases q : s_om z k = 0
  · rw [if_pos q, if_pos (s_om_0 hz (by omega) q)]
  · rw [if_neg q, if_neg ?_]
    rintro ⟨a1, a2, a3, a4, a5⟩
    refine q ?_
    unfold s_om
    rw [if_neg (by omega), if_neg (by omega), if_neg (by omega), if_neg (by omega), if_pos a5]
theorem s_one_row {z : Nat → Int} (h : s_wr z = 1) {r : Nat} (hr : r < 6) : s_w z r = true ↔ r = s_r1 z := by
  obtain ⟨-, h2, h3⟩ := s_fw_row (z := z) (by omega)
  refine ⟨fun q => Classical.byContradiction (fun p => ?_), fun q => q ▸ h3⟩
  have := gB1s_two (p := s_w z) (a := r) (b := s_r1 z) (n := 6) p hr h2 q h3
  unfold s_wr at h
  omega
theorem s_one_col {z : Nat → Int} (h : s_wc z = 1) {c : Nat} (hc : c < 8) : s_w z (6 + c) = true ↔ c = s_c1 z := by
  obtain ⟨-, h2, h3⟩ := s_fw_col (z := z) (by omega)
  refine ⟨fun q => Classical.byContradiction (fun p => ?_), fun q => q ▸ h3⟩
  have := gB1s_two (p := fun b => s_w z (6 + b)) (a := c) (b := s_c1 z) (n := 8) p hc h2 q h3
  unfold s_wc at h
  omega
theorem pF_f {z : Nat → Int} (h : z 2 = 1) (b : Nat) : pF z b = s_f z b := if_pos h
theorem pDv_iff (z : Nat → Int) {p q : Prop} [Decidable p] [Decidable q] (h : p ↔ q) : pDv z p = pDv z q := by
  unfold pDv
  by_cases hp : p ∧ s_f z (s_r1 z) = s_f z (6 + s_c1 z)
  · rw [if_pos hp, if_pos ⟨h.mp hp.1, hp.2⟩]
  · rw [if_neg hp, if_neg (fun y => hp ⟨h.mpr y.1, y.2⟩)]
theorem pDv_end {z : Nat → Int} (hz : gZ z) (h2 : z 2 = 1) (h3 : s_sm z = 0) (h4 : s_wr z = 1) (h5 : s_wc z = 1) : pDv z (s_r1 z < (z 0).toNat) = pD z := by
  obtain ⟨-, r6, rW⟩ := s_fw_row (z := z) (by omega)
  have rlt := s_w_row hz r6 rW
  unfold pDv pD
  by_cases q : s_f z (s_r1 z) = s_f z (6 + s_c1 z)
  · rw [if_pos ⟨by omega, q⟩, if_pos ⟨h2, h3, h4, h5, q⟩]
  · rw [if_neg (fun y => q y.2), if_neg (fun y => q y.2.2.2.2)]
set_option maxHeartbeats 1000000 in
theorem c_sums {E : gE} {σ : gS} (Y : Nat → Int) {pm : Nat} {P : Nat → Nat → Int} (hX : gX E = []) (hI : gJv σ Y pm P) {k : Nat} (hk : (k : Int) < Y 0) : gCtR E mL_sums 17 420 [rf 0 0, iv (k : Int)] σ (fun rv σ' => rv = some (iv 1) ∧ (σ' = σ ∨ σ' = gPut σ 55 (zb Y k))) := by
  refine gCtR_of (L := [some (rf 0 0), some (iv (k : Int)), none, none, none, none, none, none, none, none, none, none, none, none, none, none]) (by decide +kernel) rfl rfl (Nat.le_of_ble_eq_true rfl) (fun X K hE => ?_)
  have hI0 := hI
  obtain ⟨h, hY, -, -, -⟩ := gJv_s hI
  have h5 := gY_k hY hk
  have hz := hY.2 k hk
  have z0 := hz.1
  have z1 := hz.2.1
  have z2 := hz.2.2.1
  have hS : ∀ f : Nat → Int, gSh (pCt σ f) 0 Y := fun f => (gJv_s (gJv_lo (pCt_lo σ f) hI0)).1
  have K0 := K
  have sT0 : zb Y k 2 = 0 → ∀ b, pT (zb Y k) b = -13 := fun q b => if_neg (by omega)
  have sT1 : zb Y k 2 = 1 → ∀ b, pT (zb Y k) b = zb Y k (6 + b) := fun q b => if_pos q
  have sF0 : zb Y k 2 = 0 → ∀ b, pF (zb Y k) b = -13 := fun q b => if_neg (by omega)
  have sF1 : zb Y k 2 = 1 → ∀ b, pF (zb Y k) b = s_f (zb Y k) b := fun q b => if_pos q
  have bW := s_wr_bd (zb Y k)
  have bWc := s_wc_bd (zb Y k)
  have bM := s_sm_bd hz
  have bDb := s_db_bd hz
  have bCl := s_cl_bd hz
  have bAl := s_al_bd hz
  have eDP := s_db_dp hz
  refine x_aload_0 K dL_sums_0 ?_
  refine x_iload_1 K dL_sums_1 ?_
  refine x_iconst K dL_sums_2 ?_
  refine x_callH3 K (p_of h hY 2 hk (by omega)) mtL_of msL_of (g_mem 606 (by decide +kernel)) ⟨by omega, by omega, by omega⟩ rfl (Nat.le_of_ble_eq_true rfl) dL_sums_3 ?_
  refine gWX.top (b := zb Y k 2) rfl ?_
  refine x_iconst K dL_sums_6 ?_
  refine gTernN (fun kt kf => x_icmp_ne (tgt := 14) K (by omega) dL_sums_7 (by decide) kt kf) (fun k => x_iconst K dL_sums_14 k) (fun k => x_iconst K dL_sums_10 (x_goto K dL_sums_11 (by decide) k)) ?_
  refine gWX.top (b := zb Y k 2) (by split <;> omega) ?_
  refine x_istore_2 K dL_sums_15 rfl ?_
  refine x_iconst K dL_sums_16 ?_
  refine x_istore_3 K dL_sums_17 rfl ?_
  refine x_iconst K dL_sums_18 ?_
  refine x_istore_4 K dL_sums_19 rfl ?_
  refine x_iconst K dL_sums_21 ?_
  refine x_istore_5 K dL_sums_22 rfl ?_
  refine x_iconst K dL_sums_24 ?_
  refine x_istore_6 K dL_sums_25 rfl ?_
  refine x_iconst K dL_sums_27 ?_
  refine x_istore_7 K dL_sums_28 rfl ?_
  refine x_bipush K dL_sums_30 rfl ?_
  refine x_newI (i := 0) (N := 10) K (by omega) (by rw [hX]; exact fun y hy => absurd hy List.not_mem_nil) (g_mem 215 (by decide +kernel)) (by omega) (by omega) dL_sums_32 (fun qa E2 hm hx0 K => ?_)
  have hxx : (gX E2)[0]? = some (qa, 30, 0, 10) := by rw [hx0, hX]; rfl
  refine gWX.le (c' := 2) (s' := 12) (by omega) (by omega) ?_
  refine gWX.eq (σ' := pCt σ (fun _ => 0)) rfl ?_
  refine x_astorec_8 K dL_sums_34 rfl ?_
  refine x_iconst K dL_sums_36 ?_
  refine x_istore_9 K dL_sums_37 rfl ?_
  refine gLp (P := fun r : Nat => gWX X E2 (2 + 24 * r) (6 * (2 + 24 * r)) 39 [some (rf 0 0), some (iv (k : Int)), some (iv (zb Y k 2)), some (iv (gSum (fun b => gB1 (s_w (zb Y k) b = true)) r)), some (iv 0), some (iv (gSum (s_m (zb Y k)) r)), some (iv (gSum (fun r => gSum (fun c => gB1 (s_df (zb Y k) r c = true)) (zb Y k 1).toNat) r)), some (iv (gSum (s_b (zb Y k)) r)), some (.inl (.ref qa)), some (iv (r : Int)), none, none, none, none, none, none] [] (pCt σ (fun a : Nat => gSum (fun r => gSum (fun c => gB1 (zb Y k (20 + (8 * r + c)) = (a : Int))) (zb Y k 1).toNat) r))) ((zb Y k 0).toNat) (fun k0 => ?_) (fun r hr ih => ?_) ?_
  · exact gWX.to rfl (pCt_cg σ (fun a => rfl)) (k0)
  · have hr : (r : Int) < zb Y k 0 := by omega
    have br := s_b_bd hz (b := r) (by omega)
    have bf := s_f_bd hz (b := r) (by omega)
    have mr := s_m_bd (zb Y k) r
    have t0 := hz.2.2.2.2.1 r (by omega)
    have bF : -13 ≤ pF (zb Y k) r ∧ pF (zb Y k) r ≤ 9 := by
      rcases z2 with q | q
      · rw [sF0 q]; omega
      · rw [sF1 q]; omega
    have b9 := gB1_bd (s_w (zb Y k) r = true)
    have em : gSum (fun c => gB1 (zb Y k (20 + (8 * r + c)) = -1)) (zb Y k 1).toNat = s_m (zb Y k) r := by
      rw [gSum_min hz (by omega)]
      unfold s_m
      rw [if_pos (by omega)]
    have eb : gSum (fun c => max 0 (zb Y k (20 + (8 * r + c)))) (zb Y k 1).toNat = s_b (zb Y k) r := by
      rw [gSum_max hz (by omega)]
      unfold s_b
      rw [if_pos (by omega)]
    refine x_iload_9 K dL_sums_39 ?_
    refine x_aload_0 K dL_sums_41 ?_
    refine x_iload_1 K dL_sums_42 ?_
    refine x_iconst K dL_sums_43 ?_
    refine x_callH3 K (p_of (hS _) hY 0 hk (by omega)) mtL_of msL_of (g_mem 606 (by decide +kernel)) ⟨by omega, by omega, by omega⟩ rfl (Nat.le_of_ble_eq_true rfl) dL_sums_44 ?_
    refine gWX.top (b := zb Y k 0) rfl ?_
    refine x_icmp_ge (tgt := 285) K (by omega) dL_sums_47 (by decide) (fun h47 => absurd h47 (by omega)) (fun h47 => ?_)
    refine gJn (P := gWX X E2 (2 + 24 * r + 1) (6 * (2 + 24 * r + 1)) 81 [some (rf 0 0), some (iv (k : Int)), some (iv (zb Y k 2)), some (iv (gSum (fun b => gB1 (s_w (zb Y k) b = true)) r)), some (iv 0), some (iv (gSum (s_m (zb Y k)) r)), some (iv (gSum (fun r => gSum (fun c => gB1 (s_df (zb Y k) r c = true)) (zb Y k 1).toNat) r)), some (iv (gSum (s_b (zb Y k)) r)), some (.inl (.ref qa)), some (iv (r : Int)), none, none, none, none, none, none] [iv (pF (zb Y k) r)] (pCt σ (fun a : Nat => gSum (fun r => gSum (fun c => gB1 (zb Y k (20 + (8 * r + c)) = (a : Int))) (zb Y k 1).toNat) r))) (fun kJ => ?_) ?_
    · refine x_iload_2 K dL_sums_50 ?_
      refine x_if_eq (tgt := 79) K (by omega) dL_sums_51 (by decide) (fun h51 => ?_) (fun h51 => ?_)
      · refine x_bipush K dL_sums_79 rfl ?_
        refine gWX.top (b := pF (zb Y k) r) (sF0 h51 r).symm ?_
        exact gWX.le (by omega) (by omega) (gWX.to rfl rfl kJ)
      · refine x_aload_0 K dL_sums_54 ?_
        refine x_iload_1 K dL_sums_55 ?_
        refine x_iload_9 K dL_sums_56 ?_
        refine x_callH3 K (p_rowSum (hS _) hY hk hr) mtL_rowSum msL_rowSum (g_mem 693 (by decide +kernel)) ⟨by omega, by omega, by omega⟩ rfl (Nat.le_of_ble_eq_true rfl) dL_sums_58 ?_
        refine gWX.top (b := zb Y k (6 + r)) (sT1 (by omega) r) ?_
        refine x_bipush K dL_sums_61 rfl ?_
        refine x_iadd K dL_sums_63 ?_
        refine x_aload_0 K dL_sums_64 ?_
        refine x_iload_1 K dL_sums_65 ?_
        refine x_iconst K dL_sums_66 ?_
        refine x_iload_9 K dL_sums_67 ?_
        refine x_callS4 K (now_row Y (hS _) hY hk hr) mtL_now msL_now lkRL_206 ⟨by omega, by omega, by omega⟩ rfl (Nat.le_of_ble_eq_true rfl) dL_sums_69 ?_
        refine x_isub K dL_sums_72 ?_
        refine x_bipush K dL_sums_73 rfl ?_
        refine x_irem K (by omega) dL_sums_75 ?_
        refine gWX.top (b := pF (zb Y k) r) (by rw [sF1 (by omega)]; unfold s_f; congr 1; omega) ?_
        refine x_goto (tgt := 81) K dL_sums_76 (by decide) ?_
        exact gWX.le (by omega) (by omega) (gWX.to rfl rfl kJ)
    · refine x_istore_10 K dL_sums_81 rfl ?_
      refine x_iload_3 K dL_sums_83 ?_
      refine x_aload_0 K dL_sums_84 ?_
      refine x_iload_1 K dL_sums_85 ?_
      refine x_iconst K dL_sums_86 ?_
      refine x_iload_9 K dL_sums_87 ?_
      refine x_callS4 K (wrong_row Y (hS _) hY hk hr) mtL_isWrong msL_isWrong lkRL_210 ⟨by omega, by omega, by omega⟩ rfl (Nat.le_of_ble_eq_true rfl) dL_sums_89 ?_
      refine gTern (fun kt kf => x_if_eq (tgt := 99) K (by omega) dL_sums_92 (by decide) kt kf) (fun k => x_iconst K dL_sums_99 k) (fun k => x_iconst K dL_sums_95 (x_goto K dL_sums_96 (by decide) k)) ?_
      refine gWX.top (b := gB1 (s_w (zb Y k) r = true)) (by split <;> omega) ?_
      refine x_iadd K dL_sums_100 ?_
      refine x_istore_3 K dL_sums_101 rfl ?_
      refine x_aload_0 K dL_sums_102 ?_
      refine x_iload_1 K dL_sums_103 ?_
      refine x_iload_9 K dL_sums_104 ?_
      refine x_callH3 K (p_rowFault (hS _) hY hk hr) mtL_rowFault msL_rowFault (g_mem 750 (by decide +kernel)) ⟨by omega, by omega, by omega⟩ rfl (Nat.le_of_ble_eq_true rfl) dL_sums_106 ?_
      refine x_iload_10 K dL_sums_109 ?_
      refine x_icmp_ne (tgt := 130) K (by omega) dL_sums_111 (by decide) (fun h111 => absurd rfl h111) (fun h111 => ?_)
      refine gJn (P := gWX X E2 (2 + 24 * r + 4) (6 * (2 + 24 * r + 4)) 132 [some (rf 0 0), some (iv (k : Int)), some (iv (zb Y k 2)), some (iv (gSum (fun b => gB1 (s_w (zb Y k) b = true)) (r + 1))), some (iv 0), some (iv (gSum (s_m (zb Y k)) r)), some (iv (gSum (fun r => gSum (fun c => gB1 (s_df (zb Y k) r c = true)) (zb Y k 1).toNat) r)), some (iv (gSum (s_b (zb Y k)) r)), some (.inl (.ref qa)), some (iv (r : Int)), some (iv (pF (zb Y k) r)), none, none, none, none, none] [] (pCt σ (fun a : Nat => gSum (fun r => gSum (fun c => gB1 (zb Y k (20 + (8 * r + c)) = (a : Int))) (zb Y k 1).toNat) r))) (fun kJ => ?_) ?_
      · refine x_iload_2 K dL_sums_114 ?_
        refine x_if_ne (tgt := 132) K (by omega) dL_sums_115 (by decide) (fun h115 => ?_) (fun h115 => ?_)
        · exact gWX.le (by omega) (by omega) (gWX.to rfl rfl kJ)
        · refine x_aload_0 K dL_sums_118 ?_
          refine x_iload_1 K dL_sums_119 ?_
          refine x_iload_9 K dL_sums_120 ?_
          refine x_callH3 K (p_rowSum (hS _) hY hk hr) mtL_rowSum msL_rowSum (g_mem 693 (by decide +kernel)) ⟨by omega, by omega, by omega⟩ rfl (Nat.le_of_ble_eq_true rfl) dL_sums_122 ?_
          refine gWX.top (b := -13) (sT0 (by omega) r) ?_
          refine x_bipush K dL_sums_125 rfl ?_
          refine x_icmp_eq (tgt := 132) K (by omega) dL_sums_127 (by decide) (fun h127 => ?_) (fun h127 => absurd rfl h127)
          exact gWX.le (by omega) (by omega) (gWX.to rfl rfl kJ)
      · refine x_iconst K dL_sums_132 ?_
        refine x_istore_11 K dL_sums_133 rfl ?_
        refine gLp (P := fun c : Nat => gWX X E2 (2 + 24 * r + 4 + 2 * c) (6 * (2 + 24 * r + 4 + 2 * c)) 135 [some (rf 0 0), some (iv (k : Int)), some (iv (zb Y k 2)), some (iv (gSum (fun b => gB1 (s_w (zb Y k) b = true)) (r + 1))), some (iv 0), some (iv (gSum (s_m (zb Y k)) r + gSum (fun c => gB1 (zb Y k (20 + (8 * r + c)) = -1)) c)), some (iv (gSum (fun r => gSum (fun c => gB1 (s_df (zb Y k) r c = true)) (zb Y k 1).toNat) r + gSum (fun c => gB1 (s_df (zb Y k) r c = true)) c)), some (iv (gSum (s_b (zb Y k)) r + gSum (fun c => max 0 (zb Y k (20 + (8 * r + c)))) c)), some (.inl (.ref qa)), some (iv (r : Int)), some (iv (pF (zb Y k) r)), some (iv (c : Int)), none, none, none, none] [] (pCt σ (fun a : Nat => gSum (fun r => gSum (fun c => gB1 (zb Y k (20 + (8 * r + c)) = (a : Int))) (zb Y k 1).toNat) r + gSum (fun c => gB1 (zb Y k (20 + (8 * r + c)) = (a : Int))) c))) ((zb Y k 1).toNat) (fun k0 => ?_) (fun c hc ih => ?_) ?_
        · refine gWX.le (c' := 2 + 24 * r + 4 + 2 * 0) (s' := 6 * (2 + 24 * r + 4 + 2 * 0)) (by omega) (by omega) ?_
          exact gWX.to (by simp only [gSum, Int.add_zero]; rfl) (pCt_cg σ (fun a => by simp only [gSum, Int.add_zero])) (k0)
        · have hc : (c : Int) < zb Y k 1 := by omega
          have sg := hz.2.2.2.2.2.1 (8 * r + c) (by omega)
          have d9 := gB1_bd (s_df (zb Y k) r c = true)
          refine x_iload_11 K dL_sums_135 ?_
          refine x_aload_0 K dL_sums_137 ?_
          refine x_iload_1 K dL_sums_138 ?_
          refine x_iconst K dL_sums_139 ?_
          refine x_callH3 K (p_of (hS _) hY 1 hk (by omega)) mtL_of msL_of (g_mem 606 (by decide +kernel)) ⟨by omega, by omega, by omega⟩ rfl (Nat.le_of_ble_eq_true rfl) dL_sums_140 ?_
          refine gWX.top (b := zb Y k 1) rfl ?_
          refine x_icmp_ge (tgt := 279) K (by omega) dL_sums_143 (by decide) (fun h143 => absurd h143 (by omega)) (fun h143 => ?_)
          refine x_aload_0 K dL_sums_146 ?_
          refine x_iload_1 K dL_sums_147 ?_
          refine x_iload_9 K dL_sums_148 ?_
          refine x_iload_11 K dL_sums_150 ?_
          refine x_callH4 K (p_sign (hS _) hY hk hr hc) mtL_sign msL_sign (g_mem 717 (by decide +kernel)) ⟨by omega, by omega, by omega⟩ rfl (Nat.le_of_ble_eq_true rfl) dL_sums_152 ?_
          refine x_istore_12 K dL_sums_155 rfl ?_
          refine gJn (P := gWX X E2 (2 + 24 * r + 4 + 2 * c + 2) (6 * (2 + 24 * r + 4 + 2 * c + 2)) 189 [some (rf 0 0), some (iv (k : Int)), some (iv (zb Y k 2)), some (iv (gSum (fun b => gB1 (s_w (zb Y k) b = true)) (r + 1))), some (iv 0), some (iv (gSum (s_m (zb Y k)) r + gSum (fun c => gB1 (zb Y k (20 + (8 * r + c)) = -1)) c)), some (iv (gSum (fun r => gSum (fun c => gB1 (s_df (zb Y k) r c = true)) (zb Y k 1).toNat) r + gSum (fun c => gB1 (s_df (zb Y k) r c = true)) c)), some (iv (gSum (s_b (zb Y k)) r + gSum (fun c => max 0 (zb Y k (20 + (8 * r + c)))) c)), some (.inl (.ref qa)), some (iv (r : Int)), some (iv (pF (zb Y k) r)), some (iv (c : Int)), some (iv (zb Y k (20 + (8 * r + c)))), none, none, none] [iv (gB1 (s_df (zb Y k) r c = true))] (pCt σ (fun a : Nat => gSum (fun r => gSum (fun c => gB1 (zb Y k (20 + (8 * r + c)) = (a : Int))) (zb Y k 1).toNat) r + gSum (fun c => gB1 (zb Y k (20 + (8 * r + c)) = (a : Int))) c))) (fun kJ => ?_) ?_
          · refine x_iload_12 K dL_sums_157 ?_
            refine x_if_lt (tgt := 184) K (by omega) dL_sums_159 (by decide) (fun h159 => ?_) (fun h159 => ?_)
            · refine x_iconst K dL_sums_184 ?_
              refine gWX.top (b := gB1 (s_df (zb Y k) r c = true)) (gB1_t (by unfold s_df; rw [decide_eq_true (by omega)]; rfl)).symm ?_
              refine x_goto (tgt := 189) K dL_sums_185 (by decide) ?_
              exact gWX.le (by omega) (by omega) (gWX.to rfl rfl kJ)
            · refine x_aload_0 K dL_sums_162 ?_
              refine x_iload_1 K dL_sums_163 ?_
              refine x_iconst K dL_sums_164 ?_
              refine x_iload_9 K dL_sums_165 ?_
              refine x_callS4 K (wrong_row Y (hS _) hY hk hr) mtL_isWrong msL_isWrong lkRL_210 ⟨by omega, by omega, by omega⟩ rfl (Nat.le_of_ble_eq_true rfl) dL_sums_167 ?_
              refine x_if_eq (tgt := 188) K (by omega) dL_sums_170 (by decide) (fun h170 => ?_) (fun h170 => ?_)
              · refine x_iconst K dL_sums_188 ?_
                refine gWX.top (b := gB1 (s_df (zb Y k) r c = true)) (gB1_f (by unfold s_df; rw [decide_eq_false (by omega), show s_w (zb Y k) r = false from by cases hq : s_w (zb Y k) r; rfl; rw [gB1_t hq] at h170; omega]; simp)).symm ?_
                exact gWX.le (by omega) (by omega) (gWX.to rfl rfl kJ)
              · refine x_aload_0 K dL_sums_173 ?_
                refine x_iload_1 K dL_sums_174 ?_
                refine x_iconst K dL_sums_175 ?_
                refine x_iload_11 K dL_sums_176 ?_
                refine x_callS4 K (wrong_col Y (hS _) hY hk hc) mtL_isWrong msL_isWrong lkRL_210 ⟨by omega, by omega, by omega⟩ rfl (Nat.le_of_ble_eq_true rfl) dL_sums_178 ?_
                have c9 := gB1_bd (s_w (zb Y k) (6 + c) = true)
                refine x_if_eq (tgt := 188) K (by omega) dL_sums_181 (by decide) (fun h181 => ?_) (fun h181 => ?_)
                · refine x_iconst K dL_sums_188 ?_
                  refine gWX.top (b := gB1 (s_df (zb Y k) r c = true)) (gB1_f (by unfold s_df; rw [decide_eq_false (by omega), show s_w (zb Y k) (6 + c) = false from by cases hq : s_w (zb Y k) (6 + c); rfl; rw [gB1_t hq] at h181; omega]; simp)).symm ?_
                  exact gWX.le (by omega) (by omega) (gWX.to rfl rfl kJ)
                · refine x_iconst K dL_sums_184 ?_
                  refine gWX.top (b := gB1 (s_df (zb Y k) r c = true)) (gB1_t (by unfold s_df; rw [show s_w (zb Y k) r = true from by cases hq : s_w (zb Y k) r; (rw [gB1_f (by rw [hq]; decide)] at h170; omega); rfl, show s_w (zb Y k) (6 + c) = true from by cases hq : s_w (zb Y k) (6 + c); (rw [gB1_f (by rw [hq]; decide)] at h181; omega); rfl]; simp)).symm ?_
                  refine x_goto (tgt := 189) K dL_sums_185 (by decide) ?_
                  exact gWX.le (by omega) (by omega) (gWX.to rfl rfl kJ)
          · refine x_istore_13 K dL_sums_189 rfl ?_
            refine x_iload_5 K dL_sums_191 ?_
            refine x_iload_12 K dL_sums_193 ?_
            refine gTern (fun kt kf => x_if_ge (tgt := 202) K (by omega) dL_sums_195 (by decide) kt kf) (fun k => x_iconst K dL_sums_202 k) (fun k => x_iconst K dL_sums_198 (x_goto K dL_sums_199 (by decide) k)) ?_
            refine gWX.top (b := gB1 (zb Y k (20 + (8 * r + c)) = -1)) (by unfold gB1; split <;> split <;> omega) ?_
            refine x_iadd K dL_sums_203 ?_
            refine x_istore_5 K dL_sums_204 rfl ?_
            refine x_iload_6 K dL_sums_206 ?_
            refine x_iload_13 K dL_sums_208 ?_
            refine gTern (fun kt kf => x_if_eq (tgt := 217) K (by omega) dL_sums_210 (by decide) kt kf) (fun k => x_iconst K dL_sums_217 k) (fun k => x_iconst K dL_sums_213 (x_goto K dL_sums_214 (by decide) k)) ?_
            refine gWX.top (b := gB1 (s_df (zb Y k) r c = true)) (by split <;> omega) ?_
            refine x_iadd K dL_sums_218 ?_
            refine x_istore_6 K dL_sums_219 rfl ?_
            refine gJn (P := gWX X E2 (2 + 24 * r + 4 + 2 * c + 2) (6 * (2 + 24 * r + 4 + 2 * c + 2)) 242 [some (rf 0 0), some (iv (k : Int)), some (iv (zb Y k 2)), some (iv (gSum (fun b => gB1 (s_w (zb Y k) b = true)) (r + 1))), some (iv 0), some (iv (gSum (s_m (zb Y k)) r + gSum (fun c => gB1 (zb Y k (20 + (8 * r + c)) = -1)) (c + 1))), some (iv (gSum (fun r => gSum (fun c => gB1 (s_df (zb Y k) r c = true)) (zb Y k 1).toNat) r + gSum (fun c => gB1 (s_df (zb Y k) r c = true)) (c + 1))), some (iv (gSum (s_b (zb Y k)) r + gSum (fun c => max 0 (zb Y k (20 + (8 * r + c)))) (c + 1))), some (.inl (.ref qa)), some (iv (r : Int)), some (iv (pF (zb Y k) r)), some (iv (c : Int)), some (iv (zb Y k (20 + (8 * r + c)))), some (iv (gB1 (s_df (zb Y k) r c = true))), none, none] [] (pCt σ (fun a : Nat => gSum (fun r => gSum (fun c => gB1 (zb Y k (20 + (8 * r + c)) = (a : Int))) (zb Y k 1).toNat) r + gSum (fun c => gB1 (zb Y k (20 + (8 * r + c)) = (a : Int))) (c + 1)))) (fun kJ => ?_) ?_
            · refine x_iload_12 K dL_sums_221 ?_
              refine x_if_lt (tgt := 242) K (by omega) dL_sums_223 (by decide) (fun h223 => ?_) (fun h223 => ?_)
              · exact gWX.le (by omega) (by omega) (gWX.to (gCons rfl (gCons rfl (gCons rfl (gCons rfl (gCons rfl (gCons (gIv (by show _ = gSum (s_m (zb Y k)) r + (gSum _ c + gB1 _); omega)) (gCons (gIv (by show _ = gSum (fun r => gSum (fun c => gB1 (s_df (zb Y k) r c = true)) (zb Y k 1).toNat) r + (gSum _ c + gB1 _); omega)) (gCons (gIv (by show _ = gSum (s_b (zb Y k)) r + (gSum _ c + max 0 _); omega)) rfl)))))))) (pCt_cg σ (fun a => by show _ = _ + (gSum _ c + gB1 _); rw [gB1_f (by omega)]; omega)) kJ)
              · refine x_aloadc_8 K dL_sums_226 ?_
                refine x_iload_12 K dL_sums_228 ?_
                refine x_dup2 K dL_sums_230 rfl rfl ?_
                refine x_ialdX K hxx (zb Y k (20 + (8 * r + c))).toNat (by omega) (by omega) (by omega) dL_sums_231 ?_
                refine gWX.top (b := (fun a : Nat => gSum (fun r => gSum (fun c => gB1 (zb Y k (20 + (8 * r + c)) = (a : Int))) (zb Y k 1).toNat) r + gSum (fun c => gB1 (zb Y k (20 + (8 * r + c)) = (a : Int))) c) ((zb Y k (20 + (8 * r + c))).toNat)) (pCt_at σ _ _) ?_
                refine x_iconst K dL_sums_232 ?_
                refine x_iadd K dL_sums_233 ?_
                refine x_iastX K hxx (zb Y k (20 + (8 * r + c))).toNat (by omega) (by omega) (by omega) dL_sums_234 ?_
                refine x_iload_7 K dL_sums_235 ?_
                refine x_iload_12 K dL_sums_237 ?_
                refine x_iadd K dL_sums_239 ?_
                refine x_istore_7 K dL_sums_240 rfl ?_
                exact gWX.le (by omega) (by omega) (gWX.to (gCons rfl (gCons rfl (gCons rfl (gCons rfl (gCons rfl (gCons (gIv (by show _ = gSum (s_m (zb Y k)) r + (gSum _ c + gB1 _); omega)) (gCons (gIv (by show _ = gSum (fun r => gSum (fun c => gB1 (s_df (zb Y k) r c = true)) (zb Y k 1).toNat) r + (gSum _ c + gB1 _); omega)) (gCons (gIv (by show _ = gSum (s_b (zb Y k)) r + (gSum _ c + max 0 _); omega)) rfl)))))))) ((pCt_u σ _ _ _).trans (pCt_cg σ (fun a => by
                  show (if a = (zb Y k (20 + (8 * r + c))).toNat then _ else _) = _ + (gSum _ c + gB1 _)
                  by_cases q : a = (zb Y k (20 + (8 * r + c))).toNat
                  · rw [if_pos q, gB1_t (by omega), ← q]; dsimp only; omega
                  · rw [if_neg q, gB1_f (by omega)]; omega))) kJ)
            · refine x_aload_0 K dL_sums_242 ?_
              refine x_iload_1 K dL_sums_243 ?_
              refine x_iload_9 K dL_sums_244 ?_
              refine x_iload_11 K dL_sums_246 ?_
              refine x_callH4 K (p_doubt (hS _) hY hk hr hc) mtL_doubt msL_doubt (g_mem 758 (by decide +kernel)) ⟨by omega, by omega, by omega⟩ rfl (Nat.le_of_ble_eq_true rfl) dL_sums_248 ?_
              refine x_iload_13 K dL_sums_251 ?_
              refine gTern (fun kt kf => x_if_eq (tgt := 260) K (by omega) dL_sums_253 (by decide) kt kf) (fun k => x_iconst K dL_sums_260 k) (fun k => x_iconst K dL_sums_256 (x_goto K dL_sums_257 (by decide) k)) ?_
              refine gWX.top (b := gB1 (s_df (zb Y k) r c = true)) (by split <;> omega) ?_
              refine x_icmp_ne (tgt := 271) K (by omega) dL_sums_261 (by decide) (fun h261 => absurd rfl h261) (fun h261 => ?_)
              refine x_iload_12 K dL_sums_264 ?_
              refine x_bipush K dL_sums_266 rfl ?_
              refine x_icmp_le (tgt := 273) K (by omega) dL_sums_268 (by decide) (fun h268 => ?_) (fun h268 => absurd sg.2 h268)
              refine x_iinc_11 K dL_sums_273 rfl ?_
              refine x_goto (tgt := 135) K dL_sums_276 (by decide) ?_
              exact gWX.fgt 12 (gWX.fgt 13 (gWX.le (by omega) (by omega) (gWX.to rfl rfl ih)))
        · refine x_iload_11 K dL_sums_135 ?_
          refine x_aload_0 K dL_sums_137 ?_
          refine x_iload_1 K dL_sums_138 ?_
          refine x_iconst K dL_sums_139 ?_
          refine x_callH3 K (p_of (hS _) hY 1 hk (by omega)) mtL_of msL_of (g_mem 606 (by decide +kernel)) ⟨by omega, by omega, by omega⟩ rfl (Nat.le_of_ble_eq_true rfl) dL_sums_140 ?_
          refine gWX.top (b := zb Y k 1) rfl ?_
          refine x_icmp_ge (tgt := 279) K (by omega) dL_sums_143 (by decide) (fun h143 => ?_) (fun h143 => absurd h143 (by omega))
          refine gWX.to (L' := [some (rf 0 0), some (iv (k : Int)), some (iv (zb Y k 2)), some (iv (gSum (fun b => gB1 (s_w (zb Y k) b = true)) (r + 1))), some (iv 0), some (iv (gSum (s_m (zb Y k)) (r + 1))), some (iv (gSum (fun r => gSum (fun c => gB1 (s_df (zb Y k) r c = true)) (zb Y k 1).toNat) (r + 1))), some (iv (gSum (s_b (zb Y k)) (r + 1))), some (.inl (.ref qa)), some (iv (r : Int)), some (iv (pF (zb Y k) r)), some (iv (((zb Y k 1).toNat : Nat) : Int)), none, none, none, none]) (by rw [em, eb]; rfl) (pCt_cg σ (fun a => rfl)) ?_
          refine x_iinc_9 K dL_sums_279 rfl ?_
          refine x_goto (tgt := 39) K dL_sums_282 (by decide) ?_
          exact gWX.fgt 10 (gWX.fgt 11 (gWX.le (by omega) (by omega) (gWX.to rfl rfl ih)))
  · refine x_iload_9 K dL_sums_39 ?_
    refine x_aload_0 K dL_sums_41 ?_
    refine x_iload_1 K dL_sums_42 ?_
    refine x_iconst K dL_sums_43 ?_
    refine x_callH3 K (p_of (hS _) hY 0 hk (by omega)) mtL_of msL_of (g_mem 606 (by decide +kernel)) ⟨by omega, by omega, by omega⟩ rfl (Nat.le_of_ble_eq_true rfl) dL_sums_44 ?_
    refine gWX.top (b := zb Y k 0) rfl ?_
    refine x_icmp_ge (tgt := 285) K (by omega) dL_sums_47 (by decide) (fun h47 => ?_) (fun h47 => absurd h47 (by omega))
    refine gWX.fgt 9 ?_
    refine gWX.to (L' := [some (rf 0 0), some (iv (k : Int)), some (iv (zb Y k 2)), some (iv (s_wr (zb Y k))), some (iv (0)), some (iv (s_sm (zb Y k))), some (iv (s_db (zb Y k))), some (iv (s_al (zb Y k))), some (.inl (.ref qa)), none, none, none, none, none, none, none]) (by rw [s_wr_in hz]; rfl) (σ' := pCt σ (fun a : Nat => s_ho (zb Y k) (a : Int))) rfl ?_
    refine gWX.le (c' := 150 + 4 * 0) (s' := 6 * (150 + 4 * 0)) (by omega) (by omega) ?_
    refine x_iconst K dL_sums_285 ?_
    refine x_istore_9 K dL_sums_286 rfl ?_
    refine gLp (P := fun c : Nat => gWX X E2 (150 + 4 * c) (6 * (150 + 4 * c)) 288 [some (rf 0 0), some (iv (k : Int)), some (iv (zb Y k 2)), some (iv (s_wr (zb Y k))), some (iv (gSum (fun b => gB1 (s_w (zb Y k) (6 + b) = true)) c)), some (iv (s_sm (zb Y k))), some (iv (s_db (zb Y k))), some (iv (s_al (zb Y k))), some (.inl (.ref qa)), some (iv (c : Int)), none, none, none, none, none, none] [] (pCt σ (fun a : Nat => s_ho (zb Y k) (a : Int)))) ((zb Y k 1).toNat) (fun k0 => ?_) (fun c hc ih => ?_) ?_
    · exact gWX.to rfl rfl (k0)
    · have hc : (c : Int) < zb Y k 1 := by omega
      have br := s_b_bd hz (b := 6 + c) (by omega)
      have bf := s_f_bd hz (b := 6 + c) (by omega)
      have t0 := hz.2.2.2.2.1 (6 + c) (by omega)
      have bF : -13 ≤ pF (zb Y k) (6 + c) ∧ pF (zb Y k) (6 + c) ≤ 9 := by
        rcases z2 with q | q
        · rw [sF0 q]; omega
        · rw [sF1 q]; omega
      have b9 := gB1_bd (s_w (zb Y k) (6 + c) = true)
      refine x_iload_9 K dL_sums_288 ?_
      refine x_aload_0 K dL_sums_290 ?_
      refine x_iload_1 K dL_sums_291 ?_
      refine x_iconst K dL_sums_292 ?_
      refine x_callH3 K (p_of (hS _) hY 1 hk (by omega)) mtL_of msL_of (g_mem 606 (by decide +kernel)) ⟨by omega, by omega, by omega⟩ rfl (Nat.le_of_ble_eq_true rfl) dL_sums_293 ?_
      refine gWX.top (b := zb Y k 1) rfl ?_
      refine x_icmp_ge (tgt := 389) K (by omega) dL_sums_296 (by decide) (fun h296 => absurd h296 (by omega)) (fun h296 => ?_)
      refine gJn (P := gWX X E2 (150 + 4 * c + 1) (6 * (150 + 4 * c + 1)) 330 [some (rf 0 0), some (iv (k : Int)), some (iv (zb Y k 2)), some (iv (s_wr (zb Y k))), some (iv (gSum (fun b => gB1 (s_w (zb Y k) (6 + b) = true)) c)), some (iv (s_sm (zb Y k))), some (iv (s_db (zb Y k))), some (iv (s_al (zb Y k))), some (.inl (.ref qa)), some (iv (c : Int)), none, none, none, none, none, none] [iv (pF (zb Y k) (6 + c))] (pCt σ (fun a : Nat => s_ho (zb Y k) (a : Int)))) (fun kJ => ?_) ?_
      · refine x_iload_2 K dL_sums_299 ?_
        refine x_if_eq (tgt := 328) K (by omega) dL_sums_300 (by decide) (fun h300 => ?_) (fun h300 => ?_)
        · refine x_bipush K dL_sums_328 rfl ?_
          refine gWX.top (b := pF (zb Y k) (6 + c)) (sF0 h300 _).symm ?_
          exact gWX.le (by omega) (by omega) (gWX.to rfl rfl kJ)
        · refine x_aload_0 K dL_sums_303 ?_
          refine x_iload_1 K dL_sums_304 ?_
          refine x_iload_9 K dL_sums_305 ?_
          refine x_callH3 K (p_columnSum (hS _) hY hk hc) mtL_columnSum msL_columnSum (g_mem 734 (by decide +kernel)) ⟨by omega, by omega, by omega⟩ rfl (Nat.le_of_ble_eq_true rfl) dL_sums_307 ?_
          refine gWX.top (b := zb Y k (6 + (6 + c))) (sT1 (by omega) _) ?_
          refine x_bipush K dL_sums_310 rfl ?_
          refine x_iadd K dL_sums_312 ?_
          refine x_aload_0 K dL_sums_313 ?_
          refine x_iload_1 K dL_sums_314 ?_
          refine x_iconst K dL_sums_315 ?_
          refine x_iload_9 K dL_sums_316 ?_
          refine x_callS4 K (now_col Y (hS _) hY hk hc) mtL_now msL_now lkRL_206 ⟨by omega, by omega, by omega⟩ rfl (Nat.le_of_ble_eq_true rfl) dL_sums_318 ?_
          refine x_isub K dL_sums_321 ?_
          refine x_bipush K dL_sums_322 rfl ?_
          refine x_irem K (by omega) dL_sums_324 ?_
          refine gWX.top (b := pF (zb Y k) (6 + c)) (by rw [sF1 (by omega)]; unfold s_f; congr 1; omega) ?_
          refine x_goto (tgt := 330) K dL_sums_325 (by decide) ?_
          exact gWX.le (by omega) (by omega) (gWX.to rfl rfl kJ)
      · refine x_istore_10 K dL_sums_330 rfl ?_
        refine x_iload_4 K dL_sums_332 ?_
        refine x_aload_0 K dL_sums_334 ?_
        refine x_iload_1 K dL_sums_335 ?_
        refine x_iconst K dL_sums_336 ?_
        refine x_iload_9 K dL_sums_337 ?_
        refine x_callS4 K (wrong_col Y (hS _) hY hk hc) mtL_isWrong msL_isWrong lkRL_210 ⟨by omega, by omega, by omega⟩ rfl (Nat.le_of_ble_eq_true rfl) dL_sums_339 ?_
        refine gTern (fun kt kf => x_if_eq (tgt := 349) K (by omega) dL_sums_342 (by decide) kt kf) (fun k => x_iconst K dL_sums_349 k) (fun k => x_iconst K dL_sums_345 (x_goto K dL_sums_346 (by decide) k)) ?_
        refine gWX.top (b := gB1 (s_w (zb Y k) (6 + c) = true)) (by split <;> omega) ?_
        refine x_iadd K dL_sums_350 ?_
        refine x_istore_4 K dL_sums_351 rfl ?_
        refine x_aload_0 K dL_sums_353 ?_
        refine x_iload_1 K dL_sums_354 ?_
        refine x_iload_9 K dL_sums_355 ?_
        refine x_callH3 K (p_columnFault (hS _) hY hk hc) mtL_columnFault msL_columnFault (g_mem 766 (by decide +kernel)) ⟨by omega, by omega, by omega⟩ rfl (Nat.le_of_ble_eq_true rfl) dL_sums_357 ?_
        refine x_iload_10 K dL_sums_360 ?_
        refine x_icmp_ne (tgt := 381) K (by omega) dL_sums_362 (by decide) (fun h362 => absurd rfl h362) (fun h362 => ?_)
        refine gJn (P := gWX X E2 (150 + 4 * c + 4) (6 * (150 + 4 * c + 4)) 383 [some (rf 0 0), some (iv (k : Int)), some (iv (zb Y k 2)), some (iv (s_wr (zb Y k))), some (iv (gSum (fun b => gB1 (s_w (zb Y k) (6 + b) = true)) (c + 1))), some (iv (s_sm (zb Y k))), some (iv (s_db (zb Y k))), some (iv (s_al (zb Y k))), some (.inl (.ref qa)), some (iv (c : Int)), some (iv (pF (zb Y k) (6 + c))), none, none, none, none, none] [] (pCt σ (fun a : Nat => s_ho (zb Y k) (a : Int)))) (fun kJ => ?_) ?_
        · refine x_iload_2 K dL_sums_365 ?_
          refine x_if_ne (tgt := 383) K (by omega) dL_sums_366 (by decide) (fun h366 => ?_) (fun h366 => ?_)
          · exact gWX.le (by omega) (by omega) (gWX.to rfl rfl kJ)
          · refine x_aload_0 K dL_sums_369 ?_
            refine x_iload_1 K dL_sums_370 ?_
            refine x_iload_9 K dL_sums_371 ?_
            refine x_callH3 K (p_columnSum (hS _) hY hk hc) mtL_columnSum msL_columnSum (g_mem 734 (by decide +kernel)) ⟨by omega, by omega, by omega⟩ rfl (Nat.le_of_ble_eq_true rfl) dL_sums_373 ?_
            refine gWX.top (b := -13) (sT0 (by omega) _) ?_
            refine x_bipush K dL_sums_376 rfl ?_
            refine x_icmp_eq (tgt := 383) K (by omega) dL_sums_378 (by decide) (fun h378 => ?_) (fun h378 => absurd rfl h378)
            exact gWX.le (by omega) (by omega) (gWX.to rfl rfl kJ)
        · refine x_iinc_9 K dL_sums_383 rfl ?_
          refine x_goto (tgt := 288) K dL_sums_386 (by decide) ?_
          exact gWX.fgt 10 (gWX.le (by omega) (by omega) (gWX.to rfl rfl ih))
    · refine x_iload_9 K dL_sums_288 ?_
      refine x_aload_0 K dL_sums_290 ?_
      refine x_iload_1 K dL_sums_291 ?_
      refine x_iconst K dL_sums_292 ?_
      refine x_callH3 K (p_of (hS _) hY 1 hk (by omega)) mtL_of msL_of (g_mem 606 (by decide +kernel)) ⟨by omega, by omega, by omega⟩ rfl (Nat.le_of_ble_eq_true rfl) dL_sums_293 ?_
      refine gWX.top (b := zb Y k 1) rfl ?_
      refine x_icmp_ge (tgt := 389) K (by omega) dL_sums_296 (by decide) (fun h296 => ?_) (fun h296 => absurd h296 (by omega))
      refine gWX.fgt 9 ?_
      refine gWX.to (L' := [some (rf 0 0), some (iv (k : Int)), some (iv (zb Y k 2)), some (iv (s_wr (zb Y k))), some (iv (s_wc (zb Y k))), some (iv (s_sm (zb Y k))), some (iv (s_db (zb Y k))), some (iv (s_al (zb Y k))), some (.inl (.ref qa)), none, none, none, none, none, none, none]) (by rw [s_wc_in hz]; rfl) rfl ?_
      refine gWX.le (c' := 200) (s' := 1200) (by omega) (by omega) ?_
      refine x_iconst K dL_sums_389 ?_
      refine x_istore_9 K dL_sums_390 rfl ?_
      refine gLp (P := fun a : Nat => gWX X E2 200 1200 392 [some (rf 0 0), some (iv (k : Int)), some (iv (zb Y k 2)), some (iv (s_wr (zb Y k))), some (iv (s_wc (zb Y k))), some (iv (s_sm (zb Y k))), some (iv (s_db (zb Y k))), some (iv (s_al (zb Y k))), some (.inl (.ref qa)), some (iv (a : Int)), none, none, none, none, none, none] [] (pCt σ (fun a : Nat => s_ho (zb Y k) (a : Int)))) (10) (fun k0 => ?_) (fun a ha ih => ?_) ?_
      · exact gWX.to rfl rfl (k0)
      · have hb9 := s_ho_bd hz (a : Int)
        refine x_iload_9 K dL_sums_392 ?_
        refine x_bipush K dL_sums_394 rfl ?_
        refine x_icmp_ge (tgt := 422) K (by omega) dL_sums_396 (by decide) (fun h396 => absurd h396 (by omega)) (fun h396 => ?_)
        refine x_aload_0 K dL_sums_399 ?_
        refine x_iload_1 K dL_sums_400 ?_
        refine x_iload_9 K dL_sums_401 ?_
        refine x_callH3 K (p_count (hS _) hY hk (by omega)) mtL_count msL_count (g_mem 773 (by decide +kernel)) ⟨by omega, by omega, by omega⟩ rfl (Nat.le_of_ble_eq_true rfl) dL_sums_403 ?_
        refine x_aloadc_8 K dL_sums_406 ?_
        refine x_iload_9 K dL_sums_408 ?_
        refine x_ialdX K hxx a rfl (by omega) (by omega) dL_sums_410 ?_
        refine gWX.top (b := s_ho (zb Y k) (a : Int)) rfl ?_
        refine x_icmp_eq (tgt := 416) K (by omega) dL_sums_411 (by decide) (fun h411 => ?_) (fun h411 => absurd rfl h411)
        refine x_iinc_9 K dL_sums_416 rfl ?_
        refine x_goto (tgt := 392) K dL_sums_419 (by decide) ?_
        exact gWX.to rfl rfl (ih)
      · refine x_iload_9 K dL_sums_392 ?_
        refine x_bipush K dL_sums_394 rfl ?_
        refine x_icmp_ge (tgt := 422) K (by omega) dL_sums_396 (by decide) (fun h396 => ?_) (fun h396 => absurd h396 (by omega))
        refine gWX.fgt 9 ?_
        refine x_aload_0 K dL_sums_422 ?_
        refine x_iload_1 K dL_sums_423 ?_
        refine x_iconst K dL_sums_424 ?_
        refine x_callH3 K (p_of (hS _) hY 0 hk (by omega)) mtL_of msL_of (g_mem 606 (by decide +kernel)) ⟨by omega, by omega, by omega⟩ rfl (Nat.le_of_ble_eq_true rfl) dL_sums_425 ?_
        refine gWX.top (b := zb Y k 0) rfl ?_
        refine x_aload_0 K dL_sums_428 ?_
        refine x_iload_1 K dL_sums_429 ?_
        refine x_iconst K dL_sums_430 ?_
        refine x_callH3 K (p_of (hS _) hY 1 hk (by omega)) mtL_of msL_of (g_mem 606 (by decide +kernel)) ⟨by omega, by omega, by omega⟩ rfl (Nat.le_of_ble_eq_true rfl) dL_sums_431 ?_
        refine gWX.top (b := zb Y k 1) rfl ?_
        refine x_imul K dL_sums_434 ?_
        refine gWX.top (b := s_cl (zb Y k)) rfl ?_
        refine x_istore_9 K dL_sums_435 rfl ?_
        have bC2 : 1 ≤ s_cl (zb Y k) ∧ s_cl (zb Y k) ≤ 48 := bCl
        have bmc := s_sm_cl hz
        refine gJn (P := gWX X E2 200 1200 463 [some (rf 0 0), some (iv (k : Int)), some (iv (zb Y k 2)), some (iv (s_wr (zb Y k))), some (iv (s_wc (zb Y k))), some (iv (s_sm (zb Y k))), some (iv (s_db (zb Y k))), some (iv (s_al (zb Y k))), some (.inl (.ref qa)), some (iv (s_cl (zb Y k))), none, none, none, none, none, none] [] (pCt σ (fun a : Nat => s_ho (zb Y k) (a : Int)))) (fun kJ => ?_) ?_
        · refine x_iload_5 K dL_sums_437 ?_
          refine x_iload_9 K dL_sums_439 ?_
          refine x_icmp_eq (tgt := 463) K (by omega) dL_sums_441 (by decide) (fun h441 => ?_) (fun h441 => ?_)
          · exact gWX.le (by omega) (by omega) (gWX.to rfl rfl kJ)
          · refine x_aload_0 K dL_sums_444 ?_
            refine x_iload_1 K dL_sums_445 ?_
            refine x_callV1 K (c6_meanSign Y (hS _) hY (k : Int) (by omega) ⟨by omega, hk⟩ h441) mtX6_meanSign miX6_meanSign rc0 ⟨by decide, by decide⟩ lkRL_222 ⟨by omega, by omega, by omega⟩ rfl (Nat.le_of_ble_eq_true rfl) dL_sums_446 ?_
            refine x_iload_7 K dL_sums_449 ?_
            refine x_i2d K dL_sums_451 ?_
            refine x_iload_9 K dL_sums_452 ?_
            refine x_iload_5 K dL_sums_454 ?_
            refine x_isub K dL_sums_456 ?_
            refine x_i2d K dL_sums_457 ?_
            refine x_ddiv K (by have := gQ_n (a := (s_al (zb Y k)).toNat) (b := (s_cl (zb Y k) - s_sm (zb Y k)).toNat) (by omega) (by omega); unfold gQ at this; rw [Int.toNat_of_nonneg (by omega), Int.toNat_of_nonneg (by omega)] at this; exact this) dL_sums_458 ?_
            refine gWX.topv (u := .inl (.double (gQ (s_al (zb Y k)).toNat (s_cl (zb Y k) - s_sm (zb Y k)).toNat))) (by unfold gQ; rw [Int.toNat_of_nonneg (by omega), Int.toNat_of_nonneg (by omega)]) ?_
            refine x_dcmp K (z := 0) (gQ_c (a := (s_al (zb Y k)).toNat) (b := (s_cl (zb Y k) - s_sm (zb Y k)).toNat) (by omega) (by omega)) dL_sums_459 ?_
            refine x_if_ne (tgt := 467) K (by omega) dL_sums_460 (by decide) (fun h460 => absurd rfl h460) (fun h460 => ?_)
            exact gWX.le (by omega) (by omega) (gWX.to rfl rfl kJ)
        · refine x_iconst K dL_sums_463 ?_
          refine x_goto (tgt := 468) K dL_sums_464 (by decide) ?_
          refine x_istore_10 K dL_sums_468 rfl ?_
          refine gJn (P := gWX X E2 202 1212 526 [some (rf 0 0), some (iv (k : Int)), some (iv (zb Y k 2)), some (iv (s_wr (zb Y k))), some (iv (s_wc (zb Y k))), some (iv (s_sm (zb Y k))), some (iv (s_db (zb Y k))), some (iv (s_al (zb Y k))), some (.inl (.ref qa)), some (iv (s_cl (zb Y k))), some (iv 1), none, none, none, none, none] [iv 1] (pCt σ (fun a : Nat => s_ho (zb Y k) (a : Int)))) (fun kJ => ?_) ?_
          · refine x_iload_2 K dL_sums_470 ?_
            refine x_if_eq (tgt := 501) K (by omega) dL_sums_471 (by decide) (fun h471 => ?_) (fun h471 => ?_)
            · refine x_aload_0 K dL_sums_501 ?_
              refine x_iload_1 K dL_sums_502 ?_
              refine x_callH2 K (p_wrongRows (hS _) hY hk) mtL_wrongRows msL_wrongRows (g_mem 810 (by decide +kernel)) ⟨by omega, by omega, by omega⟩ rfl (Nat.le_of_ble_eq_true rfl) dL_sums_503 ?_
              refine gWX.top (b := -13) (if_neg (by omega)) ?_
              refine x_bipush K dL_sums_506 rfl ?_
              refine x_icmp_ne (tgt := 525) K (by omega) dL_sums_508 (by decide) (fun h508 => absurd rfl h508) (fun h508 => ?_)
              refine x_aload_0 K dL_sums_511 ?_
              refine x_iload_1 K dL_sums_512 ?_
              refine x_callH2 K (p_wrongColumns (hS _) hY hk) mtL_wrongColumns msL_wrongColumns (g_mem 818 (by decide +kernel)) ⟨by omega, by omega, by omega⟩ rfl (Nat.le_of_ble_eq_true rfl) dL_sums_513 ?_
              refine gWX.top (b := -13) (if_neg (by omega)) ?_
              refine x_bipush K dL_sums_516 rfl ?_
              refine x_icmp_ne (tgt := 525) K (by omega) dL_sums_518 (by decide) (fun h518 => absurd rfl h518) (fun h518 => ?_)
              refine x_iconst K dL_sums_521 ?_
              refine x_goto (tgt := 526) K dL_sums_522 (by decide) ?_
              exact gWX.le (by omega) (by omega) (gWX.to rfl rfl kJ)
            · refine x_aload_0 K dL_sums_474 ?_
              refine x_iload_1 K dL_sums_475 ?_
              refine x_callH2 K (p_wrongRows (hS _) hY hk) mtL_wrongRows msL_wrongRows (g_mem 810 (by decide +kernel)) ⟨by omega, by omega, by omega⟩ rfl (Nat.le_of_ble_eq_true rfl) dL_sums_476 ?_
              refine gWX.top (b := s_wr (zb Y k)) (if_pos (by omega)) ?_
              refine x_iload_3 K dL_sums_479 ?_
              refine x_icmp_ne (tgt := 497) K (by omega) dL_sums_480 (by decide) (fun h480 => absurd rfl h480) (fun h480 => ?_)
              refine x_aload_0 K dL_sums_483 ?_
              refine x_iload_1 K dL_sums_484 ?_
              refine x_callH2 K (p_wrongColumns (hS _) hY hk) mtL_wrongColumns msL_wrongColumns (g_mem 818 (by decide +kernel)) ⟨by omega, by omega, by omega⟩ rfl (Nat.le_of_ble_eq_true rfl) dL_sums_485 ?_
              refine gWX.top (b := s_wc (zb Y k)) (if_pos (by omega)) ?_
              refine x_iload_4 K dL_sums_488 ?_
              refine x_icmp_ne (tgt := 497) K (by omega) dL_sums_490 (by decide) (fun h490 => absurd rfl h490) (fun h490 => ?_)
              refine x_iconst K dL_sums_493 ?_
              refine x_goto (tgt := 526) K dL_sums_494 (by decide) ?_
              exact gWX.le (by omega) (by omega) (gWX.to rfl rfl kJ)
          · refine x_istore_11 K dL_sums_526 rfl ?_
            refine x_aload_0 K dL_sums_528 ?_
            refine x_iload_1 K dL_sums_529 ?_
            refine x_callH2 K (p_doubts (hS _) hY hk) mtL_doubts msL_doubts (g_mem 826 (by decide +kernel)) ⟨by omega, by omega, by omega⟩ rfl (Nat.le_of_ble_eq_true rfl) dL_sums_530 ?_
            refine x_iload_6 K dL_sums_533 ?_
            refine x_icmp_ne (tgt := 564) K (by omega) dL_sums_535 (by decide) (fun h535 => absurd rfl h535) (fun h535 => ?_)
            refine x_aload_0 K dL_sums_538 ?_
            refine x_iload_1 K dL_sums_539 ?_
            refine x_callH2 K (p_doubtsAgain (hS _) hY hk) mtL_doubtsAgain msL_doubtsAgain (g_mem 834 (by decide +kernel)) ⟨by omega, by omega, by omega⟩ rfl (Nat.le_of_ble_eq_true rfl) dL_sums_540 ?_
            refine gWX.top (b := s_db (zb Y k)) eDP.symm ?_
            refine x_iload_6 K dL_sums_543 ?_
            refine x_icmp_ne (tgt := 564) K (by omega) dL_sums_545 (by decide) (fun h545 => absurd rfl h545) (fun h545 => ?_)
            refine x_iload_6 K dL_sums_548 ?_
            refine x_iload_5 K dL_sums_550 ?_
            refine x_iload_3 K dL_sums_552 ?_
            refine x_iload_4 K dL_sums_553 ?_
            refine x_imul K dL_sums_555 ?_
            refine x_iadd K dL_sums_556 ?_
            refine x_icmpu_ne (tgt := 564) K dL_sums_557 (by decide) (fun h557 => absurd (congrArg Int32.ofInt eDP) h557) (fun h557 => ?_)
            refine x_iconst K dL_sums_560 ?_
            refine x_goto (tgt := 565) K dL_sums_561 (by decide) ?_
            refine x_istore_12 K dL_sums_565 rfl ?_
            refine x_bipush K dL_sums_567 rfl ?_
            refine x_istore_13 K dL_sums_569 rfl ?_
            refine gJn (P := gWX X E2 400 2400 685 [some (rf 0 0), some (iv (k : Int)), some (iv (zb Y k 2)), some (iv (s_wr (zb Y k))), some (iv (s_wc (zb Y k))), some (iv (s_sm (zb Y k))), some (iv (s_db (zb Y k))), some (iv (s_al (zb Y k))), some (.inl (.ref qa)), some (iv (s_cl (zb Y k))), some (iv 1), some (iv 1), some (iv 1), some (iv (pD (zb Y k))), none, none] [] (pCt σ (fun a : Nat => s_ho (zb Y k) (a : Int)))) (fun kJ => ?_) ?_
            · refine x_iload_2 K dL_sums_571 ?_
              refine x_if_eq (tgt := 685) K (by omega) dL_sums_572 (by decide) (fun h572 => ?_) (fun h572 => ?_)
              · exact gWX.le (by omega) (by omega) (gWX.to (gCons rfl (gCons rfl (gCons rfl (gCons rfl (gCons rfl (gCons rfl (gCons rfl (gCons rfl (gCons rfl (gCons rfl (gCons rfl (gCons rfl (gCons rfl (gCons (gIv (if_neg (fun q => by have := q.1; omega)).symm) rfl)))))))))))))) rfl kJ)
              · refine x_iload_5 K dL_sums_575 ?_
                refine x_if_ne (tgt := 685) K (by omega) dL_sums_577 (by decide) (fun h577 => ?_) (fun h577 => ?_)
                · exact gWX.le (by omega) (by omega) (gWX.to (gCons rfl (gCons rfl (gCons rfl (gCons rfl (gCons rfl (gCons rfl (gCons rfl (gCons rfl (gCons rfl (gCons rfl (gCons rfl (gCons rfl (gCons rfl (gCons (gIv (if_neg (fun q => h577 q.2.1)).symm) rfl)))))))))))))) rfl kJ)
                · refine x_iload_3 K dL_sums_580 ?_
                  refine x_iconst K dL_sums_581 ?_
                  refine x_icmp_ne (tgt := 685) K (by omega) dL_sums_582 (by decide) (fun h582 => ?_) (fun h582 => ?_)
                  · exact gWX.le (by omega) (by omega) (gWX.to (gCons rfl (gCons rfl (gCons rfl (gCons rfl (gCons rfl (gCons rfl (gCons rfl (gCons rfl (gCons rfl (gCons rfl (gCons rfl (gCons rfl (gCons rfl (gCons (gIv (if_neg (fun q => h582 q.2.2.1)).symm) rfl)))))))))))))) rfl kJ)
                  · refine x_iload_4 K dL_sums_585 ?_
                    refine x_iconst K dL_sums_587 ?_
                    refine x_icmp_ne (tgt := 685) K (by omega) dL_sums_588 (by decide) (fun h588 => ?_) (fun h588 => ?_)
                    · exact gWX.le (by omega) (by omega) (gWX.to (gCons rfl (gCons rfl (gCons rfl (gCons rfl (gCons rfl (gCons rfl (gCons rfl (gCons rfl (gCons rfl (gCons rfl (gCons rfl (gCons rfl (gCons rfl (gCons (gIv (if_neg (fun q => h588 q.2.2.2.1)).symm) rfl)))))))))))))) rfl kJ)
                    · have q2 : zb Y k 2 = 1 := by omega
                      have q3 : s_sm (zb Y k) = 0 := by omega
                      have q4 : s_wr (zb Y k) = 1 := by omega
                      have q5 : s_wc (zb Y k) = 1 := by omega
                      have oR := fun (r : Nat) (hr : r < 6) => s_one_row (z := zb Y k) q4 hr
                      have oC := fun (c : Nat) (hc : c < 8) => s_one_col (z := zb Y k) q5 hc
                      obtain ⟨-, r6, rW⟩ := s_fw_row (z := zb Y k) (by omega)
                      obtain ⟨-, c8, cW⟩ := s_fw_col (z := zb Y k) (by omega)
                      have rlt := s_w_row hz r6 rW
                      have clt := s_w_col hz c8 cW
                      refine x_iconst K dL_sums_591 ?_
                      refine x_istore_14 K dL_sums_592 rfl ?_
                      refine gLp (P := fun r : Nat => gWX X E2 (202 + 32 * r) (6 * (202 + 32 * r)) 594 [some (rf 0 0), some (iv (k : Int)), some (iv (zb Y k 2)), some (iv (s_wr (zb Y k))), some (iv (s_wc (zb Y k))), some (iv (s_sm (zb Y k))), some (iv (s_db (zb Y k))), some (iv (s_al (zb Y k))), some (.inl (.ref qa)), some (iv (s_cl (zb Y k))), some (iv 1), some (iv 1), some (iv 1), some (iv (pDv (zb Y k) (s_r1 (zb Y k) < r))), some (iv (r : Int)), none] [] (pCt σ (fun a : Nat => s_ho (zb Y k) (a : Int)))) ((zb Y k 0).toNat) (fun k0 => ?_) (fun r hr ih => ?_) ?_
                      · exact gWX.to (gCons rfl (gCons rfl (gCons rfl (gCons rfl (gCons rfl (gCons rfl (gCons rfl (gCons rfl (gCons rfl (gCons rfl (gCons rfl (gCons rfl (gCons rfl (gCons (gIv (if_neg (fun q => absurd q.1 (by omega))).symm) rfl)))))))))))))) rfl (k0)
                      · have hr : (r : Int) < zb Y k 0 := by omega
                        have br := s_f_bd hz (b := r) (by omega)
                        have b9 := gB1_bd (s_w (zb Y k) r = true)
                        refine x_iload_14 K dL_sums_594 ?_
                        refine x_aload_0 K dL_sums_596 ?_
                        refine x_iload_1 K dL_sums_597 ?_
                        refine x_iconst K dL_sums_598 ?_
                        refine x_callH3 K (p_of (hS _) hY 0 hk (by omega)) mtL_of msL_of (g_mem 606 (by decide +kernel)) ⟨by omega, by omega, by omega⟩ rfl (Nat.le_of_ble_eq_true rfl) dL_sums_599 ?_
                        refine gWX.top (b := zb Y k 0) rfl ?_
                        refine x_icmp_ge (tgt := 685) K (by omega) dL_sums_602 (by decide) (fun h602 => absurd h602 (by omega)) (fun h602 => ?_)
                        refine x_iconst K dL_sums_605 ?_
                        refine x_istore_15 K dL_sums_606 rfl ?_
                        refine gLp (P := fun c : Nat => gWX X E2 (202 + 32 * r + 4 * c) (6 * (202 + 32 * r + 4 * c)) 608 [some (rf 0 0), some (iv (k : Int)), some (iv (zb Y k 2)), some (iv (s_wr (zb Y k))), some (iv (s_wc (zb Y k))), some (iv (s_sm (zb Y k))), some (iv (s_db (zb Y k))), some (iv (s_al (zb Y k))), some (.inl (.ref qa)), some (iv (s_cl (zb Y k))), some (iv 1), some (iv 1), some (iv 1), some (iv (pDv (zb Y k) (s_r1 (zb Y k) < r ∨ s_r1 (zb Y k) = r ∧ s_c1 (zb Y k) < c))), some (iv (r : Int)), some (iv (c : Int))] [] (pCt σ (fun a : Nat => s_ho (zb Y k) (a : Int)))) ((zb Y k 1).toNat) (fun k0 => ?_) (fun c hc ih => ?_) ?_
                        · exact gWX.to (gCons rfl (gCons rfl (gCons rfl (gCons rfl (gCons rfl (gCons rfl (gCons rfl (gCons rfl (gCons rfl (gCons rfl (gCons rfl (gCons rfl (gCons rfl (gCons (gIv (pDv_iff _ ⟨fun q => Or.inl q, fun q => by omega⟩)) rfl)))))))))))))) rfl (k0)
                        · have hc : (c : Int) < zb Y k 1 := by omega
                          have bc := s_f_bd hz (b := 6 + c) (by omega)
                          have c9 := gB1_bd (s_w (zb Y k) (6 + c) = true)
                          refine x_iload_15 K dL_sums_608 ?_
                          refine x_aload_0 K dL_sums_610 ?_
                          refine x_iload_1 K dL_sums_611 ?_
                          refine x_iconst K dL_sums_612 ?_
                          refine x_callH3 K (p_of (hS _) hY 1 hk (by omega)) mtL_of msL_of (g_mem 606 (by decide +kernel)) ⟨by omega, by omega, by omega⟩ rfl (Nat.le_of_ble_eq_true rfl) dL_sums_613 ?_
                          refine gWX.top (b := zb Y k 1) rfl ?_
                          refine x_icmp_ge (tgt := 679) K (by omega) dL_sums_616 (by decide) (fun h616 => absurd h616 (by omega)) (fun h616 => ?_)
                          refine gJn (P := gWX X E2 (202 + 32 * r + 4 * c + 4) (6 * (202 + 32 * r + 4 * c + 4)) 671 [some (rf 0 0), some (iv (k : Int)), some (iv (zb Y k 2)), some (iv (s_wr (zb Y k))), some (iv (s_wc (zb Y k))), some (iv (s_sm (zb Y k))), some (iv (s_db (zb Y k))), some (iv (s_al (zb Y k))), some (.inl (.ref qa)), some (iv (s_cl (zb Y k))), some (iv 1), some (iv 1), some (iv 1), some (iv (pDv (zb Y k) (s_r1 (zb Y k) < r ∨ s_r1 (zb Y k) = r ∧ s_c1 (zb Y k) < c))), some (iv (r : Int)), some (iv (c : Int))] [iv (pDv (zb Y k) (s_r1 (zb Y k) < r ∨ s_r1 (zb Y k) = r ∧ s_c1 (zb Y k) < (c + 1)))] (pCt σ (fun a : Nat => s_ho (zb Y k) (a : Int)))) (fun kJ => ?_) ?_
                          · refine x_aload_0 K dL_sums_619 ?_
                            refine x_iload_1 K dL_sums_620 ?_
                            refine x_iconst K dL_sums_621 ?_
                            refine x_iload_14 K dL_sums_622 ?_
                            refine x_callS4 K (wrong_row Y (hS _) hY hk hr) mtL_isWrong msL_isWrong lkRL_210 ⟨by omega, by omega, by omega⟩ rfl (Nat.le_of_ble_eq_true rfl) dL_sums_624 ?_
                            refine x_if_eq (tgt := 669) K (by omega) dL_sums_627 (by decide) (fun h627 => ?_) (fun h627 => ?_)
                            · refine x_iload_13 K dL_sums_669 ?_
                              exact gWX.top (pDv_iff _ ⟨fun q => by omega, fun q => by
                                have : ¬ s_r1 (zb Y k) = r := fun e => by rw [gB1_t ((oR r (by omega)).mpr e.symm)] at h627; omega
                                omega⟩) (gWX.le (by omega) (by omega) kJ)
                            · refine x_aload_0 K dL_sums_630 ?_
                              refine x_iload_1 K dL_sums_631 ?_
                              refine x_iconst K dL_sums_632 ?_
                              refine x_iload_15 K dL_sums_633 ?_
                              refine x_callS4 K (wrong_col Y (hS _) hY hk hc) mtL_isWrong msL_isWrong lkRL_210 ⟨by omega, by omega, by omega⟩ rfl (Nat.le_of_ble_eq_true rfl) dL_sums_635 ?_
                              refine x_if_eq (tgt := 669) K (by omega) dL_sums_638 (by decide) (fun h638 => ?_) (fun h638 => ?_)
                              · refine x_iload_13 K dL_sums_669 ?_
                                exact gWX.top (pDv_iff _ ⟨fun q => by omega, fun q => by
                                  have : ¬ s_c1 (zb Y k) = c := fun e => by rw [gB1_t ((oC c (by omega)).mpr e.symm)] at h638; omega
                                  omega⟩) (gWX.le (by omega) (by omega) kJ)
                              · refine x_aload_0 K dL_sums_641 ?_
                                refine x_iload_1 K dL_sums_642 ?_
                                refine x_iload_14 K dL_sums_643 ?_
                                refine x_callH3 K (p_rowFault (hS _) hY hk hr) mtL_rowFault msL_rowFault (g_mem 750 (by decide +kernel)) ⟨by omega, by omega, by omega⟩ rfl (Nat.le_of_ble_eq_true rfl) dL_sums_645 ?_
                                refine gWX.top (b := s_f (zb Y k) r) (sF1 q2 _) ?_
                                refine x_aload_0 K dL_sums_648 ?_
                                refine x_iload_1 K dL_sums_649 ?_
                                refine x_iload_15 K dL_sums_650 ?_
                                refine x_callH3 K (p_columnFault (hS _) hY hk hc) mtL_columnFault msL_columnFault (g_mem 766 (by decide +kernel)) ⟨by omega, by omega, by omega⟩ rfl (Nat.le_of_ble_eq_true rfl) dL_sums_652 ?_
                                refine gWX.top (b := s_f (zb Y k) (6 + c)) (sF1 q2 _) ?_
                                have er : r = s_r1 (zb Y k) := (oR r (by omega)).mp (by cases hq : s_w (zb Y k) r; (rw [gB1_f (by rw [hq]; decide)] at h627; omega); rfl)
                                have ec : c = s_c1 (zb Y k) := (oC c (by omega)).mp (by cases hq : s_w (zb Y k) (6 + c); (rw [gB1_f (by rw [hq]; decide)] at h638; omega); rfl)
                                refine x_icmp_ne (tgt := 669) K (by omega) dL_sums_655 (by decide) (fun h655 => ?_) (fun h655 => ?_)
                                · refine x_iload_13 K dL_sums_669 ?_
                                  exact gWX.top (by unfold pDv; rw [if_neg (fun q => h655 (by rw [er, ec]; exact q.2)), if_neg (fun q => h655 (by rw [er, ec]; exact q.2))]) (gWX.le (by omega) (by omega) kJ)
                                · refine x_bipush K dL_sums_658 rfl ?_
                                  refine x_iload_14 K dL_sums_660 ?_
                                  refine x_imul K dL_sums_662 ?_
                                  refine x_iload_15 K dL_sums_663 ?_
                                  refine x_iadd K dL_sums_665 ?_
                                  refine x_goto (tgt := 671) K dL_sums_666 (by decide) ?_
                                  exact gWX.top (by unfold pDv; rw [if_pos ⟨Or.inr ⟨er.symm, by omega⟩, by rw [← er, ← ec]; exact h655⟩, er, ec]) (gWX.le (by omega) (by omega) kJ)
                          · refine x_istore_13 K dL_sums_671 rfl ?_
                            refine x_iinc_15 K dL_sums_673 rfl ?_
                            refine x_goto (tgt := 608) K dL_sums_676 (by decide) ?_
                            exact gWX.le (by omega) (by omega) (gWX.to rfl rfl ih)
                        · refine x_iload_15 K dL_sums_608 ?_
                          refine x_aload_0 K dL_sums_610 ?_
                          refine x_iload_1 K dL_sums_611 ?_
                          refine x_iconst K dL_sums_612 ?_
                          refine x_callH3 K (p_of (hS _) hY 1 hk (by omega)) mtL_of msL_of (g_mem 606 (by decide +kernel)) ⟨by omega, by omega, by omega⟩ rfl (Nat.le_of_ble_eq_true rfl) dL_sums_613 ?_
                          refine gWX.top (b := zb Y k 1) rfl ?_
                          refine x_icmp_ge (tgt := 679) K (by omega) dL_sums_616 (by decide) (fun h616 => ?_) (fun h616 => absurd h616 (by omega))
                          refine gWX.to (L' := [some (rf 0 0), some (iv (k : Int)), some (iv (zb Y k 2)), some (iv (s_wr (zb Y k))), some (iv (s_wc (zb Y k))), some (iv (s_sm (zb Y k))), some (iv (s_db (zb Y k))), some (iv (s_al (zb Y k))), some (.inl (.ref qa)), some (iv (s_cl (zb Y k))), some (iv 1), some (iv 1), some (iv 1), some (iv (pDv (zb Y k) (s_r1 (zb Y k) < r + 1))), some (iv (r : Int)), some (iv (((zb Y k 1).toNat : Nat) : Int))]) (gCons rfl (gCons rfl (gCons rfl (gCons rfl (gCons rfl (gCons rfl (gCons rfl (gCons rfl (gCons rfl (gCons rfl (gCons rfl (gCons rfl (gCons rfl (gCons (gIv (pDv_iff _ ⟨fun q => by omega, fun q => by omega⟩)) rfl)))))))))))))) rfl ?_
                          refine x_iinc_14 K dL_sums_679 rfl ?_
                          refine x_goto (tgt := 594) K dL_sums_682 (by decide) ?_
                          exact gWX.fgt 15 (gWX.le (by omega) (by omega) (gWX.to rfl rfl ih))
                      · refine x_iload_14 K dL_sums_594 ?_
                        refine x_aload_0 K dL_sums_596 ?_
                        refine x_iload_1 K dL_sums_597 ?_
                        refine x_iconst K dL_sums_598 ?_
                        refine x_callH3 K (p_of (hS _) hY 0 hk (by omega)) mtL_of msL_of (g_mem 606 (by decide +kernel)) ⟨by omega, by omega, by omega⟩ rfl (Nat.le_of_ble_eq_true rfl) dL_sums_599 ?_
                        refine gWX.top (b := zb Y k 0) rfl ?_
                        refine x_icmp_ge (tgt := 685) K (by omega) dL_sums_602 (by decide) (fun h602 => ?_) (fun h602 => absurd h602 (by omega))
                        exact gWX.le (by omega) (by omega) (gWX.fgt 14 (gWX.fgt 15 (gWX.to (gCons rfl (gCons rfl (gCons rfl (gCons rfl (gCons rfl (gCons rfl (gCons rfl (gCons rfl (gCons rfl (gCons rfl (gCons rfl (gCons rfl (gCons rfl (gCons (gIv (pDv_end hz q2 q3 q4 q5)) rfl)))))))))))))) rfl kJ)))
            · 
              refine x_aload_0 K dL_sums_685 ?_
              refine x_iload_1 K dL_sums_686 ?_
              refine x_iconst K dL_sums_687 ?_
              refine x_callH3 K (p_of (hS _) hY 4 hk (by omega)) mtL_of msL_of (g_mem 606 (by decide +kernel)) ⟨by omega, by omega, by omega⟩ rfl (Nat.le_of_ble_eq_true rfl) dL_sums_688 ?_
              refine gWX.top (b := s_sm (zb Y k)) rfl ?_
              refine x_iload_5 K dL_sums_691 ?_
              refine x_icmp_ne (tgt := 751) K (by omega) dL_sums_693 (by decide) (fun h693 => absurd rfl h693) (fun h693 => ?_)
              refine x_iload_10 K dL_sums_696 ?_
              refine x_if_eq (tgt := 751) K (by omega) dL_sums_698 (by decide) (fun h698 => absurd h698 (by omega)) (fun h698 => ?_)
              refine x_iload_11 K dL_sums_701 ?_
              refine x_if_eq (tgt := 751) K (by omega) dL_sums_703 (by decide) (fun h703 => absurd h703 (by omega)) (fun h703 => ?_)
              refine x_iload_12 K dL_sums_706 ?_
              refine x_if_eq (tgt := 751) K (by omega) dL_sums_708 (by decide) (fun h708 => absurd h708 (by omega)) (fun h708 => ?_)
              refine x_aload_0 K dL_sums_711 ?_
              refine x_iload_1 K dL_sums_712 ?_
              refine x_callV1 K (c6_doubtShare Y (hS _) hY (k : Int) (by omega) ⟨by omega, hk⟩) mtX6_doubtShare miX6_doubtShare rc0 ⟨by decide, by decide⟩ lkRL_234 ⟨by omega, by omega, by omega⟩ rfl (Nat.le_of_ble_eq_true rfl) dL_sums_713 ?_
              refine x_iload_6 K dL_sums_716 ?_
              refine x_i2f K dL_sums_718 ?_
              refine x_iload_9 K dL_sums_719 ?_
              refine x_i2f K dL_sums_721 ?_
              have bC3 : 1 ≤ s_cl (zb Y k) ∧ s_cl (zb Y k) ≤ 48 := bCl
              refine x_fdiv K (by have := (gQf_n (a := (s_db (zb Y k)).toNat) (b := (s_cl (zb Y k)).toNat) (by omega) (by omega)).1; unfold gQf at this; rw [Int.toNat_of_nonneg (by omega), Int.toNat_of_nonneg (by omega)] at this; exact this) dL_sums_722 ?_
              refine gWX.topv (u := .inl (.float (gQf (s_db (zb Y k)).toNat (s_cl (zb Y k)).toNat))) (by unfold gQf; rw [Int.toNat_of_nonneg (by omega), Int.toNat_of_nonneg (by omega)]) ?_
              refine x_fcmp K (z := 0) (gQf_f (a := (s_db (zb Y k)).toNat) (b := (s_cl (zb Y k)).toNat) (by omega) (by omega)) dL_sums_723 ?_
              refine x_if_ne (tgt := 751) K (by omega) dL_sums_724 (by decide) (fun h724 => absurd rfl h724) (fun h724 => ?_)
              refine x_aload_0 K dL_sums_727 ?_
              refine x_iload_1 K dL_sums_728 ?_
              refine x_callH2 K (p_wouldMend (hS _) hY hk) mtL_wouldMend msL_wouldMend (g_mem 849 (by decide +kernel)) ⟨by omega, by omega, by omega⟩ rfl (Nat.le_of_ble_eq_true rfl) dL_sums_729 ?_
              refine gWX.top (b := pD (zb Y k)) (pWm_D hz k) ?_
              refine x_iload_13 K dL_sums_732 ?_
              have bD : -13 ≤ pD (zb Y k) ∧ pD (zb Y k) ≤ 10000 := by
                have f1 := gFst_bd (s_w (zb Y k)) (14 - 0) 0
                have f2 := gFst_bd (s_w (zb Y k)) (14 - 6) 6
                have e1 : s_fw (zb Y k) 0 = gFst (s_w (zb Y k)) 0 (14 - 0) := rfl
                have e2 : s_fw (zb Y k) 6 = gFst (s_w (zb Y k)) 6 (14 - 6) := rfl
                unfold pD s_r1 s_c1
                split <;> omega
              refine x_icmp_ne (tgt := 751) K (by omega) dL_sums_734 (by decide) (fun h734 => absurd rfl h734) (fun h734 => ?_)
              obtain ⟨σ3, hσ3, hma⟩ := p_mendAgain (E := E2) (hS _) hY hk
              refine x_aload_0 K dL_sums_737 ?_
              refine x_iload_1 K dL_sums_738 ?_
              refine x_callH2 K hma mtL_mendAgain msL_mendAgain (g_mem 862 (by decide +kernel)) ⟨by omega, by omega, by omega⟩ rfl (Nat.le_of_ble_eq_true rfl) dL_sums_739 ?_
              refine gWX.top (b := pD (zb Y k)) rfl ?_
              refine x_iload_13 K dL_sums_742 ?_
              refine x_icmp_ne (tgt := 751) K (by omega) dL_sums_744 (by decide) (fun h744 => absurd rfl h744) (fun h744 => ?_)
              refine x_iconst K dL_sums_747 ?_
              refine x_goto (tgt := 752) K dL_sums_748 (by decide) ?_
              rcases hσ3 with rfl | rfl
              · exact x_zretR K K0 hm hX hE rfl dL_sums_752 (by omega) (by omega) (Or.inr rfl) (pCt_eqv σ _) ⟨rfl, Or.inl rfl⟩
              · exact x_zretR K K0 hm hX hE rfl dL_sums_752 (by omega) (by omega) (Or.inr rfl) (gEqv_put (pCt_eqv σ _) 55 _) ⟨rfl, Or.inr rfl⟩
