/-! ===== accounts, ranks, the sum of all that is told ===== -/
/-- what holds of a shelf beyond its cells: what was mended and filled in adds up, a copy stands behind its scroll -/
def gGd (Y : Nat → Int) : Prop := (s_me Y = Y 3 ∧ s_fi Y = Y 4) ∧ ∀ n : Nat, (n : Int) < Y 0 → zb Y n 3 < (n : Int)
theorem c_accounts {E : gE} {σ : gS} (Y : Nat → Int) (h : gSh σ 0 Y) (hY : gY Y) (hg : gGd Y) : gCt E mL_accounts 15 0 [rf 0 0] σ (.inl (some (iv (1)))) σ := by
  refine gCt_of (L := [some (rf 0 0), none, none, none, none, none, none, none, none]) (by decide +kernel) rfl rfl (Nat.le_of_ble_eq_true rfl) (fun X K hE => ?_)
  have hY0 := hY.1
  have e0 := pA_0 hY
  refine x_iconst K dL_accounts_0 ?_
  refine x_istore_1 K dL_accounts_1 rfl ?_
  refine x_iconst K dL_accounts_2 ?_
  refine x_istore_2 K dL_accounts_3 rfl ?_
  refine x_iconst K dL_accounts_4 ?_
  refine x_istore_3 K dL_accounts_5 rfl ?_
  refine x_iconst K dL_accounts_6 ?_
  refine x_istore_4 K dL_accounts_7 rfl ?_
  refine x_iconst K dL_accounts_9 ?_
  refine x_istore_5 K dL_accounts_10 rfl ?_
  refine x_iconst K dL_accounts_12 ?_
  refine x_istore_6 K dL_accounts_13 rfl ?_
  refine x_iconst K dL_accounts_15 ?_
  refine x_istore_7 K dL_accounts_16 rfl ?_
  refine x_iconst K dL_accounts_18 ?_
  refine x_istore_8 K dL_accounts_19 rfl ?_
  refine gLp (P := fun i : Nat => gWX X E 0 0 21 [some (rf 0 0), some (iv (gSum (fun m => s_sr 1 (zb Y m)) i)), some (iv (gSum (fun m => s_sr 2 (zb Y m)) i)), some (iv (gSum (fun m => s_sr 3 (zb Y m)) i)), some (iv (gSum (fun m => s_sr 4 (zb Y m)) i)), some (iv (gSum (fun m => s_sr 5 (zb Y m)) i)), some (iv (gSum (fun m => zb Y m 4) i)), some (iv (gSum (fun m => zb Y m 5) i)), some (iv (i : Int))] [] (σ)) ((Y 0).toNat) (fun k0 => ?_) (fun i hi ih => ?_) ?_
  · exact gWX.to rfl rfl (k0)
  · have hk : (i : Int) < Y 0 := by omega
    have hz := hY.2 i hk
    have z3 := hz.2.2.2.1
    have hg3 := hg.2 i hk
    refine x_iload_8 K dL_accounts_21 ?_
    refine x_aload_0 K dL_accounts_23 ?_
    refine x_iconst K dL_accounts_24 ?_
    refine x_callV1 K (p_account h hY 0 (by omega)) mtX6_account miX6_account rc0 ⟨by decide, by decide⟩ lkRL_150 ⟨by decide, by decide, by decide⟩ rfl (Nat.le_of_ble_eq_true rfl) dL_accounts_25 ?_
    refine gWX.top (b := Y 0) e0 ?_
    refine x_icmp_ge (tgt := 145) K (by omega) dL_accounts_28 (by decide) (fun h28 => absurd h28 (by omega)) (fun h28 => ?_)
    refine x_iload_1 K dL_accounts_31 ?_
    refine x_aload_0 K dL_accounts_32 ?_
    refine x_iload_8 K dL_accounts_33 ?_
    refine x_iconst K dL_accounts_35 ?_
    refine x_callH3 K (p_of h hY 2 hk (by omega)) mtL_of msL_of (g_mem 606 (by decide +kernel)) ⟨by omega, by omega, by omega⟩ rfl (Nat.le_of_ble_eq_true rfl) dL_accounts_36 ?_
    refine x_iadd K dL_accounts_39 ?_
    refine x_istore_1 K dL_accounts_40 rfl ?_
    refine x_iload_2 K dL_accounts_41 ?_
    refine x_aload_0 K dL_accounts_42 ?_
    refine x_iload_8 K dL_accounts_43 ?_
    refine x_iconst K dL_accounts_45 ?_
    refine x_callH3 K (p_of h hY 3 hk (by omega)) mtL_of msL_of (g_mem 606 (by decide +kernel)) ⟨by omega, by omega, by omega⟩ rfl (Nat.le_of_ble_eq_true rfl) dL_accounts_46 ?_
    refine gWX.top (b := zb Y i 3) rfl ?_
    refine gTern (fun kt kf => x_if_ge (tgt := 56) K (by omega) dL_accounts_49 (by decide) kt kf) (fun k => x_iconst K dL_accounts_56 k) (fun k => x_iconst K dL_accounts_52 (x_goto K dL_accounts_53 (by decide) k)) ?_
    refine gWX.top (b := s_sr 2 (zb Y i)) (by show _ = (if zb Y i 3 = -1 then (0 : Int) else 1); split <;> split <;> omega) ?_
    refine x_iadd K dL_accounts_57 ?_
    refine x_istore_2 K dL_accounts_58 rfl ?_
    refine x_iload_3 K dL_accounts_59 ?_
    refine x_aload_0 K dL_accounts_60 ?_
    refine x_iload_8 K dL_accounts_61 ?_
    refine x_iconst K dL_accounts_63 ?_
    refine x_callH3 K (p_of h hY 0 hk (by omega)) mtL_of msL_of (g_mem 606 (by decide +kernel)) ⟨by omega, by omega, by omega⟩ rfl (Nat.le_of_ble_eq_true rfl) dL_accounts_64 ?_
    refine x_aload_0 K dL_accounts_67 ?_
    refine x_iload_8 K dL_accounts_68 ?_
    refine x_iconst K dL_accounts_70 ?_
    refine x_callH3 K (p_of h hY 1 hk (by omega)) mtL_of msL_of (g_mem 606 (by decide +kernel)) ⟨by omega, by omega, by omega⟩ rfl (Nat.le_of_ble_eq_true rfl) dL_accounts_71 ?_
    refine x_imul K dL_accounts_74 ?_
    refine x_iadd K dL_accounts_75 ?_
    refine x_istore_3 K dL_accounts_76 rfl ?_
    refine x_iload_4 K dL_accounts_77 ?_
    refine x_aload_0 K dL_accounts_79 ?_
    refine x_iload_8 K dL_accounts_80 ?_
    refine x_iconst K dL_accounts_82 ?_
    refine x_callH3 K (p_of h hY 4 hk (by omega)) mtL_of msL_of (g_mem 606 (by decide +kernel)) ⟨by omega, by omega, by omega⟩ rfl (Nat.le_of_ble_eq_true rfl) dL_accounts_83 ?_
    refine x_iadd K dL_accounts_86 ?_
    refine x_istore_4 K dL_accounts_87 rfl ?_
    refine x_iload_5 K dL_accounts_89 ?_
    refine x_aload_0 K dL_accounts_91 ?_
    refine x_iload_8 K dL_accounts_92 ?_
    refine x_callH2 K (p_doubts h hY hk) mtL_doubts msL_doubts (g_mem 826 (by decide +kernel)) ⟨by omega, by omega, by omega⟩ rfl (Nat.le_of_ble_eq_true rfl) dL_accounts_94 ?_
    refine x_iadd K dL_accounts_97 ?_
    refine x_istore_5 K dL_accounts_98 rfl ?_
    refine x_iload_6 K dL_accounts_100 ?_
    refine x_aload_0 K dL_accounts_102 ?_
    refine x_iload_8 K dL_accounts_103 ?_
    refine x_iconst K dL_accounts_105 ?_
    refine x_callH3 K (p_of h hY 5 hk (by omega)) mtL_of msL_of (g_mem 606 (by decide +kernel)) ⟨by omega, by omega, by omega⟩ rfl (Nat.le_of_ble_eq_true rfl) dL_accounts_106 ?_
    refine x_iadd K dL_accounts_109 ?_
    refine x_istore_6 K dL_accounts_110 rfl ?_
    refine x_iload_7 K dL_accounts_112 ?_
    refine x_aload_0 K dL_accounts_114 ?_
    refine x_iload_8 K dL_accounts_115 ?_
    refine x_bipush K dL_accounts_117 rfl ?_
    refine x_callH3 K (p_of h hY 6 hk (by omega)) mtL_of msL_of (g_mem 606 (by decide +kernel)) ⟨by omega, by omega, by omega⟩ rfl (Nat.le_of_ble_eq_true rfl) dL_accounts_119 ?_
    refine x_iadd K dL_accounts_122 ?_
    refine x_istore_7 K dL_accounts_123 rfl ?_
    refine x_aload_0 K dL_accounts_125 ?_
    refine x_iload_8 K dL_accounts_126 ?_
    refine x_iconst K dL_accounts_128 ?_
    refine x_callH3 K (p_of h hY 3 hk (by omega)) mtL_of msL_of (g_mem 606 (by decide +kernel)) ⟨by omega, by omega, by omega⟩ rfl (Nat.le_of_ble_eq_true rfl) dL_accounts_129 ?_
    refine gWX.top (b := zb Y i 3) rfl ?_
    refine x_iload_8 K dL_accounts_132 ?_
    refine x_icmp_lt (tgt := 139) K (by omega) dL_accounts_134 (by decide) (fun h134 => ?_) (fun h134 => absurd hg3 h134)
    refine x_iinc_8 K dL_accounts_139 rfl ?_
    refine x_goto (tgt := 21) K dL_accounts_142 (by decide) ?_
    exact gWX.to rfl rfl ih
  · refine x_iload_8 K dL_accounts_21 ?_
    refine x_aload_0 K dL_accounts_23 ?_
    refine x_iconst K dL_accounts_24 ?_
    refine x_callV1 K (p_account h hY 0 (by omega)) mtX6_account miX6_account rc0 ⟨by decide, by decide⟩ lkRL_150 ⟨by decide, by decide, by decide⟩ rfl (Nat.le_of_ble_eq_true rfl) dL_accounts_25 ?_
    refine gWX.top (b := Y 0) e0 ?_
    refine x_icmp_ge (tgt := 145) K (by omega) dL_accounts_28 (by decide) (fun h28 => ?_) (fun h28 => absurd h28 (by omega))
    refine x_aload_0 K dL_accounts_145 ?_
    refine x_iconst K dL_accounts_146 ?_
    refine x_callV1 K (p_account h hY 1 (by omega)) mtX6_account miX6_account rc0 ⟨by decide, by decide⟩ lkRL_150 ⟨by decide, by decide, by decide⟩ rfl (Nat.le_of_ble_eq_true rfl) dL_accounts_147 ?_
    refine x_iload_1 K dL_accounts_150 ?_
    refine x_icmpu_ne (tgt := 225) K dL_accounts_151 (by decide) (fun h151 => absurd (congrArg Int32.ofInt (by exact rfl)) h151) (fun h151 => ?_)
    refine x_aload_0 K dL_accounts_154 ?_
    refine x_iconst K dL_accounts_155 ?_
    refine x_callV1 K (p_account h hY 2 (by omega)) mtX6_account miX6_account rc0 ⟨by decide, by decide⟩ lkRL_150 ⟨by decide, by decide, by decide⟩ rfl (Nat.le_of_ble_eq_true rfl) dL_accounts_156 ?_
    refine x_iload_2 K dL_accounts_159 ?_
    refine x_icmpu_ne (tgt := 225) K dL_accounts_160 (by decide) (fun h160 => absurd (congrArg Int32.ofInt (by exact rfl)) h160) (fun h160 => ?_)
    refine x_aload_0 K dL_accounts_163 ?_
    refine x_iconst K dL_accounts_164 ?_
    refine x_callV1 K (p_account h hY 3 (by omega)) mtX6_account miX6_account rc0 ⟨by decide, by decide⟩ lkRL_150 ⟨by decide, by decide, by decide⟩ rfl (Nat.le_of_ble_eq_true rfl) dL_accounts_165 ?_
    refine x_iload_3 K dL_accounts_168 ?_
    refine x_icmpu_ne (tgt := 225) K dL_accounts_169 (by decide) (fun h169 => absurd (congrArg Int32.ofInt (by exact rfl)) h169) (fun h169 => ?_)
    refine x_aload_0 K dL_accounts_172 ?_
    refine x_iconst K dL_accounts_173 ?_
    refine x_callV1 K (p_account h hY 4 (by omega)) mtX6_account miX6_account rc0 ⟨by decide, by decide⟩ lkRL_150 ⟨by decide, by decide, by decide⟩ rfl (Nat.le_of_ble_eq_true rfl) dL_accounts_174 ?_
    refine x_iload_4 K dL_accounts_177 ?_
    refine x_icmpu_ne (tgt := 225) K dL_accounts_179 (by decide) (fun h179 => absurd (congrArg Int32.ofInt (by exact rfl)) h179) (fun h179 => ?_)
    refine x_aload_0 K dL_accounts_182 ?_
    refine x_iconst K dL_accounts_183 ?_
    refine x_callV1 K (p_account h hY 5 (by omega)) mtX6_account miX6_account rc0 ⟨by decide, by decide⟩ lkRL_150 ⟨by decide, by decide, by decide⟩ rfl (Nat.le_of_ble_eq_true rfl) dL_accounts_184 ?_
    refine x_iload_5 K dL_accounts_187 ?_
    refine x_icmpu_ne (tgt := 225) K dL_accounts_189 (by decide) (fun h189 => absurd (congrArg Int32.ofInt (by exact rfl)) h189) (fun h189 => ?_)
    refine x_aload_0 K dL_accounts_192 ?_
    refine x_bipush K dL_accounts_193 rfl ?_
    refine x_callV1 K (p_account h hY 8 (by omega)) mtX6_account miX6_account rc0 ⟨by decide, by decide⟩ lkRL_150 ⟨by decide, by decide, by decide⟩ rfl (Nat.le_of_ble_eq_true rfl) dL_accounts_195 ?_
    refine x_iload_6 K dL_accounts_198 ?_
    refine x_icmpu_ne (tgt := 225) K dL_accounts_200 (by decide) (fun h200 => absurd (congrArg Int32.ofInt (by exact hg.1.1.symm)) h200) (fun h200 => ?_)
    refine x_aload_0 K dL_accounts_203 ?_
    refine x_bipush K dL_accounts_204 rfl ?_
    refine x_callV1 K (p_account h hY 9 (by omega)) mtX6_account miX6_account rc0 ⟨by decide, by decide⟩ lkRL_150 ⟨by decide, by decide, by decide⟩ rfl (Nat.le_of_ble_eq_true rfl) dL_accounts_206 ?_
    refine x_iload_7 K dL_accounts_209 ?_
    refine x_icmpu_ne (tgt := 225) K dL_accounts_211 (by decide) (fun h211 => absurd (congrArg Int32.ofInt (by exact hg.1.2.symm)) h211) (fun h211 => ?_)
    refine x_aload_0 K dL_accounts_214 ?_
    refine x_callV0 K (c6_isWell Y h hY) mtX6_isWell miX6_isWell rc0 ⟨by decide, by decide⟩ lkRL_272 ⟨by decide, by decide, by decide⟩ rfl (Nat.le_of_ble_eq_true rfl) dL_accounts_215 ?_
    refine gWX.top (b := 1) (gB1_t ⟨congrArg Int32.ofInt hg.1.1, congrArg Int32.ofInt hg.1.2⟩) ?_
    refine x_if_eq (tgt := 225) K (by omega) dL_accounts_218 (by decide) (fun h218 => absurd h218 (by decide)) (fun h218 => ?_)
    refine x_iconst K dL_accounts_221 ?_
    refine x_goto (tgt := 226) K dL_accounts_222 (by decide) ?_
    exact x_zret K hE rfl dL_accounts_226 (by first | decide | omega) (by first | decide | omega) (by omega) rfl rfl
/-- the rank before, the scroll there -/
def pBf (Y : Nat → Int) (i : Nat) : Int := if i = 0 then -1 else pKey Y (s_rk Y ((i - 1 : Nat) : Int)).toNat
def pLa (Y : Nat → Int) (i : Nat) : Int := if i = 0 then -1 else s_rk Y ((i - 1 : Nat) : Int)
theorem pBf_1 (Y : Nat → Int) (i : Nat) {x : Nat} (h : s_rk Y (i : Int) = (x : Int)) : pBf Y (i + 1) = pKey Y x ∧ pLa Y (i + 1) = (x : Int) := by
  unfold pBf pLa
  rw [if_neg (by omega), if_neg (by omega), Nat.add_sub_cancel, h]
  exact ⟨rfl, rfl⟩
theorem pBf_ord {Y : Nat → Int} (hY : gY Y) {i x : Nat} (hi : (i : Int) < Y 0) (h1 : s_rk Y (i : Int) = (x : Int)) (h2 : (x : Int) < Y 0) (h3 : s_ah Y x = (i : Int)) : pBf Y i < pKey Y x ∨ (pBf Y i = pKey Y x ∧ pLa Y i < (x : Int)) := by
  have hb := pKey_bd hY h2
  unfold pBf pLa
  by_cases q : i = 0
  · rw [if_pos q, if_pos q]
    omega
  · rw [if_neg q, if_neg q]
    obtain ⟨y, g1, g2, g3⟩ := rk_at hY (p := i - 1) (by omega)
    rw [g1]
    have := pKey_ord hY g2 h2 (by rw [g3, h3]; omega)
    simp only [Int.toNat_natCast]
    omega
theorem pBf_bd {Y : Nat → Int} (hY : gY Y) {i : Nat} (hi : (i : Int) ≤ Y 0) : (-1 ≤ pBf Y i ∧ pBf Y i ≤ 5000) ∧ -1 ≤ pLa Y i ∧ pLa Y i < 5 := by
  have h0 := hY.1
  unfold pBf pLa
  by_cases q : i = 0
  · rw [if_pos q, if_pos q]
    omega
  · rw [if_neg q, if_neg q]
    obtain ⟨y, g1, g2, g3⟩ := rk_at hY (p := i - 1) (by omega)
    rw [g1]
    have := pKey_bd hY g2
    simp only [Int.toNat_natCast]
    omega
theorem s_di_lin (z y : Nat → Int) (h1 : 0 < (z 1).toNat) : gSum (fun j => if z (20 + (8 * (j / (z 1).toNat) + j % (z 1).toNat)) = y (20 + (8 * (j / (z 1).toNat) + j % (z 1).toNat)) then 0 else 1) ((z 0).toNat * (z 1).toNat) = s_di z y :=
  gSum_lin (fun r c => if z (20 + (8 * r + c)) = y (20 + (8 * r + c)) then 0 else 1) h1 (z 0).toNat
set_option maxHeartbeats 400000 in
theorem c_ranks {E : gE} {σ : gS} (Y : Nat → Int) (h : gSh σ 0 Y) (hY : gY Y) : gCt E mL_ranks 15 40 [rf 0 0] σ (.inl (some (iv (1)))) σ := by
  refine gCt_of (L := [some (rf 0 0), none, none, none, none, none, none, none]) (by decide +kernel) rfl rfl (Nat.le_of_ble_eq_true rfl) (fun X K hE => ?_)
  have hY0 := hY.1
  have e0 := pA_0 hY
  obtain ⟨N, hN⟩ : ∃ N : Nat, Y 0 = (N : Int) := ⟨(Y 0).toNat, by omega⟩
  refine x_iconst K dL_ranks_0 ?_
  refine x_istore_1 K dL_ranks_1 rfl ?_
  refine x_iconst K dL_ranks_2 ?_
  refine x_istore_2 K dL_ranks_3 rfl ?_
  refine x_iconst K dL_ranks_4 ?_
  refine x_istore_3 K dL_ranks_5 rfl ?_
  refine gLp (P := fun i : Nat => gWX X E i (6 * i) 6 [some (rf 0 0), some (iv (pBf Y i)), some (iv (pLa Y i)), some (iv (i : Int)), none, none, none, none] [] (σ)) ((Y 0).toNat) (fun k0 => ?_) (fun i hi ih => ?_) ?_
  · exact gWX.to (by rfl) rfl (k0)
  · have hi2 : (i : Int) < Y 0 := by omega
    obtain ⟨x, g1, g2, g3⟩ := rk_at hY hi2
    have hz := hY.2 x g2
    have z0 := hz.1
    have z1 := hz.2.1
    have kb := pKey_bd hY g2
    have ob := pBf_ord hY hi2 g1 g2 g3
    have bb := pBf_bd hY (i := i) (by omega)
    have eb1 := pBf_1 Y i g1
    have db := s_db_bd hz
    have cb := s_clz_bd hz
    refine x_iload_3 K dL_ranks_6 ?_
    refine x_aload_0 K dL_ranks_7 ?_
    refine x_iconst K dL_ranks_8 ?_
    refine x_callV1 K (p_account h hY 0 (by omega)) mtX6_account miX6_account rc0 ⟨by decide, by decide⟩ lkRL_150 ⟨by omega, by omega, by omega⟩ rfl (Nat.le_of_ble_eq_true rfl) dL_ranks_9 ?_
    refine gWX.top (b := Y 0) e0 ?_
    refine x_icmp_ge (tgt := 98) K (by omega) dL_ranks_12 (by decide) (fun h12 => absurd h12 (by omega)) (fun h12 => ?_)
    refine x_aload_0 K dL_ranks_15 ?_
    refine x_iload_3 K dL_ranks_16 ?_
    refine x_callH2 K (p_ranked h hY (p := i) (by omega)) mtL_ranked msL_ranked (g_mem 1262 (by decide +kernel)) ⟨by omega, by omega, by omega⟩ rfl (Nat.le_of_ble_eq_true rfl) dL_ranks_17 ?_
    refine gWX.top (b := (x : Int)) (by rw [g1, if_neg (by omega)]) ?_
    refine x_istore_4 K dL_ranks_20 rfl ?_
    refine x_iload_4 K dL_ranks_22 ?_
    refine x_if_ge (tgt := 31) K (by omega) dL_ranks_24 (by decide) (fun h24 => ?_) (fun h24 => absurd h24 (by omega))
    refine x_bipush K dL_ranks_31 rfl ?_
    refine x_aload_0 K dL_ranks_33 ?_
    refine x_iload_4 K dL_ranks_34 ?_
    refine x_callH2 K (p_doubts h hY g2) mtL_doubts msL_doubts (g_mem 826 (by decide +kernel)) ⟨by omega, by omega, by omega⟩ rfl (Nat.le_of_ble_eq_true rfl) dL_ranks_36 ?_
    refine x_imul K dL_ranks_39 ?_
    refine x_bipush K dL_ranks_40 rfl ?_
    refine x_iadd K dL_ranks_42 ?_
    refine x_aload_0 K dL_ranks_43 ?_
    refine x_iload_4 K dL_ranks_44 ?_
    refine x_iconst K dL_ranks_46 ?_
    refine x_callH3 K (p_of h hY 0 g2 (by omega)) mtL_of msL_of (g_mem 606 (by decide +kernel)) ⟨by omega, by omega, by omega⟩ rfl (Nat.le_of_ble_eq_true rfl) dL_ranks_47 ?_
    refine gWX.top (b := zb Y x 0) rfl ?_
    refine x_aload_0 K dL_ranks_50 ?_
    refine x_iload_4 K dL_ranks_51 ?_
    refine x_iconst K dL_ranks_53 ?_
    refine x_callH3 K (p_of h hY 1 g2 (by omega)) mtL_of msL_of (g_mem 606 (by decide +kernel)) ⟨by omega, by omega, by omega⟩ rfl (Nat.le_of_ble_eq_true rfl) dL_ranks_54 ?_
    refine gWX.top (b := zb Y x 1) rfl ?_
    refine x_imul K dL_ranks_57 ?_
    refine x_isub K dL_ranks_58 ?_
    refine gWX.top (b := pKey Y x) rfl ?_
    refine x_istore_5 K dL_ranks_59 rfl ?_
    refine x_iload_4 K dL_ranks_61 ?_
    refine x_if_lt (tgt := 84) K (by omega) dL_ranks_63 (by decide) (fun h63 => absurd h63 (by omega)) (fun h63 => ?_)
    refine x_iload_5 K dL_ranks_66 ?_
    refine x_iload_1 K dL_ranks_68 ?_
    refine x_icmp_lt (tgt := 84) K (by omega) dL_ranks_69 (by decide) (fun h69 => absurd h69 (by omega)) (fun h69 => ?_)
    refine x_iload_5 K dL_ranks_72 ?_
    refine x_iload_1 K dL_ranks_74 ?_
    refine x_icmp_ne (tgt := 86) K (by omega) dL_ranks_75 (by decide) (fun h75 => ?_) (fun h75 => ?_)
    · refine x_iload_5 K dL_ranks_86 ?_
      refine x_istore_1 K dL_ranks_88 rfl ?_
      refine x_iload_4 K dL_ranks_89 ?_
      refine x_istore_2 K dL_ranks_91 rfl ?_
      refine x_iinc_3 K dL_ranks_92 rfl ?_
      refine x_goto (tgt := 6) K dL_ranks_95 (by decide) ?_
      exact gWX.fgt 4 (gWX.fgt 5 (gWX.le (by omega) (by omega) (gWX.to (by rw [eb1.1, eb1.2]; rfl) rfl ih)))
    · refine x_iload_4 K dL_ranks_78 ?_
      refine x_iload_2 K dL_ranks_80 ?_
      refine x_icmp_ge (tgt := 86) K (by omega) dL_ranks_81 (by decide) (fun h81 => ?_) (fun h81 => absurd h81 (by omega))
      refine x_iload_5 K dL_ranks_86 ?_
      refine x_istore_1 K dL_ranks_88 rfl ?_
      refine x_iload_4 K dL_ranks_89 ?_
      refine x_istore_2 K dL_ranks_91 rfl ?_
      refine x_iinc_3 K dL_ranks_92 rfl ?_
      refine x_goto (tgt := 6) K dL_ranks_95 (by decide) ?_
      exact gWX.fgt 4 (gWX.fgt 5 (gWX.le (by omega) (by omega) (gWX.to (by rw [eb1.1, eb1.2]; rfl) rfl ih)))
  · refine x_iload_3 K dL_ranks_6 ?_
    refine x_aload_0 K dL_ranks_7 ?_
    refine x_iconst K dL_ranks_8 ?_
    refine x_callV1 K (p_account h hY 0 (by omega)) mtX6_account miX6_account rc0 ⟨by decide, by decide⟩ lkRL_150 ⟨by omega, by omega, by omega⟩ rfl (Nat.le_of_ble_eq_true rfl) dL_ranks_9 ?_
    refine gWX.top (b := Y 0) e0 ?_
    refine x_icmp_ge (tgt := 98) K (by omega) dL_ranks_12 (by decide) (fun h12 => ?_) (fun h12 => absurd h12 (by omega))
    refine x_iconst K dL_ranks_98 ?_
    refine x_istore_3 K dL_ranks_99 rfl ?_
    refine gLp (P := fun k : Nat => gWX X E ((Y 0).toNat + 5 * k) (6 * ((Y 0).toNat + 5 * k)) 100 [some (rf 0 0), some (iv (pBf Y (Y 0).toNat)), some (iv (pLa Y (Y 0).toNat)), some (iv (k : Int)), none, none, none, none] [] (σ)) ((Y 0).toNat) (fun k0 => ?_) (fun k hk ih => ?_) ?_
    · exact gWX.to rfl rfl (k0)
    · have hk : (k : Int) < Y 0 := by omega
      have hzk := hY.2 k hk
      have k0 := hzk.1
      have k1 := hzk.2.1
      have kcl := s_clz_bd hzk
      refine x_iload_3 K dL_ranks_100 ?_
      refine x_aload_0 K dL_ranks_101 ?_
      refine x_iconst K dL_ranks_102 ?_
      refine x_callV1 K (p_account h hY 0 (by omega)) mtX6_account miX6_account rc0 ⟨by decide, by decide⟩ lkRL_150 ⟨by omega, by omega, by omega⟩ rfl (Nat.le_of_ble_eq_true rfl) dL_ranks_103 ?_
      refine gWX.top (b := Y 0) e0 ?_
      refine x_icmp_ge (tgt := 292) K (by omega) dL_ranks_106 (by decide) (fun h106 => absurd h106 (by omega)) (fun h106 => ?_)
      refine x_iconst K dL_ranks_109 ?_
      refine x_istore_4 K dL_ranks_110 rfl ?_
      refine gLp (P := fun n : Nat => gWX X E ((Y 0).toNat + 5 * k + n) (6 * ((Y 0).toNat + 5 * k + n)) 112 [some (rf 0 0), some (iv (pBf Y (Y 0).toNat)), some (iv (pLa Y (Y 0).toNat)), some (iv (k : Int)), some (iv (n : Int)), none, none, none] [] (σ)) ((Y 0).toNat) (fun k0 => ?_) (fun n hn ih => ?_) ?_
      · exact gWX.to rfl rfl (k0)
      · have hn : (n : Int) < Y 0 := by omega
        have hzn := hY.2 n hn
        have n0 := hzn.1
        have n1 := hzn.2.1
        refine x_iload_4 K dL_ranks_112 ?_
        refine x_aload_0 K dL_ranks_114 ?_
        refine x_iconst K dL_ranks_115 ?_
        refine x_callV1 K (p_account h hY 0 (by omega)) mtX6_account miX6_account rc0 ⟨by decide, by decide⟩ lkRL_150 ⟨by omega, by omega, by omega⟩ rfl (Nat.le_of_ble_eq_true rfl) dL_ranks_116 ?_
        refine gWX.top (b := Y 0) e0 ?_
        refine x_icmp_ge (tgt := 286) K (by omega) dL_ranks_119 (by decide) (fun h119 => absurd h119 (by omega)) (fun h119 => ?_)
        refine x_aload_0 K dL_ranks_122 ?_
        refine x_iload_3 K dL_ranks_123 ?_
        refine x_iconst K dL_ranks_124 ?_
        refine x_callH3 K (p_of h hY 0 hk (by omega)) mtL_of msL_of (g_mem 606 (by decide +kernel)) ⟨by omega, by omega, by omega⟩ rfl (Nat.le_of_ble_eq_true rfl) dL_ranks_125 ?_
        refine gWX.top (b := zb Y k 0) rfl ?_
        refine x_aload_0 K dL_ranks_128 ?_
        refine x_iload_4 K dL_ranks_129 ?_
        refine x_iconst K dL_ranks_131 ?_
        refine x_callH3 K (p_of h hY 0 hn (by omega)) mtL_of msL_of (g_mem 606 (by decide +kernel)) ⟨by omega, by omega, by omega⟩ rfl (Nat.le_of_ble_eq_true rfl) dL_ranks_132 ?_
        refine gWX.top (b := zb Y n 0) rfl ?_
        refine x_icmp_ne (tgt := 158) K (by omega) dL_ranks_135 (by decide) (fun h135 => ?_) (fun h135 => ?_)
        · refine x_iconst K dL_ranks_158 ?_
          refine x_istore_5 K dL_ranks_159 rfl ?_
          refine x_iload_5 K dL_ranks_161 ?_
          refine x_if_eq (tgt := 170) K (by omega) dL_ranks_163 (by decide) (fun h163 => ?_) (fun h163 => absurd rfl h163)
          refine x_bipush K dL_ranks_170 rfl ?_
          refine x_istore_6 K dL_ranks_172 rfl ?_
          refine x_iconst K dL_ranks_174 ?_
          refine x_istore_7 K dL_ranks_175 rfl ?_
          refine x_iload_5 K dL_ranks_177 ?_
          refine x_if_eq (tgt := 266) K (by omega) dL_ranks_179 (by decide) (fun h179 => ?_) (fun h179 => absurd rfl h179)
          refine x_aload_0 K dL_ranks_266 ?_
          refine x_iload_3 K dL_ranks_267 ?_
          refine x_iload_4 K dL_ranks_268 ?_
          refine x_callH3 K (p_differ h hY hk hn) mtL_differ msL_differ (g_mem 1279 (by decide +kernel)) ⟨by omega, by omega, by omega⟩ rfl (Nat.le_of_ble_eq_true rfl) dL_ranks_270 ?_
          refine gWX.top (b := -12) (if_neg (fun q => h135 q.1)) ?_
          refine x_iload_6 K dL_ranks_273 ?_
          refine x_icmp_eq (tgt := 280) K (by omega) dL_ranks_275 (by decide) (fun h275 => ?_) (fun h275 => absurd rfl h275)
          refine x_iinc_4 K dL_ranks_280 rfl ?_
          refine x_goto (tgt := 112) K dL_ranks_283 (by decide) ?_
          exact gWX.fgt 5 (gWX.fgt 6 (gWX.fgt 7 (gWX.le (by omega) (by omega) (gWX.to rfl rfl ih))))
        · refine x_aload_0 K dL_ranks_138 ?_
          refine x_iload_3 K dL_ranks_139 ?_
          refine x_iconst K dL_ranks_140 ?_
          refine x_callH3 K (p_of h hY 1 hk (by omega)) mtL_of msL_of (g_mem 606 (by decide +kernel)) ⟨by omega, by omega, by omega⟩ rfl (Nat.le_of_ble_eq_true rfl) dL_ranks_141 ?_
          refine gWX.top (b := zb Y k 1) rfl ?_
          refine x_aload_0 K dL_ranks_144 ?_
          refine x_iload_4 K dL_ranks_145 ?_
          refine x_iconst K dL_ranks_147 ?_
          refine x_callH3 K (p_of h hY 1 hn (by omega)) mtL_of msL_of (g_mem 606 (by decide +kernel)) ⟨by omega, by omega, by omega⟩ rfl (Nat.le_of_ble_eq_true rfl) dL_ranks_148 ?_
          refine gWX.top (b := zb Y n 1) rfl ?_
          refine x_icmp_ne (tgt := 158) K (by omega) dL_ranks_151 (by decide) (fun h151 => ?_) (fun h151 => ?_)
          · refine x_iconst K dL_ranks_158 ?_
            refine x_istore_5 K dL_ranks_159 rfl ?_
            refine x_iload_5 K dL_ranks_161 ?_
            refine x_if_eq (tgt := 170) K (by omega) dL_ranks_163 (by decide) (fun h163 => ?_) (fun h163 => absurd rfl h163)
            refine x_bipush K dL_ranks_170 rfl ?_
            refine x_istore_6 K dL_ranks_172 rfl ?_
            refine x_iconst K dL_ranks_174 ?_
            refine x_istore_7 K dL_ranks_175 rfl ?_
            refine x_iload_5 K dL_ranks_177 ?_
            refine x_if_eq (tgt := 266) K (by omega) dL_ranks_179 (by decide) (fun h179 => ?_) (fun h179 => absurd rfl h179)
            refine x_aload_0 K dL_ranks_266 ?_
            refine x_iload_3 K dL_ranks_267 ?_
            refine x_iload_4 K dL_ranks_268 ?_
            refine x_callH3 K (p_differ h hY hk hn) mtL_differ msL_differ (g_mem 1279 (by decide +kernel)) ⟨by omega, by omega, by omega⟩ rfl (Nat.le_of_ble_eq_true rfl) dL_ranks_270 ?_
            refine gWX.top (b := -12) (if_neg (fun q => h151 q.2)) ?_
            refine x_iload_6 K dL_ranks_273 ?_
            refine x_icmp_eq (tgt := 280) K (by omega) dL_ranks_275 (by decide) (fun h275 => ?_) (fun h275 => absurd rfl h275)
            refine x_iinc_4 K dL_ranks_280 rfl ?_
            refine x_goto (tgt := 112) K dL_ranks_283 (by decide) ?_
            exact gWX.fgt 5 (gWX.fgt 6 (gWX.fgt 7 (gWX.le (by omega) (by omega) (gWX.to rfl rfl ih))))
          · have al : zb Y k 0 = zb Y n 0 ∧ zb Y k 1 = zb Y n 1 := ⟨by omega, by omega⟩
            have hC : 0 < (zb Y k 1).toNat := by omega
            have eC : zb Y k 1 = (((zb Y k 1).toNat : Nat) : Int) := by omega
            have eRC : zb Y k 0 * zb Y k 1 = (((zb Y k 0).toNat * (zb Y k 1).toNat : Nat) : Int) := by
              rw [Int.natCast_mul]
              congr 1 <;> omega
            have dib := s_di_lin (zb Y k) (zb Y n) hC
            have dbd := gSum_bd (f := (fun j => if zb Y k (20 + (8 * (j / (zb Y k 1).toNat) + j % (zb Y k 1).toNat)) = zb Y n (20 + (8 * (j / (zb Y k 1).toNat) + j % (zb Y k 1).toNat)) then 0 else 1)) (c := 1) ((zb Y k 0).toNat * (zb Y k 1).toNat) (fun q _ => by (try dsimp only); split <;> omega)
            refine x_iconst K dL_ranks_154 ?_
            refine x_goto (tgt := 159) K dL_ranks_155 (by decide) ?_
            refine x_istore_5 K dL_ranks_159 rfl ?_
            refine x_iload_5 K dL_ranks_161 ?_
            refine x_if_eq (tgt := 170) K (by omega) dL_ranks_163 (by decide) (fun h163 => absurd h163 (by omega)) (fun h163 => ?_)
            refine x_iconst K dL_ranks_166 ?_
            refine x_goto (tgt := 172) K dL_ranks_167 (by decide) ?_
            refine x_istore_6 K dL_ranks_172 rfl ?_
            refine x_iconst K dL_ranks_174 ?_
            refine x_istore_7 K dL_ranks_175 rfl ?_
            refine gLp (P := fun j : Nat => gWX X E ((Y 0).toNat + 5 * k + n) (6 * ((Y 0).toNat + 5 * k + n)) 177 [some (rf 0 0), some (iv (pBf Y (Y 0).toNat)), some (iv (pLa Y (Y 0).toNat)), some (iv (k : Int)), some (iv (n : Int)), some (iv 1), some (iv (gSum (fun j => if zb Y k (20 + (8 * (j / (zb Y k 1).toNat) + j % (zb Y k 1).toNat)) = zb Y n (20 + (8 * (j / (zb Y k 1).toNat) + j % (zb Y k 1).toNat)) then 0 else 1) j)), some (iv (j : Int))] [] (σ)) ((zb Y k 0).toNat * (zb Y k 1).toNat) (fun k0 => ?_) (fun j hj ih => ?_) ?_
            · exact gWX.to rfl rfl (k0)
            · have hj2 : (j : Int) < zb Y k 0 * zb Y k 1 := by
                rw [eRC]
                exact Int.ofNat_lt.mpr hj
              have jd : j / (zb Y k 1).toNat < (zb Y k 0).toNat := (Nat.div_lt_iff_lt_mul hC).mpr hj
              have jm : j % (zb Y k 1).toNat < (zb Y k 1).toNat := Nat.mod_lt j hC
              have jdi : (j : Int) / zb Y k 1 = ((j / (zb Y k 1).toNat : Nat) : Int) := by rw [eC]; exact (Int.natCast_ediv j (zb Y k 1).toNat).symm
              have jmi : (j : Int) % zb Y k 1 = ((j % (zb Y k 1).toNat : Nat) : Int) := by rw [eC]; exact (Int.natCast_emod j (zb Y k 1).toNat).symm
              have sbk := hzk.2.2.2.2.2.1 (8 * (j / (zb Y k 1).toNat) + j % (zb Y k 1).toNat) (by omega)
              have sbn := hzn.2.2.2.2.2.1 (8 * (j / (zb Y k 1).toNat) + j % (zb Y k 1).toNat) (by omega)
              have gb := gSum_bd (f := (fun j => if zb Y k (20 + (8 * (j / (zb Y k 1).toNat) + j % (zb Y k 1).toNat)) = zb Y n (20 + (8 * (j / (zb Y k 1).toNat) + j % (zb Y k 1).toNat)) then 0 else 1)) (c := 1) j (fun q _ => by (try dsimp only); split <;> omega)
              refine x_iload_5 K dL_ranks_177 ?_
              refine x_if_eq (tgt := 266) K (by omega) dL_ranks_179 (by decide) (fun h179 => absurd h179 (by omega)) (fun h179 => ?_)
              refine x_iload_7 K dL_ranks_182 ?_
              refine x_aload_0 K dL_ranks_184 ?_
              refine x_iload_3 K dL_ranks_185 ?_
              refine x_iconst K dL_ranks_186 ?_
              refine x_callH3 K (p_of h hY 0 hk (by omega)) mtL_of msL_of (g_mem 606 (by decide +kernel)) ⟨by omega, by omega, by omega⟩ rfl (Nat.le_of_ble_eq_true rfl) dL_ranks_187 ?_
              refine gWX.top (b := zb Y k 0) rfl ?_
              refine x_aload_0 K dL_ranks_190 ?_
              refine x_iload_3 K dL_ranks_191 ?_
              refine x_iconst K dL_ranks_192 ?_
              refine x_callH3 K (p_of h hY 1 hk (by omega)) mtL_of msL_of (g_mem 606 (by decide +kernel)) ⟨by omega, by omega, by omega⟩ rfl (Nat.le_of_ble_eq_true rfl) dL_ranks_193 ?_
              refine gWX.top (b := zb Y k 1) rfl ?_
              refine x_imul K dL_ranks_196 ?_
              refine x_icmp_ge (tgt := 266) K (by omega) dL_ranks_197 (by decide) (fun h197 => absurd h197 (by omega)) (fun h197 => ?_)
              refine x_iload_6 K dL_ranks_200 ?_
              refine x_aload_0 K dL_ranks_202 ?_
              refine x_iload_3 K dL_ranks_203 ?_
              refine x_iload_7 K dL_ranks_204 ?_
              refine x_aload_0 K dL_ranks_206 ?_
              refine x_iload_3 K dL_ranks_207 ?_
              refine x_iconst K dL_ranks_208 ?_
              refine x_callH3s K (p_of h hY 1 hk (by omega)) mtL_of msL_of (g_mem 606 (by decide +kernel)) ⟨by omega, by omega, by omega⟩ rfl (Nat.le_of_ble_eq_true rfl) dL_ranks_209 ?_
              refine gWX.top (b := zb Y k 1) rfl ?_
              refine x_idiv K (by omega) dL_ranks_212 ?_
              refine gWX.top (b := ((j / (zb Y k 1).toNat : Nat) : Int)) jdi ?_
              refine x_iload_7 K dL_ranks_213 ?_
              refine x_aload_0 K dL_ranks_215 ?_
              refine x_iload_3 K dL_ranks_216 ?_
              refine x_iconst K dL_ranks_217 ?_
              refine x_callH3s K (p_of h hY 1 hk (by omega)) mtL_of msL_of (g_mem 606 (by decide +kernel)) ⟨by omega, by omega, by omega⟩ rfl (Nat.le_of_ble_eq_true rfl) dL_ranks_218 ?_
              refine gWX.top (b := zb Y k 1) rfl ?_
              refine x_irem K (by omega) dL_ranks_221 ?_
              refine gWX.top (b := ((j % (zb Y k 1).toNat : Nat) : Int)) jmi ?_
              refine x_callH4 K (p_sign h hY hk (by omega) (by omega)) mtL_sign msL_sign (g_mem 717 (by decide +kernel)) ⟨by omega, by omega, by omega⟩ rfl (Nat.le_of_ble_eq_true rfl) dL_ranks_222 ?_
              refine x_aload_0 K dL_ranks_225 ?_
              refine x_iload_4 K dL_ranks_226 ?_
              refine x_iload_7 K dL_ranks_228 ?_
              refine x_aload_0 K dL_ranks_230 ?_
              refine x_iload_3 K dL_ranks_231 ?_
              refine x_iconst K dL_ranks_232 ?_
              refine x_callH3s K (p_of h hY 1 hk (by omega)) mtL_of msL_of (g_mem 606 (by decide +kernel)) ⟨by omega, by omega, by omega⟩ rfl (Nat.le_of_ble_eq_true rfl) dL_ranks_233 ?_
              refine gWX.top (b := zb Y k 1) rfl ?_
              refine x_idiv K (by omega) dL_ranks_236 ?_
              refine gWX.top (b := ((j / (zb Y k 1).toNat : Nat) : Int)) jdi ?_
              refine x_iload_7 K dL_ranks_237 ?_
              refine x_aload_0 K dL_ranks_239 ?_
              refine x_iload_3 K dL_ranks_240 ?_
              refine x_iconst K dL_ranks_241 ?_
              refine x_callH3s K (p_of h hY 1 hk (by omega)) mtL_of msL_of (g_mem 606 (by decide +kernel)) ⟨by omega, by omega, by omega⟩ rfl (Nat.le_of_ble_eq_true rfl) dL_ranks_242 ?_
              refine gWX.top (b := zb Y k 1) rfl ?_
              refine x_irem K (by omega) dL_ranks_245 ?_
              refine gWX.top (b := ((j % (zb Y k 1).toNat : Nat) : Int)) jmi ?_
              refine x_callH4 K (p_sign h hY hn (by omega) (by omega)) mtL_sign msL_sign (g_mem 717 (by decide +kernel)) ⟨by omega, by omega, by omega⟩ rfl (Nat.le_of_ble_eq_true rfl) dL_ranks_246 ?_
              refine gTern (fun kt kf => x_icmp_eq (tgt := 256) K (by omega) dL_ranks_249 (by decide) kt kf) (fun k => x_iconst K dL_ranks_256 k) (fun k => x_iconst K dL_ranks_252 (x_goto K dL_ranks_253 (by decide) k)) ?_
              refine x_iadd K dL_ranks_257 ?_
              refine x_istore_6 K dL_ranks_258 rfl ?_
              refine x_iinc_7 K dL_ranks_260 rfl ?_
              refine x_goto (tgt := 177) K dL_ranks_263 (by decide) ?_
              exact gWX.to rfl rfl ih
            · refine x_iload_5 K dL_ranks_177 ?_
              refine x_if_eq (tgt := 266) K (by omega) dL_ranks_179 (by decide) (fun h179 => absurd h179 (by omega)) (fun h179 => ?_)
              refine x_iload_7 K dL_ranks_182 ?_
              refine x_aload_0 K dL_ranks_184 ?_
              refine x_iload_3 K dL_ranks_185 ?_
              refine x_iconst K dL_ranks_186 ?_
              refine x_callH3 K (p_of h hY 0 hk (by omega)) mtL_of msL_of (g_mem 606 (by decide +kernel)) ⟨by omega, by omega, by omega⟩ rfl (Nat.le_of_ble_eq_true rfl) dL_ranks_187 ?_
              refine gWX.top (b := zb Y k 0) rfl ?_
              refine x_aload_0 K dL_ranks_190 ?_
              refine x_iload_3 K dL_ranks_191 ?_
              refine x_iconst K dL_ranks_192 ?_
              refine x_callH3 K (p_of h hY 1 hk (by omega)) mtL_of msL_of (g_mem 606 (by decide +kernel)) ⟨by omega, by omega, by omega⟩ rfl (Nat.le_of_ble_eq_true rfl) dL_ranks_193 ?_
              refine gWX.top (b := zb Y k 1) rfl ?_
              refine x_imul K dL_ranks_196 ?_
              refine x_icmp_ge (tgt := 266) K (by omega) dL_ranks_197 (by decide) (fun h197 => ?_) (fun h197 => absurd h197 (by omega))
              refine x_aload_0 K dL_ranks_266 ?_
              refine x_iload_3 K dL_ranks_267 ?_
              refine x_iload_4 K dL_ranks_268 ?_
              refine x_callH3 K (p_differ h hY hk hn) mtL_differ msL_differ (g_mem 1279 (by decide +kernel)) ⟨by omega, by omega, by omega⟩ rfl (Nat.le_of_ble_eq_true rfl) dL_ranks_270 ?_
              refine gWX.top (b := s_di (zb Y k) (zb Y n)) (if_pos al) ?_
              refine x_iload_6 K dL_ranks_273 ?_
              refine x_icmp_eq (tgt := 280) K (by omega) dL_ranks_275 (by decide) (fun h275 => ?_) (fun h275 => absurd dib.symm h275)
              refine x_iinc_4 K dL_ranks_280 rfl ?_
              refine x_goto (tgt := 112) K dL_ranks_283 (by decide) ?_
              exact gWX.fgt 5 (gWX.fgt 6 (gWX.fgt 7 (gWX.le (by omega) (by omega) (gWX.to rfl rfl ih))))
      · refine x_iload_4 K dL_ranks_112 ?_
        refine x_aload_0 K dL_ranks_114 ?_
        refine x_iconst K dL_ranks_115 ?_
        refine x_callV1 K (p_account h hY 0 (by omega)) mtX6_account miX6_account rc0 ⟨by decide, by decide⟩ lkRL_150 ⟨by omega, by omega, by omega⟩ rfl (Nat.le_of_ble_eq_true rfl) dL_ranks_116 ?_
        refine gWX.top (b := Y 0) e0 ?_
        refine x_icmp_ge (tgt := 286) K (by omega) dL_ranks_119 (by decide) (fun h119 => ?_) (fun h119 => absurd h119 (by omega))
        refine x_iinc_3 K dL_ranks_286 rfl ?_
        refine x_goto (tgt := 100) K dL_ranks_289 (by decide) ?_
        exact gWX.fgt 4 (gWX.le (by omega) (by omega) (gWX.to rfl rfl ih))
    · refine x_iload_3 K dL_ranks_100 ?_
      refine x_aload_0 K dL_ranks_101 ?_
      refine x_iconst K dL_ranks_102 ?_
      refine x_callV1 K (p_account h hY 0 (by omega)) mtX6_account miX6_account rc0 ⟨by decide, by decide⟩ lkRL_150 ⟨by omega, by omega, by omega⟩ rfl (Nat.le_of_ble_eq_true rfl) dL_ranks_103 ?_
      refine gWX.top (b := Y 0) e0 ?_
      refine x_icmp_ge (tgt := 292) K (by omega) dL_ranks_106 (by decide) (fun h106 => ?_) (fun h106 => absurd h106 (by omega))
      refine x_aload_0 K dL_ranks_292 ?_
      refine x_aload_0 K dL_ranks_293 ?_
      refine x_iconst K dL_ranks_294 ?_
      refine x_callV1 K (p_account h hY 0 (by omega)) mtX6_account miX6_account rc0 ⟨by decide, by decide⟩ lkRL_150 ⟨by omega, by omega, by omega⟩ rfl (Nat.le_of_ble_eq_true rfl) dL_ranks_295 ?_
      refine gWX.top (b := (N : Int)) (e0.trans hN) ?_
      refine x_callH2 K (p_ranked h hY (p := N) (by omega)) mtL_ranked msL_ranked (g_mem 1262 (by decide +kernel)) ⟨by omega, by omega, by omega⟩ rfl (Nat.le_of_ble_eq_true rfl) dL_ranks_298 ?_
      refine gWX.top (b := -13) (if_pos (by have := rk_end hY; rw [hN] at this; exact this)) ?_
      refine x_bipush K dL_ranks_301 rfl ?_
      refine x_icmp_ne (tgt := 310) K (by omega) dL_ranks_303 (by decide) (fun h303 => absurd rfl h303) (fun h303 => ?_)
      refine x_iconst K dL_ranks_306 ?_
      refine x_goto (tgt := 311) K dL_ranks_307 (by decide) ?_
      exact x_zret K hE rfl dL_ranks_311 (by first | decide | omega) (by first | decide | omega) (by omega) rfl rfl
/-- the sum of all that is told -/
def pS1 (v c : Int64) (f : Nat → Int) : Nat → Int64
  | 0 => v
  | n + 1 => c * pS1 v c f n + lv (f n)
def pS2 (z : Nat → Int) (v : Int64) : Nat → Int64
  | 0 => v
  | r + 1 => pS1 (41 * pS2 z v r + lv (pT z r)) 43 (fun c => z (20 + (8 * r + c))) (z 1).toNat
def pS3 (z : Nat → Int) (v : Int64) : Int64 := pS1 (pS2 z (pS1 v 37 (s_of z) 7) (z 0).toNat) 47 (fun c => pT z (6 + c)) (z 1).toNat
def pS4 (Y : Nat → Int) (v : Int64) : Nat → Int64
  | 0 => v
  | k + 1 => pS3 (zb Y k) (pS4 Y v k)
def pSum (Y : Nat → Int) : Int64 := pS4 Y (pS1 7 31 (pA Y) 10) (Y 0).toNat
set_option maxHeartbeats 400000 in
theorem c_sum {E : gE} {σ : gS} (Y : Nat → Int) (h : gSh σ 0 Y) (hY : gY Y) : gCt E mL_sum 15 80 [rf 0 0] σ (.inl (some (.inl (.long (pSum Y))))) σ := by
  refine gCt_of (L := [some (rf 0 0), none, none, none, none, none]) (by decide +kernel) rfl rfl (Nat.le_of_ble_eq_true rfl) (fun X K hE => ?_)
  have hY0 := hY.1
  have e0 := pA_0 hY
  refine x_ldc2 K (v := 7) rfl (g_mem 1297 (by decide +kernel)) dL_sum_0 ?_
  refine x_lstore_1 K dL_sum_3 rfl ?_
  refine x_iconst K dL_sum_4 ?_
  refine x_istore_3 K dL_sum_5 rfl ?_
  refine gLp (P := fun i : Nat => gWX X E 0 0 6 [some (rf 0 0), some (.inl (.long (pS1 7 31 (pA Y) i))), none, some (iv (i : Int)), none, none] [] (σ)) (10) (fun k0 => ?_) (fun i hi ih => ?_) ?_
  · exact gWX.to rfl rfl (k0)
  · refine x_iload_3 K dL_sum_6 ?_
    refine x_bipush K dL_sum_7 rfl ?_
    refine x_icmp_ge (tgt := 31) K (by omega) dL_sum_9 (by decide) (fun h9 => absurd h9 (by omega)) (fun h9 => ?_)
    refine x_ldc2 K (v := 31) rfl (g_mem 1298 (by decide +kernel)) dL_sum_12 ?_
    refine x_lload_1 K dL_sum_15 ?_
    refine x_lmul K dL_sum_16 ?_
    refine x_aload_0 K dL_sum_17 ?_
    refine x_iload_3 K dL_sum_18 ?_
    refine x_callV1 K (p_account h hY i (by omega)) mtX6_account miX6_account rc0 ⟨by decide, by decide⟩ lkRL_150 ⟨by decide, by decide, by decide⟩ rfl (Nat.le_of_ble_eq_true rfl) dL_sum_19 ?_
    refine x_i2l K dL_sum_22 ?_
    refine x_ladd K dL_sum_23 ?_
    refine x_lstore_1 K dL_sum_24 rfl ?_
    refine x_iinc_3 K dL_sum_25 rfl ?_
    refine x_goto (tgt := 6) K dL_sum_28 (by decide) ?_
    exact gWX.to rfl rfl (ih)
  · refine x_iload_3 K dL_sum_6 ?_
    refine x_bipush K dL_sum_7 rfl ?_
    refine x_icmp_ge (tgt := 31) K (by omega) dL_sum_9 (by decide) (fun h9 => ?_) (fun h9 => absurd h9 (by omega))
    refine x_iconst K dL_sum_31 ?_
    refine x_istore_3 K dL_sum_32 rfl ?_
    refine gLp (P := fun k : Nat => gWX X E (14 * k) (6 * (14 * k)) 33 [some (rf 0 0), some (.inl (.long (pS4 Y (pS1 7 31 (pA Y) 10) k))), none, some (iv (k : Int)), none, none] [] (σ)) ((Y 0).toNat) (fun k0 => ?_) (fun k hk ih => ?_) ?_
    · exact gWX.to rfl rfl (k0)
    · have hk : (k : Int) < Y 0 := by omega
      have hz := hY.2 k hk
      have z0 := hz.1
      have z1 := hz.2.1
      refine x_iload_3 K dL_sum_33 ?_
      refine x_aload_0 K dL_sum_34 ?_
      refine x_iconst K dL_sum_35 ?_
      refine x_callV1 K (p_account h hY 0 (by omega)) mtX6_account miX6_account rc0 ⟨by decide, by decide⟩ lkRL_150 ⟨by omega, by omega, by omega⟩ rfl (Nat.le_of_ble_eq_true rfl) dL_sum_36 ?_
      refine gWX.top (b := Y 0) e0 ?_
      refine x_icmp_ge (tgt := 186) K (by omega) dL_sum_39 (by decide) (fun h39 => absurd h39 (by omega)) (fun h39 => ?_)
      refine x_iconst K dL_sum_42 ?_
      refine x_istore_4 K dL_sum_43 rfl ?_
      refine gLp (P := fun j : Nat => gWX X E (14 * k) (6 * (14 * k)) 45 [some (rf 0 0), some (.inl (.long (pS1 (pS4 Y (pS1 7 31 (pA Y) 10) k) 37 (s_of (zb Y k)) j))), none, some (iv (k : Int)), some (iv (j : Int)), none] [] (σ)) (7) (fun k0 => ?_) (fun j hj ih => ?_) ?_
      · exact gWX.to rfl rfl (k0)
      · refine x_iload_4 K dL_sum_45 ?_
        refine x_bipush K dL_sum_47 rfl ?_
        refine x_icmp_ge (tgt := 73) K (by omega) dL_sum_49 (by decide) (fun h49 => absurd h49 (by omega)) (fun h49 => ?_)
        refine x_ldc2 K (v := 37) rfl (g_mem 1299 (by decide +kernel)) dL_sum_52 ?_
        refine x_lload_1 K dL_sum_55 ?_
        refine x_lmul K dL_sum_56 ?_
        refine x_aload_0 K dL_sum_57 ?_
        refine x_iload_3 K dL_sum_58 ?_
        refine x_iload_4 K dL_sum_59 ?_
        refine x_callH3 K (p_of h hY j hk (by omega)) mtL_of msL_of (g_mem 606 (by decide +kernel)) ⟨by omega, by omega, by omega⟩ rfl (Nat.le_of_ble_eq_true rfl) dL_sum_61 ?_
        refine x_i2l K dL_sum_64 ?_
        refine x_ladd K dL_sum_65 ?_
        refine x_lstore_1 K dL_sum_66 rfl ?_
        refine x_iinc_4 K dL_sum_67 rfl ?_
        refine x_goto (tgt := 45) K dL_sum_70 (by decide) ?_
        exact gWX.to rfl rfl (ih)
      · refine x_iload_4 K dL_sum_45 ?_
        refine x_bipush K dL_sum_47 rfl ?_
        refine x_icmp_ge (tgt := 73) K (by omega) dL_sum_49 (by decide) (fun h49 => ?_) (fun h49 => absurd h49 (by omega))
        refine x_iconst K dL_sum_73 ?_
        refine x_istore_4 K dL_sum_74 rfl ?_
        refine gLp (P := fun r : Nat => gWX X E (14 * k + r) (6 * (14 * k + r)) 76 [some (rf 0 0), some (.inl (.long (pS2 (zb Y k) (pS1 (pS4 Y (pS1 7 31 (pA Y) 10) k) 37 (s_of (zb Y k)) 7) r))), none, some (iv (k : Int)), some (iv (r : Int)), none] [] (σ)) ((zb Y k 0).toNat) (fun k0 => ?_) (fun r hr ih => ?_) ?_
        · exact gWX.to rfl rfl (k0)
        · have hr : (r : Int) < zb Y k 0 := by omega
          refine x_iload_4 K dL_sum_76 ?_
          refine x_aload_0 K dL_sum_78 ?_
          refine x_iload_3 K dL_sum_79 ?_
          refine x_iconst K dL_sum_80 ?_
          refine x_callH3 K (p_of h hY 0 hk (by omega)) mtL_of msL_of (g_mem 606 (by decide +kernel)) ⟨by omega, by omega, by omega⟩ rfl (Nat.le_of_ble_eq_true rfl) dL_sum_81 ?_
          refine gWX.top (b := zb Y k 0) rfl ?_
          refine x_icmp_ge (tgt := 145) K (by omega) dL_sum_84 (by decide) (fun h84 => absurd h84 (by omega)) (fun h84 => ?_)
          refine x_ldc2 K (v := 41) rfl (g_mem 1300 (by decide +kernel)) dL_sum_87 ?_
          refine x_lload_1 K dL_sum_90 ?_
          refine x_lmul K dL_sum_91 ?_
          refine x_aload_0 K dL_sum_92 ?_
          refine x_iload_3 K dL_sum_93 ?_
          refine x_iload_4 K dL_sum_94 ?_
          refine x_callH3 K (p_rowSum h hY hk hr) mtL_rowSum msL_rowSum (g_mem 693 (by decide +kernel)) ⟨by omega, by omega, by omega⟩ rfl (Nat.le_of_ble_eq_true rfl) dL_sum_96 ?_
          refine x_i2l K dL_sum_99 ?_
          refine x_ladd K dL_sum_100 ?_
          refine x_lstore_1 K dL_sum_101 rfl ?_
          refine x_iconst K dL_sum_102 ?_
          refine x_istore_5 K dL_sum_103 rfl ?_
          refine gLp (P := fun c : Nat => gWX X E (14 * k + r + 1) (6 * (14 * k + r + 1)) 105 [some (rf 0 0), some (.inl (.long (pS1 (41 * pS2 (zb Y k) (pS1 (pS4 Y (pS1 7 31 (pA Y) 10) k) 37 (s_of (zb Y k)) 7) r + lv (pT (zb Y k) r)) 43 (fun c => zb Y k (20 + (8 * r + c))) c))), none, some (iv (k : Int)), some (iv (r : Int)), some (iv (c : Int))] [] (σ)) ((zb Y k 1).toNat) (fun k0 => ?_) (fun c hc ih => ?_) ?_
          · exact gWX.to rfl rfl (k0)
          · have hc : (c : Int) < zb Y k 1 := by omega
            refine x_iload_5 K dL_sum_105 ?_
            refine x_aload_0 K dL_sum_107 ?_
            refine x_iload_3 K dL_sum_108 ?_
            refine x_iconst K dL_sum_109 ?_
            refine x_callH3 K (p_of h hY 1 hk (by omega)) mtL_of msL_of (g_mem 606 (by decide +kernel)) ⟨by omega, by omega, by omega⟩ rfl (Nat.le_of_ble_eq_true rfl) dL_sum_110 ?_
            refine gWX.top (b := zb Y k 1) rfl ?_
            refine x_icmp_ge (tgt := 139) K (by omega) dL_sum_113 (by decide) (fun h113 => absurd h113 (by omega)) (fun h113 => ?_)
            refine x_ldc2 K (v := 43) rfl (g_mem 1301 (by decide +kernel)) dL_sum_116 ?_
            refine x_lload_1 K dL_sum_119 ?_
            refine x_lmul K dL_sum_120 ?_
            refine x_aload_0 K dL_sum_121 ?_
            refine x_iload_3 K dL_sum_122 ?_
            refine x_iload_4 K dL_sum_123 ?_
            refine x_iload_5 K dL_sum_125 ?_
            refine x_callH4 K (p_sign h hY hk hr hc) mtL_sign msL_sign (g_mem 717 (by decide +kernel)) ⟨by omega, by omega, by omega⟩ rfl (Nat.le_of_ble_eq_true rfl) dL_sum_127 ?_
            refine x_i2l K dL_sum_130 ?_
            refine x_ladd K dL_sum_131 ?_
            refine x_lstore_1 K dL_sum_132 rfl ?_
            refine x_iinc_5 K dL_sum_133 rfl ?_
            refine x_goto (tgt := 105) K dL_sum_136 (by decide) ?_
            exact gWX.to rfl rfl (ih)
          · refine x_iload_5 K dL_sum_105 ?_
            refine x_aload_0 K dL_sum_107 ?_
            refine x_iload_3 K dL_sum_108 ?_
            refine x_iconst K dL_sum_109 ?_
            refine x_callH3 K (p_of h hY 1 hk (by omega)) mtL_of msL_of (g_mem 606 (by decide +kernel)) ⟨by omega, by omega, by omega⟩ rfl (Nat.le_of_ble_eq_true rfl) dL_sum_110 ?_
            refine gWX.top (b := zb Y k 1) rfl ?_
            refine x_icmp_ge (tgt := 139) K (by omega) dL_sum_113 (by decide) (fun h113 => ?_) (fun h113 => absurd h113 (by omega))
            refine x_iinc_4 K dL_sum_139 rfl ?_
            refine x_goto (tgt := 76) K dL_sum_142 (by decide) ?_
            exact gWX.fgt 5 (gWX.le (by omega) (by omega) (gWX.to rfl rfl ih))
        · refine x_iload_4 K dL_sum_76 ?_
          refine x_aload_0 K dL_sum_78 ?_
          refine x_iload_3 K dL_sum_79 ?_
          refine x_iconst K dL_sum_80 ?_
          refine x_callH3 K (p_of h hY 0 hk (by omega)) mtL_of msL_of (g_mem 606 (by decide +kernel)) ⟨by omega, by omega, by omega⟩ rfl (Nat.le_of_ble_eq_true rfl) dL_sum_81 ?_
          refine gWX.top (b := zb Y k 0) rfl ?_
          refine x_icmp_ge (tgt := 145) K (by omega) dL_sum_84 (by decide) (fun h84 => ?_) (fun h84 => absurd h84 (by omega))
          refine x_iconst K dL_sum_145 ?_
          refine x_istore_4 K dL_sum_146 rfl ?_
          refine gLp (P := fun c : Nat => gWX X E (14 * k + 6 + c) (6 * (14 * k + 6 + c)) 148 [some (rf 0 0), some (.inl (.long (pS1 (pS2 (zb Y k) (pS1 (pS4 Y (pS1 7 31 (pA Y) 10) k) 37 (s_of (zb Y k)) 7) (zb Y k 0).toNat) 47 (fun c => pT (zb Y k) (6 + c)) c))), none, some (iv (k : Int)), some (iv (c : Int)), none] [] (σ)) ((zb Y k 1).toNat) (fun k0 => ?_) (fun c hc ih => ?_) ?_
          · refine gWX.le (c' := 14 * k + 6 + 0) (s' := 6 * (14 * k + 6 + 0)) (by omega) (by omega) ?_
            exact gWX.to rfl rfl (k0)
          · have hc : (c : Int) < zb Y k 1 := by omega
            refine x_iload_4 K dL_sum_148 ?_
            refine x_aload_0 K dL_sum_150 ?_
            refine x_iload_3 K dL_sum_151 ?_
            refine x_iconst K dL_sum_152 ?_
            refine x_callH3 K (p_of h hY 1 hk (by omega)) mtL_of msL_of (g_mem 606 (by decide +kernel)) ⟨by omega, by omega, by omega⟩ rfl (Nat.le_of_ble_eq_true rfl) dL_sum_153 ?_
            refine gWX.top (b := zb Y k 1) rfl ?_
            refine x_icmp_ge (tgt := 180) K (by omega) dL_sum_156 (by decide) (fun h156 => absurd h156 (by omega)) (fun h156 => ?_)
            refine x_ldc2 K (v := 47) rfl (g_mem 1302 (by decide +kernel)) dL_sum_159 ?_
            refine x_lload_1 K dL_sum_162 ?_
            refine x_lmul K dL_sum_163 ?_
            refine x_aload_0 K dL_sum_164 ?_
            refine x_iload_3 K dL_sum_165 ?_
            refine x_iload_4 K dL_sum_166 ?_
            refine x_callH3 K (p_columnSum h hY hk hc) mtL_columnSum msL_columnSum (g_mem 734 (by decide +kernel)) ⟨by omega, by omega, by omega⟩ rfl (Nat.le_of_ble_eq_true rfl) dL_sum_168 ?_
            refine x_i2l K dL_sum_171 ?_
            refine x_ladd K dL_sum_172 ?_
            refine x_lstore_1 K dL_sum_173 rfl ?_
            refine x_iinc_4 K dL_sum_174 rfl ?_
            refine x_goto (tgt := 148) K dL_sum_177 (by decide) ?_
            exact gWX.le (by omega) (by omega) (gWX.to rfl rfl ih)
          · refine x_iload_4 K dL_sum_148 ?_
            refine x_aload_0 K dL_sum_150 ?_
            refine x_iload_3 K dL_sum_151 ?_
            refine x_iconst K dL_sum_152 ?_
            refine x_callH3 K (p_of h hY 1 hk (by omega)) mtL_of msL_of (g_mem 606 (by decide +kernel)) ⟨by omega, by omega, by omega⟩ rfl (Nat.le_of_ble_eq_true rfl) dL_sum_153 ?_
            refine gWX.top (b := zb Y k 1) rfl ?_
            refine x_icmp_ge (tgt := 180) K (by omega) dL_sum_156 (by decide) (fun h156 => ?_) (fun h156 => absurd h156 (by omega))
            refine x_iinc_3 K dL_sum_180 rfl ?_
            refine x_goto (tgt := 33) K dL_sum_183 (by decide) ?_
            exact gWX.fgt 4 (gWX.fgt 5 (gWX.le (by omega) (by omega) (gWX.to rfl rfl ih)))
    · refine x_iload_3 K dL_sum_33 ?_
      refine x_aload_0 K dL_sum_34 ?_
      refine x_iconst K dL_sum_35 ?_
      refine x_callV1 K (p_account h hY 0 (by omega)) mtX6_account miX6_account rc0 ⟨by decide, by decide⟩ lkRL_150 ⟨by omega, by omega, by omega⟩ rfl (Nat.le_of_ble_eq_true rfl) dL_sum_36 ?_
      refine gWX.top (b := Y 0) e0 ?_
      refine x_icmp_ge (tgt := 186) K (by omega) dL_sum_39 (by decide) (fun h39 => ?_) (fun h39 => absurd h39 (by omega))
      refine x_lload_1 K dL_sum_186 ?_
      exact x_lret K hE rfl dL_sum_187 (by omega) (by omega) rfl rfl
