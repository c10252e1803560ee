/-! ===== told ===== -/
set_option maxHeartbeats 1000000 in
theorem c_told {E : gE} {σ : gS} (Y : Nat → Int) {pm : Nat} {P : Nat → Nat → Int} (hX : gX E = []) (hI : gJv σ Y pm P) {k : Nat} (hk : (k : Int) < Y 0) : gCtR E mL_told 17 1900 [rf 0 0, iv (k : Int)] σ (fun rv σ' => rv = some (iv 1) ∧ gJv σ' Y pm P) := by
  refine gCtR_of (L := [some (rf 0 0), some (iv (k : Int)), none, none, none, none, none]) (by decide +kernel) rfl rfl (Nat.le_of_ble_eq_true rfl) (fun X K hE => ?_)
  obtain ⟨h, hY, -, hg, hpm⟩ := gJv_s hI
  have h5 := gY_k hY hk
  have hz := hY.2 k hk
  have z0 := hz.1
  have z1 := hz.2.1
  have z2 := hz.2.2.1
  have K0 := K
  have eC : zb Y k 1 = (((zb Y k 1).toNat : Nat) : Int) := by omega
  have eR : zb Y k 0 = (((zb Y k 0).toNat : Nat) : Int) := by omega
  refine x_iconst K dL_told_0 ?_
  refine x_istore_2 K dL_told_1 rfl ?_
  refine gLp (P := fun r : Nat => ∀ (E1 : gE) (τ : gS), (gMore E E1 ∧ gK X E1 mL_told 17 1900 ∧ gJv τ Y pm P) → gWX X E1 (300 * r) (6 * (300 * r)) 2 [some (rf 0 0), some (iv (k : Int)), some (iv (r : Int)), none, none, none, none] [] (τ)) ((zb Y k 0).toNat) (fun k0 => ?_) (fun r hr ihr => ?_) ?_
  · exact gWX.to rfl rfl (k0 E σ ⟨gMore.rf E, K, hI⟩)
  · intro Er τ ⟨mE, K, hτ⟩
    have s1 := gJv_s hτ
    have lnb := gLn_bd hz (r := r) (by omega)
    have lnl := gLn_len (zb Y k) r
    refine x_iload_2 K dL_told_2 ?_
    refine x_aload_0 K dL_told_3 ?_
    refine x_iload_1 K dL_told_4 ?_
    refine x_iconst K dL_told_5 ?_
    refine x_callH3 K (p_of s1.1 s1.2.1 0 hk (by omega)) mtL_of msL_of (g_mem 606 (by decide +kernel)) ⟨by omega, by omega, by omega⟩ rfl (Nat.le_of_ble_eq_true rfl) dL_told_6 ?_
    refine gWX.top (b := zb Y k 0) rfl ?_
    refine x_icmp_ge (tgt := 233) K (by omega) dL_told_9 (by decide) (fun h9 => absurd h9 (by omega)) (fun h9 => ?_)
    refine x_new33 K (g_mem 888 (by decide +kernel)) (by omega) (by omega) dL_told_12 (fun a ia E2 ma xa fa K => ?_)
    refine x_dup K dL_told_15 rfl ?_
    refine x_callC0G K (xJ4_init (gX_new xa) nb_n0 (fun _ => 0)) mtJ4_init_da8c8 (g_mem 276 (by decide +kernel)) ⟨rfl, rfl⟩ (g_mem 889 (by decide +kernel)) ⟨by omega, by omega, by omega⟩ rfl (Nat.le_of_ble_eq_true rfl) dL_told_16 (fun E3 qv τ3 qm qq K => ?_)
    obtain ⟨rfl, v3, w3, q1, q2, q3⟩ := qq
    have nb3 := nb_init ma xa fa qm q1 q2 q3
    have hτ3 := gJv_fr nb3.2.1 hτ
    have K3 := K
    refine x_astorec_3 K dL_told_19 rfl ?_
    refine x_iconst K dL_told_20 ?_
    refine x_istore_4 K dL_told_21 rfl ?_
    refine gLp (P := fun c : Nat => ∀ (E1 : gE) (τ4 : gS), (gMore E3 E1 ∧ gK X E1 mL_told 17 1900 ∧ gJv τ4 Y pm P ∧ ∃ v4 w4, gNB Er τ E1 τ4 a ia v4 w4 16 c (tl (zb Y k) r)) → gWX X E1 (300 * r + 10 + 30 * c) (6 * (300 * r + 10 + 30 * c)) 23 [some (rf 0 0), some (iv (k : Int)), some (iv (r : Int)), some (.inl (.ref a)), some (iv (c : Int)), none, none] [] (τ4)) ((zb Y k 1).toNat) (fun k0 => ?_) (fun c hc ih => ?_) ?_
    · refine gWX.le (c' := 300 * r + 10 + 30 * 0) (s' := 6 * (300 * r + 10 + 30 * 0)) (by omega) (by omega) ?_
      exact gWX.to rfl rfl (k0 E3 τ3 ⟨gMore.rf E3, K, hτ3, v3, w3, nb3.cong rfl (fun j hj => absurd hj (Nat.not_lt_zero j))⟩)
    · intro E1 τ4 ⟨mE4, K, hτ4, v4, w4, nb4⟩
      have s4 := gJv_s hτ4
      have hcN : c < tlN (zb Y k) := by unfold tlN; omega
      have e4 := tl_c (r := r) hc
      have sg := gZ_s hz (r := r) (c := c) (by omega) (by omega)
      refine x_iload_4 K dL_told_23 ?_
      refine x_aload_0 K dL_told_25 ?_
      refine x_iload_1 K dL_told_26 ?_
      refine x_iconst K dL_told_27 ?_
      refine x_callH3 K (p_of s4.1 s4.2.1 1 hk (by omega)) mtL_of msL_of (g_mem 606 (by decide +kernel)) ⟨by omega, by omega, by omega⟩ rfl (Nat.le_of_ble_eq_true rfl) dL_told_28 ?_
      refine gWX.top (b := zb Y k 1) rfl ?_
      refine x_icmp_ge (tgt := 87) K (by omega) dL_told_31 (by decide) (fun h31 => absurd h31 (by omega)) (fun h31 => ?_)
      refine gJn (P := ∀ (E5 : gE) (τ5 : gS) (z : Nat), gMore E1 E5 → gK X E5 mL_told 17 1900 → gFr E1 τ4 τ5 [] → gSt E5 τ5 z 1 (fun j => tl (zb Y k) r (c + j)) [ia, w4] → gWX X E5 (300 * r + 10 + 30 * c + 23) (6 * (300 * r + 10 + 30 * c + 23)) 77 [some (rf 0 0), some (iv (k : Int)), some (iv (r : Int)), some (.inl (.ref a)), some (iv (c : Int)), none, none] [.inl (.ref z), .inl (.ref a)] τ5) (fun kJ => ?_) ?_
      · refine x_aloadc_3 K dL_told_34 ?_
        refine x_aload_0 K dL_told_35 ?_
        refine x_iload_1 K dL_told_36 ?_
        refine x_iload_2 K dL_told_37 ?_
        refine x_iload_4 K dL_told_38 ?_
        refine x_callH4 K (p_sign s4.1 s4.2.1 hk (r := r) (c := c) (by omega) (by omega)) mtL_sign msL_sign (g_mem 717 (by decide +kernel)) ⟨by omega, by omega, by omega⟩ rfl (Nat.le_of_ble_eq_true rfl) dL_told_40 ?_
        refine x_if_ge (tgt := 51) K (by omega) dL_told_43 (by decide) (fun h43 => ?_) (fun h43 => ?_)
        · skip
          refine x_new33 K (g_mem 888 (by decide +kernel)) (by omega) (by omega) dL_told_51 (fun b ib F2 mb xb fb K => ?_)
          refine x_dup K dL_told_54 rfl ?_
          refine x_callC0G K (xJ4_init (gX_new xb) nb_n0 (fun _ => 0)) mtJ4_init_da8c8 (g_mem 276 (by decide +kernel)) ⟨rfl, rfl⟩ (g_mem 889 (by decide +kernel)) ⟨by omega, by omega, by omega⟩ rfl (Nat.le_of_ble_eq_true rfl) dL_told_55 (fun F3 qv ρ3 qm qq K => ?_)
          obtain ⟨rfl, vx3, wx3, q1, q2, q3⟩ := qq
          have nbx3 := nb_init mb xb fb qm q1 q2 q3
          refine x_ldcS (tx := "") K rfl (g_mem 891 (by decide +kernel)) lw247_x dL_told_58 ?_
          refine x_callY1G K (xJ4_append nbx3.2.2.1 (Or.inl (ls247 K.2.2.2.2.1)) (Or.inl (by omega)) lb247) mtJ4_append_15ec4 miJ4_append_15ec4 (gRcv_33 K nbx3.2.2.1.1) lkRL_249 ⟨by omega, by omega, by omega⟩ rfl (Nat.le_of_ble_eq_true rfl) dL_told_60 (fun F4 uv ρ4 um uq K => ?_)
          obtain ⟨rfl, vx4, wx4, mx4, u1, u2, u3, u4⟩ := uq
          have nbx4 := nb_app nbx3 um u1 u3 u4
          have mm4 : mx4 = 16 := u2.2.1 (by omega)
          subst mm4
          have hρ4 := gJv_fr nbx4.2.1 hτ4
          have sρ := gJv_s hρ4
          refine x_aload_0 K dL_told_63 ?_
          refine x_iload_1 K dL_told_64 ?_
          refine x_iload_2 K dL_told_65 ?_
          refine x_iload_4 K dL_told_66 ?_
          refine x_callH4 K (p_sign sρ.1 sρ.2.1 hk (r := r) (c := c) (by omega) (by omega)) mtL_sign msL_sign (g_mem 717 (by decide +kernel)) ⟨by omega, by omega, by omega⟩ rfl (Nat.le_of_ble_eq_true rfl) dL_told_68 ?_
          refine x_callY1G K (xJ4_appendI nbx4.2.2.1 (zb Y k (20 + (8 * r + c))) (by omega) (Or.inl (by omega))) mtJ4_append_bf812 miJ4_append_bf812 (gRcv_33 K nbx4.2.2.1.1) lkRL_252 ⟨by omega, by omega, by omega⟩ rfl (Nat.le_of_ble_eq_true rfl) dL_told_71 (fun F5 uv ρ5 um uq K => ?_)
          obtain ⟨rfl, vx5, wx5, mx5, u5, u6, u7, u8⟩ := uq
          have nbx5 := nb_app nbx4 um u5 u7 u8
          have mm5 : mx5 = 16 := u6.2.1 (by omega)
          subst mm5
          refine x_callY0G K (xJ4_toString nbx5.2.2.1 (by omega) (by omega)) mtJ4_toString_0e30d miJ4_toString_0e30d (gRcv_33 K nbx5.2.2.1.1) lkRL_255 ⟨by omega, by omega, by omega⟩ rfl (Nat.le_of_ble_eq_true rfl) dL_told_74 (fun F6 uv ρ6 um uq K => ?_)
          obtain ⟨zs, rfl, u9, u10⟩ := uq
          have fr6 := nbx5.2.1.tr nbx5.1 u10 (fun c hc => absurd hc List.not_mem_nil)
          have m6 := nbx5.1.tr um
          refine gWX.le (by omega) (by omega) (kJ F6 ρ6 zs m6 K fr6 ((u9 [ia, w4] (fun c hc => ?_)).cong (by omega) (fun j hj => ?_)))
          · rcases List.mem_cons.mp hc with rfl | hc
            · exact ⟨_, gMem_more nbx5.1 nb4.2.2.1.1, rfl⟩
            · rw [List.mem_singleton.mp hc]
              exact ⟨_, gMem_more nbx5.1 nb4.2.2.1.2.1, rfl⟩
          · have j0 : j = 0 := by omega
            subst j0
            show gCat (gCat _ 0 lt247) (0 + 0) (fun _ => 48 + zb Y k (20 + (8 * r + c))) 0 = tl (zb Y k) r (c + 0)
            rw [show c + 0 = c from rfl, e4]
            unfold gCat gCh
            rw [if_neg (by omega), if_neg (by omega)]
        · refine x_ldcS (tx := "?") K rfl (g_mem 890 (by decide +kernel)) lw245_x dL_told_46 ?_
          refine x_goto (tgt := 77) K dL_told_48 (by decide) ?_
          refine gWX.le (by omega) (by omega) (kJ E1 τ4 _ (gMore.rf E1) K gFr.rf (gSt.cong (f := lt245) (n := 1) (Or.inl (ls245 K.2.2.2.2.1)) rfl (fun j hj => ?_)))
          have j0 : j = 0 := by omega
          subst j0
          rw [Nat.add_zero, e4]
          unfold gCh
          rw [if_pos (by omega)]
          rfl
      · intro E5 τ5 z mE5 K fr5 hst
        have nb5 := nb4.kept mE5 fr5
        have hbl : ∀ j, j < 1 → 0 ≤ tl (zb Y k) r (c + j) ∧ tl (zb Y k) r (c + j) < 128 := fun j hj => lnb.2 (c + j) (by omega)
        refine x_callY1G K (xJ4_append nb5.2.2.1 hst (Or.inl (by omega)) hbl) mtJ4_append_15ec4 miJ4_append_15ec4 (gRcv_33 K nb5.2.2.1.1) lkRL_249 ⟨by omega, by omega, by omega⟩ rfl (Nat.le_of_ble_eq_true rfl) dL_told_77 (fun E6 uv τ6 um uq K => ?_)
        obtain ⟨rfl, v6, w6, m6, u1, u2, u3, u4⟩ := uq
        have nb6 := (nb_app nb5 um u1 u3 u4).cong rfl (g := tl (zb Y k) r) (fun j hj => by
          unfold gCat
          by_cases q : j < c
          · rw [if_pos q]
          · rw [if_neg q]
            show tl (zb Y k) r (c + (j - c)) = _
            rw [show c + (j - c) = j by omega])
        have mm6 : m6 = 16 := u2.2.1 (by omega)
        subst mm6
        have hτ6 := gJv_fr u4 (gJv_fr fr5 hτ4)
        refine x_pop K dL_told_80 rfl ?_
        refine x_iinc_4 K dL_told_81 rfl ?_
        refine x_goto (tgt := 23) K dL_told_84 (by decide) ?_
        exact gWX.le (by omega) (by omega) (gWX.to rfl rfl (ih E6 τ6 ⟨mE4.tr (mE5.tr um), K, hτ6, v6, w6, nb6⟩))
    · intro E1 τ4 ⟨mE4, K, hτ4, v4, w4, nb4⟩
      have s4 := gJv_s hτ4
      refine x_iload_4 K dL_told_23 ?_
      refine x_aload_0 K dL_told_25 ?_
      refine x_iload_1 K dL_told_26 ?_
      refine x_iconst K dL_told_27 ?_
      refine x_callH3 K (p_of s4.1 s4.2.1 1 hk (by omega)) mtL_of msL_of (g_mem 606 (by decide +kernel)) ⟨by omega, by omega, by omega⟩ rfl (Nat.le_of_ble_eq_true rfl) dL_told_28 ?_
      refine gWX.top (b := zb Y k 1) rfl ?_
      refine x_icmp_ge (tgt := 87) K (by omega) dL_told_31 (by decide) (fun h31 => ?_) (fun h31 => absurd h31 (by omega))
      refine gJn (P := ∀ (E5 : gE) (τ5 : gS) (z : Nat), gMore E1 E5 → gK X E5 mL_told 17 1900 → gFr E1 τ4 τ5 [] → gSt E5 τ5 z (if zb Y k 2 = 1 then 2 else 0) (fun j => tl (zb Y k) r ((zb Y k 1).toNat + j)) [ia, w4] → gWX X E5 (300 * r + 250 + 24) (6 * (300 * r + 250 + 24)) 128 [some (rf 0 0), some (iv (k : Int)), some (iv (r : Int)), some (.inl (.ref a)), some (iv ((zb Y k 1).toNat : Int)), none, none] [.inl (.ref z), .inl (.ref a)] τ5) (fun kJ => ?_) ?_
      · refine x_aloadc_3 K dL_told_87 ?_
        refine x_aload_0 K dL_told_88 ?_
        refine x_iload_1 K dL_told_89 ?_
        refine x_iconst K dL_told_90 ?_
        refine x_callH3 K (p_of s4.1 s4.2.1 2 hk (by omega)) mtL_of msL_of (g_mem 606 (by decide +kernel)) ⟨by omega, by omega, by omega⟩ rfl (Nat.le_of_ble_eq_true rfl) dL_told_91 ?_
        refine gWX.top (b := zb Y k 2) rfl ?_
        refine x_iconst K dL_told_94 ?_
        refine x_icmp_ne (tgt := 126) K (by omega) dL_told_95 (by decide) (fun h95 => ?_) (fun h95 => ?_)
        · skip
          refine x_ldcS (tx := "") K rfl (g_mem 891 (by decide +kernel)) lw247_x dL_told_126 ?_
          have z20 : zb Y k 2 = 0 := by omega
          exact gWX.le (by omega) (by omega) (kJ E1 τ4 _ (gMore.rf E1) K gFr.rf (gSt.cong (f := lt247) (n := 0) (Or.inl (ls247 K.2.2.2.2.1)) (by rw [if_neg (by omega)]) (fun j hj => absurd hj (Nat.not_lt_zero j))))
        · have z21 : zb Y k 2 = 1 := by omega
          have ePT : pT (zb Y k) r = zb Y k (6 + r) := if_pos z21
          have qt := hz.2.2.2.2.1 r (by omega)
          refine x_new33 K (g_mem 888 (by decide +kernel)) (by omega) (by omega) dL_told_98 (fun b ib F2 mb xb fb K => ?_)
          refine x_dup K dL_told_101 rfl ?_
          refine x_callC0G K (xJ4_init (gX_new xb) nb_n0 (fun _ => 0)) mtJ4_init_da8c8 (g_mem 276 (by decide +kernel)) ⟨rfl, rfl⟩ (g_mem 889 (by decide +kernel)) ⟨by omega, by omega, by omega⟩ rfl (Nat.le_of_ble_eq_true rfl) dL_told_102 (fun F3 qv ρ3 qm qq K => ?_)
          obtain ⟨rfl, vx3, wx3, q1, q2, q3⟩ := qq
          have nbx3 := nb_init mb xb fb qm q1 q2 q3
          refine x_ldcSw (tx := "|") K rfl (g_mem 1094 (by decide +kernel)) lw259_x dL_told_105 ?_
          refine x_callY1G K (xJ4_append nbx3.2.2.1 (Or.inl (ls259 K.2.2.2.2.1)) (Or.inl (by omega)) lb259) mtJ4_append_15ec4 miJ4_append_15ec4 (gRcv_33 K nbx3.2.2.1.1) lkRL_249 ⟨by omega, by omega, by omega⟩ rfl (Nat.le_of_ble_eq_true rfl) dL_told_108 (fun F4 uv ρ4 um uq K => ?_)
          obtain ⟨rfl, vx4, wx4, mx4, u1, u2, u3, u4⟩ := uq
          have nbx4 := nb_app nbx3 um u1 u3 u4
          have mm4 : mx4 = 16 := u2.2.1 (by omega)
          subst mm4
          have hρ4 := gJv_fr nbx4.2.1 hτ4
          have sρ := gJv_s hρ4
          refine x_aload_0 K dL_told_111 ?_
          refine x_iload_1 K dL_told_112 ?_
          refine x_iload_2 K dL_told_113 ?_
          refine x_callH3 K (p_rowSum sρ.1 sρ.2.1 hk (r := r) (by omega)) mtL_rowSum msL_rowSum (g_mem 693 (by decide +kernel)) ⟨by omega, by omega, by omega⟩ rfl (Nat.le_of_ble_eq_true rfl) dL_told_114 ?_
          refine x_callY1G K (xJ4_appendI nbx4.2.2.1 (pT (zb Y k) r) (by omega) (Or.inl (by omega))) mtJ4_append_bf812 miJ4_append_bf812 (gRcv_33 K nbx4.2.2.1.1) lkRL_252 ⟨by omega, by omega, by omega⟩ rfl (Nat.le_of_ble_eq_true rfl) dL_told_117 (fun F5 uv ρ5 um uq K => ?_)
          obtain ⟨rfl, vx5, wx5, mx5, u5, u6, u7, u8⟩ := uq
          have nbx5 := nb_app nbx4 um u5 u7 u8
          have mm5 : mx5 = 16 := u6.2.1 (by omega)
          subst mm5
          refine x_callY0G K (xJ4_toString nbx5.2.2.1 (by omega) (by omega)) mtJ4_toString_0e30d miJ4_toString_0e30d (gRcv_33 K nbx5.2.2.1.1) lkRL_255 ⟨by omega, by omega, by omega⟩ rfl (Nat.le_of_ble_eq_true rfl) dL_told_120 (fun F6 uv ρ6 um uq K => ?_)
          obtain ⟨zs, rfl, u9, u10⟩ := uq
          have fr6 := nbx5.2.1.tr nbx5.1 u10 (fun c hc => absurd hc List.not_mem_nil)
          have m6 := nbx5.1.tr um
          refine x_goto (tgt := 128) K dL_told_123 (by decide) ?_
          refine gWX.le (by omega) (by omega) (kJ F6 ρ6 zs m6 K fr6 ((u9 [ia, w4] (fun c hc => ?_)).cong (by rw [if_pos z21]) (fun j hj => ?_)))
          · rcases List.mem_cons.mp hc with rfl | hc
            · exact ⟨_, gMem_more nbx5.1 nb4.2.2.1.1, rfl⟩
            · rw [List.mem_singleton.mp hc]
              exact ⟨_, gMem_more nbx5.1 nb4.2.2.1.2.1, rfl⟩
          · rw [tl_s z21 (by omega)]
            unfold gCat
            have j2 : j = 0 ∨ j = 1 := by omega
            rcases j2 with rfl | rfl
            · rw [if_pos (by omega), if_neg (by omega)]
              rfl
            · rw [if_neg (by omega), ePT]
              rfl
      · intro E5 τ5 z mE5 K fr5 hst
        have nb5 := nb4.kept mE5 fr5
        have hbl : ∀ j, j < (if zb Y k 2 = 1 then 2 else 0) → 0 ≤ tl (zb Y k) r ((zb Y k 1).toNat + j) ∧ tl (zb Y k) r ((zb Y k 1).toNat + j) < 128 := fun j hj => lnb.2 ((zb Y k 1).toNat + j) (by unfold tlN at lnl; omega)
        refine x_callY1G K (xJ4_append nb5.2.2.1 hst (Or.inl (by unfold tlN at lnl; omega)) hbl) mtJ4_append_15ec4 miJ4_append_15ec4 (gRcv_33 K nb5.2.2.1.1) lkRL_249 ⟨by omega, by omega, by omega⟩ rfl (Nat.le_of_ble_eq_true rfl) dL_told_128 (fun E6 uv τ6 um uq K => ?_)
        obtain ⟨rfl, v6, w6, m6, u1, u2, u3, u4⟩ := uq
        have nb6 := (nb_app nb5 um u1 u3 u4).cong (n2 := tlN (zb Y k)) rfl (g := tl (zb Y k) r) (fun j hj => by
          unfold gCat
          by_cases q : j < (zb Y k 1).toNat
          · rw [if_pos q]
          · rw [if_neg q]
            show tl (zb Y k) r ((zb Y k 1).toNat + (j - (zb Y k 1).toNat)) = _
            rw [show (zb Y k 1).toNat + (j - (zb Y k 1).toNat) = j by omega])
        have mm6 : m6 = 16 := u2.2.1 (by unfold tlN at lnl; omega)
        subst mm6
        have hτ6 := gJv_fr u4 (gJv_fr fr5 hτ4)
        have s6 := gJv_s hτ6
        have mE6 := mE.tr nb6.1
        refine gJn (P := ∀ (z : Nat), gSt E6 τ6 z (if s_w (zb Y k) r = true then 1 else 0) (fun j => tl (zb Y k) r (tlN (zb Y k) + j)) [ia, w6] → gWX X E6 (300 * r + 250 + 32) (6 * (300 * r + 250 + 32)) 149 [some (rf 0 0), some (iv (k : Int)), some (iv (r : Int)), some (.inl (.ref a)), some (iv ((zb Y k 1).toNat : Int)), none, none] [.inl (.ref z), .inl (.ref a)] τ6) (fun kJ => ?_) ?_
        · refine x_aload_0 K dL_told_131 ?_
          refine x_iload_1 K dL_told_132 ?_
          refine x_iconst K dL_told_133 ?_
          refine x_iload_2 K dL_told_134 ?_
          refine x_callS4 K (wrong_row Y s6.1 s6.2.1 hk (r := r) (by omega)) mtL_isWrong msL_isWrong lkRL_210 ⟨by omega, by omega, by omega⟩ rfl (Nat.le_of_ble_eq_true rfl) dL_told_135 ?_
          have bw := gB1_bd (s_w (zb Y k) r = true)
          refine x_if_eq (tgt := 147) K (by omega) dL_told_138 (by decide) (fun h138 => ?_) (fun h138 => ?_)
          · have nw : ¬ s_w (zb Y k) r = true := fun q => by rw [gB1_t q] at h138; omega
            refine x_ldcS (tx := "") K rfl (g_mem 891 (by decide +kernel)) lw247_x dL_told_147 ?_
            exact gWX.le (by omega) (by omega) (kJ _ (gSt.cong (f := lt247) (n := 0) (Or.inl (ls247 K.2.2.2.2.1)) (by rw [if_neg nw]) (fun j hj => absurd hj (Nat.not_lt_zero j))))
          · have pw : s_w (zb Y k) r = true := Classical.byContradiction (fun q => h138 (gB1_f q))
            refine x_ldcSw (tx := "!") K rfl (g_mem 1095 (by decide +kernel)) lw261_x dL_told_141 ?_
            refine x_goto (tgt := 149) K dL_told_144 (by decide) ?_
            refine gWX.le (by omega) (by omega) (kJ _ (gSt.cong (f := lt261) (n := 1) (Or.inl (ls261 K.2.2.2.2.1)) (by rw [if_pos pw]) (fun j hj => ?_)))
            have j0 : j = 0 := by omega
            subst j0
            rw [Nat.add_zero, tl_w pw]
            rfl
        · intro z hst6
          have hbl6 : ∀ j, j < (if s_w (zb Y k) r = true then 1 else 0) → 0 ≤ tl (zb Y k) r (tlN (zb Y k) + j) ∧ tl (zb Y k) r (tlN (zb Y k) + j) < 128 := fun j hj => lnb.2 (tlN (zb Y k) + j) (by omega)
          refine x_callY1G K (xJ4_append nb6.2.2.1 hst6 (Or.inl (by omega)) hbl6) mtJ4_append_15ec4 miJ4_append_15ec4 (gRcv_33 K nb6.2.2.1.1) lkRL_249 ⟨by omega, by omega, by omega⟩ rfl (Nat.le_of_ble_eq_true rfl) dL_told_149 (fun E7 uv τ7 um uq K => ?_)
          obtain ⟨rfl, v7, w7, m7, u1, u2, u3, u4⟩ := uq
          have nb7 := (nb_app nb6 um u1 u3 u4).cong (n2 := (gLn (zb Y k) r).length) (by rw [lnl]) (g := tl (zb Y k) r) (fun j hj => by
            unfold gCat
            by_cases q : j < tlN (zb Y k)
            · rw [if_pos q]
            · rw [if_neg q]
              show tl (zb Y k) r (tlN (zb Y k) + (j - tlN (zb Y k))) = _
              rw [show tlN (zb Y k) + (j - tlN (zb Y k)) = j by omega])
          have hτ7 := gJv_fr u4 hτ6
          have mE7 := mE6.tr um
          obtain ⟨sv, S9, rs, dt, er, T, l, kt, wt, hCI, hVI, hgg⟩ := id hτ7
          have hτ9 : gJv (gLi τ7 (zb Y k) r) Y pm P := ⟨sv, S9, rs, dt, er, T, l, _, _, CI_li hVI hCI, VI_li hz (by omega) hVI, hgg⟩
          have hkt := hVI.2.2.2.2.2.2.2.1
          have CL := CI_li (z := zb Y k) (r := r) hVI hCI
          have sb7 := nb7.2.2.1.hi (gHi_li (z := zb Y k) (r := r))
          have lln := c6_line (E := E7) (σ := τ7) Y hCI.1.1 hY (k : Int) (r : Int) (by omega) (by omega) ⟨⟨by omega, hk⟩, by omega, by rw [Int.toNat_natCast]; omega⟩ hCI.2.2.2.2.1 (by rw [hCI.2.2.2.2.2.1]; omega)
          rw [Int.toNat_natCast, Int.toNat_natCast] at lln
          refine x_pop K dL_told_152 rfl ?_
          refine x_aload_0 K dL_told_153 ?_
          refine x_iload_1 K dL_told_154 ?_
          refine x_iload_2 K dL_told_155 ?_
          refine x_callH3 K (l_line _ _ _ 0 1 (by omega) lln) mtL_line msL_line (g_mem 1096 (by decide +kernel)) ⟨by omega, by omega, by omega⟩ rfl (Nat.le_of_ble_eq_true rfl) dL_told_156 ?_
          refine x_istore_4 K dL_told_159 rfl ?_
          refine x_iload_4 K dL_told_161 ?_
          refine x_aloadc_3 K dL_told_163 ?_
          refine x_callY0 K (xJ4_length sb7) mtJ4_length_8abf5 miJ4_length_8abf5 (gRcv_33 K sb7.1) lkRL_265 ⟨by omega, by omega, by omega⟩ rfl (Nat.le_of_ble_eq_true rfl) dL_told_164 ?_
          refine x_icmp_ne (tgt := 174) K (by omega) dL_told_167 (by decide) (fun h167 => absurd rfl h167) (fun h167 => ?_)
          refine x_iconst K dL_told_170 ?_
          refine x_goto (tgt := 175) K dL_told_171 (by decide) ?_
          refine x_istore_5 K dL_told_175 rfl ?_
          refine x_iconst K dL_told_177 ?_
          refine x_istore_6 K dL_told_178 rfl ?_
          refine gLp (P := fun j : Nat => gWX X E7 (300 * r + 250 + 40) (6 * (300 * r + 250 + 40)) 180 [some (rf 0 0), some (iv (k : Int)), some (iv (r : Int)), some (.inl (.ref a)), some (iv ((gLn (zb Y k) r).length : Int)), some (iv 1), some (iv (j : Int))] [] (gLi τ7 (zb Y k) r)) ((gLn (zb Y k) r).length) (fun k0 => ?_) (fun j hj ih => ?_) ?_
          · refine gWX.le (c' := (300 * r + 250 + 40)) (s' := 6 * (300 * r + 250 + 40)) (by omega) (by omega) ?_
            exact gWX.to rfl rfl (k0)
          · have lj : 0 ≤ tl (zb Y k) r j ∧ tl (zb Y k) r j < 128 := lnb.2 j hj
            have ej : (gLi τ7 (zb Y k) r).1 13 0 j = tl (zb Y k) r j := CL.2.2.2.2.2.2 j hj
            refine x_iload_6 K dL_told_180 ?_
            refine x_iload_4 K dL_told_182 ?_
            refine x_icmp_ge (tgt := 220) K (by omega) dL_told_184 (by decide) (fun h184 => absurd h184 (by omega)) (fun h184 => ?_)
            refine x_iload_5 K dL_told_187 ?_
            refine x_if_eq (tgt := 220) K (by omega) dL_told_189 (by decide) (fun h189 => absurd h189 (by omega)) (fun h189 => ?_)
            refine x_aload_0 K dL_told_192 ?_
            refine x_iload_6 K dL_told_193 ?_
            refine x_callV1 K (c6_character (gLn (zb Y k) r).length CL.2.2.2.2.2.1 (by omega) (j : Int) (by omega) (by omega) CL.2.2.2.2.1 (by rw [Int.toNat_natCast, ej]; exact lj)) mtX6_character miX6_character rc0 ⟨by decide, by decide⟩ lkRL_266 ⟨by omega, by omega, by omega⟩ rfl (Nat.le_of_ble_eq_true rfl) dL_told_195 ?_
            rw [Int.toNat_natCast, ej]
            refine x_aloadc_3 K dL_told_198 ?_
            refine x_iload_6 K dL_told_199 ?_
            refine x_callY1 K (xJ4_charAt sb7 j hj lj) mtJ4_charAt_5068e miJ4_charAt_5068e (gRcv_33 K sb7.1) lkRL_269 ⟨by omega, by omega, by omega⟩ rfl (Nat.le_of_ble_eq_true rfl) dL_told_201 ?_
            refine x_icmp_ne (tgt := 211) K (by omega) dL_told_204 (by decide) (fun h204 => absurd rfl h204) (fun h204 => ?_)
            refine x_iconst K dL_told_207 ?_
            refine x_goto (tgt := 212) K dL_told_208 (by decide) ?_
            refine x_istore_5 K dL_told_212 rfl ?_
            refine x_iinc_6 K dL_told_214 rfl ?_
            refine x_goto (tgt := 180) K dL_told_217 (by decide) ?_
            exact gWX.to rfl rfl (ih)
          · have E9 := E7
            refine x_iload_6 K dL_told_180 ?_
            refine x_iload_4 K dL_told_182 ?_
            refine x_icmp_ge (tgt := 220) K (by omega) dL_told_184 (by decide) (fun h184 => ?_) (fun h184 => absurd h184 (by omega))
            refine x_iload_5 K dL_told_220 ?_
            refine x_if_ne (tgt := 227) K (by omega) dL_told_222 (by decide) (fun h222 => ?_) (fun h222 => absurd h222 (by omega))
            refine x_iinc_2 K dL_told_227 rfl ?_
            refine x_goto (tgt := 2) K dL_told_230 (by decide) ?_
            refine gWX.fgt 3 ?_
            refine gWX.fgt 4 ?_
            refine gWX.fgt 5 ?_
            refine gWX.fgt 6 ?_
            exact gWX.le (by omega) (by omega) (gWX.to rfl rfl (ihr E7 (gLi τ7 (zb Y k) r) ⟨mE7, K, hτ9⟩))
  · intro Er τ ⟨mE, K, hτ⟩
    have s1 := gJv_s hτ
    refine x_iload_2 K dL_told_2 ?_
    refine x_aload_0 K dL_told_3 ?_
    refine x_iload_1 K dL_told_4 ?_
    refine x_iconst K dL_told_5 ?_
    refine x_callH3 K (p_of s1.1 s1.2.1 0 hk (by omega)) mtL_of msL_of (g_mem 606 (by decide +kernel)) ⟨by omega, by omega, by omega⟩ rfl (Nat.le_of_ble_eq_true rfl) dL_told_6 ?_
    refine gWX.top (b := zb Y k 0) rfl ?_
    refine x_icmp_ge (tgt := 233) K (by omega) dL_told_9 (by decide) (fun h9 => ?_) (fun h9 => absurd h9 (by omega))
    refine x_iconst K dL_told_233 ?_
    exact x_zretR K K0 mE hX hE rfl dL_told_234 (by omega) (by omega) (Or.inr rfl) (gEqv.rf _) ⟨rfl, hτ⟩
