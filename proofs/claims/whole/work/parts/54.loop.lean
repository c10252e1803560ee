/-! ===== the law's loop ===== -/
theorem law_loop {X : gM} {E : gE} {D n b L9 : Nat} {xs : Nat → Int32} (K : gK X E mL_law D n) (S : hSc X E b L9 xs) (hD : 20 ≤ D) (c0 s0 : Nat) (hc : c0 + 514 ≤ n) (hs : s0 + 6 * 514 ≤ 6 * n) (hend : ∀ (i cells slots : Nat) (σ : gS), cells ≤ c0 + 514 → slots ≤ s0 + 6 * 514 → gWX X E cells slots 2525 (wL b i) [] σ) (σ : gS) (hI : gInv σ) : gWX X E c0 s0 28 (wL b 0) [] σ := by
  have s4 := S.2.2.2
  refine gLp (P := fun j : Nat => ∀ σ : gS, gInv σ → gWX X E (c0 + j) (s0 + 6 * j) 28 (wL b (5 * j)) [] σ) 513 (fun k0 => k0 σ hI) (fun j hj ih => ?_) ?_
  · intro σ hI
    refine x_iload_5 K dL_law_28 ?_
    refine x_aloadc_0 K dL_law_30 ?_
    refine x_slen K S dL_law_31 ?_
    refine x_iconst K dL_law_32 ?_
    refine x_isub K dL_law_33 ?_
    refine x_icmp_gt (tgt := 2525) K (by omega) dL_law_34 (by decide) (fun h => ?_) (fun h => ?_)
    · exact hend _ _ _ _ (by omega) (by omega)
    · have hi5 : 5 * j + 5 ≤ L9 := by omega
      have kn : ∀ σ' : gS, gInv σ' → gWX X E (c0 + j + 1) (s0 + 6 * j + 6) 2519 (wL b (5 * j)) [] σ' := fun σ' hI' => by
        refine x_iinc_5 K dL_law_2519 rfl ?_
        refine x_goto (tgt := 28) K dL_law_2522 (by decide) ?_
        have h9 := ih σ' hI'
        rw [show c0 + (j + 1) = c0 + j + 1 by omega, show s0 + 6 * (j + 1) = s0 + 6 * j + 6 by omega] at h9
        refine gWX.to ?_ rfl h9
        show [_, _, _, _, _, some (iv (((5 * j : Nat) : Int) + 5)), _, _, _] = [_, _, _, _, _, some (iv ((5 * (j + 1) : Nat) : Int)), _, _, _]
        rw [show ((5 * (j + 1) : Nat) : Int) = ((5 * j : Nat) : Int) + 5 by omega]
      have hr := sx_r xs (5 * j)
      refine x_aloadc_0 K dL_law_37 ?_
      refine x_iload_5 K dL_law_38 ?_
      refine x_sld K S (5 * j) rfl (by omega) dL_law_40 ?_
      refine x_bipush K dL_law_41 rfl ?_
      refine x_and63 K dL_law_43 ?_
      obtain ⟨v, hv⟩ : ∃ v : Int, v = sx xs (5 * j) % 64 := ⟨_, rfl⟩
      rw [← hv]
      have hv2 : 0 ≤ v ∧ v < 64 := by omega
      have hcs : v = 0 ∨ v = 1 ∨ v = 2 ∨ v = 3 ∨ v = 4 ∨ v = 5 ∨ v = 6 ∨ v = 7 ∨ v = 8 ∨ v = 9 ∨ v = 10 ∨ v = 11 ∨ v = 12 ∨ v = 13 ∨ v = 14 ∨ v = 15 ∨ v = 16 ∨ v = 17 ∨ v = 18 ∨ v = 19 ∨ v = 20 ∨ v = 21 ∨ v = 22 ∨ v = 23 ∨ v = 24 ∨ v = 25 ∨ v = 26 ∨ v = 27 ∨ v = 28 ∨ v = 29 ∨ v = 30 ∨ v = 31 ∨ v = 32 ∨ v = 33 ∨ v = 34 ∨ v = 35 ∨ v = 36 ∨ v = 37 ∨ 38 ≤ v := by omega
      clear hv
      rcases hcs with rfl | rfl | rfl | rfl | rfl | rfl | rfl | rfl | rfl | rfl | rfl | rfl | rfl | rfl | rfl | rfl | rfl | rfl | rfl | rfl | rfl | rfl | rfl | rfl | rfl | rfl | rfl | rfl | rfl | rfl | rfl | rfl | rfl | rfl | rfl | rfl | rfl | rfl | h38
      · refine x_tblIn (tgt := 212) K 0 rfl (by omega) (by omega) rfl dL_law_44 (by decide) ?_
        exact v_scroll K S hi5 hD (by omega) (by omega) hI kn
      · refine x_tblIn (tgt := 280) K 1 rfl (by omega) (by omega) rfl dL_law_44 (by decide) ?_
        exact v_scrollOf K S hi5 hD (by omega) (by omega) hI kn
      · refine x_tblIn (tgt := 348) K 2 rfl (by omega) (by omega) rfl dL_law_44 (by decide) ?_
        exact v_write K S hi5 hD (by omega) (by omega) hI kn
      · refine x_tblIn (tgt := 440) K 3 rfl (by omega) (by omega) rfl dL_law_44 (by decide) ?_
        exact v_signAt K S hi5 hD (by omega) (by omega) hI kn
      · refine x_tblIn (tgt := 520) K 4 rfl (by omega) (by omega) rfl dL_law_44 (by decide) ?_
        exact v_seal K S hi5 hD (by omega) (by omega) hI kn
      · refine x_tblIn (tgt := 576) K 5 rfl (by omega) (by omega) rfl dL_law_44 (by decide) ?_
        exact v_copy K S hi5 hD (by omega) (by omega) hI kn
      · refine x_tblIn (tgt := 632) K 6 rfl (by omega) (by omega) rfl dL_law_44 (by decide) ?_
        exact v_slip K S hi5 hD (by omega) (by omega) hI kn
      · refine x_tblIn (tgt := 724) K 7 rfl (by omega) (by omega) rfl dL_law_44 (by decide) ?_
        exact v_smudge K S hi5 hD (by omega) (by omega) hI kn
      · refine x_tblIn (tgt := 804) K 8 rfl (by omega) (by omega) rfl dL_law_44 (by decide) ?_
        exact v_rowSum K S hi5 hD (by omega) (by omega) hI kn
      · refine x_tblIn (tgt := 872) K 9 rfl (by omega) (by omega) rfl dL_law_44 (by decide) ?_
        exact v_columnSum K S hi5 hD (by omega) (by omega) hI kn
      · refine x_tblIn (tgt := 940) K 10 rfl (by omega) (by omega) rfl dL_law_44 (by decide) ?_
        exact v_rowFault K S hi5 hD (by omega) (by omega) hI kn
      · refine x_tblIn (tgt := 1008) K 11 rfl (by omega) (by omega) rfl dL_law_44 (by decide) ?_
        exact v_columnFault K S hi5 hD (by omega) (by omega) hI kn
      · refine x_tblIn (tgt := 1076) K 12 rfl (by omega) (by omega) rfl dL_law_44 (by decide) ?_
        exact v_wrongRows K S hi5 hD (by omega) (by omega) hI kn
      · refine x_tblIn (tgt := 1132) K 13 rfl (by omega) (by omega) rfl dL_law_44 (by decide) ?_
        exact v_wrongColumns K S hi5 hD (by omega) (by omega) hI kn
      · refine x_tblIn (tgt := 1188) K 14 rfl (by omega) (by omega) rfl dL_law_44 (by decide) ?_
        exact v_isInDoubt K S hi5 hD (by omega) (by omega) hI kn
      · refine x_tblIn (tgt := 1275) K 15 rfl (by omega) (by omega) rfl dL_law_44 (by decide) ?_
        exact v_doubts K S hi5 hD (by omega) (by omega) hI kn
      · refine x_tblIn (tgt := 1331) K 16 rfl (by omega) (by omega) rfl dL_law_44 (by decide) ?_
        exact v_doubtsAgain K S hi5 hD (by omega) (by omega) hI kn
      · refine x_tblIn (tgt := 1387) K 17 rfl (by omega) (by omega) rfl dL_law_44 (by decide) ?_
        exact v_mend K S hi5 hD (by omega) (by omega) hI kn
      · refine x_tblIn (tgt := 1443) K 18 rfl (by omega) (by omega) rfl dL_law_44 (by decide) ?_
        exact v_wouldMend K S hi5 hD (by omega) (by omega) hI kn
      · refine x_tblIn (tgt := 1499) K 19 rfl (by omega) (by omega) rfl dL_law_44 (by decide) ?_
        exact v_mendAgain K S hi5 hD (by omega) (by omega) hI kn
      · refine x_tblIn (tgt := 1555) K 20 rfl (by omega) (by omega) rfl dL_law_44 (by decide) ?_
        exact v_fill K S hi5 hD (by omega) (by omega) hI kn
      · refine x_tblIn (tgt := 1611) K 21 rfl (by omega) (by omega) rfl dL_law_44 (by decide) ?_
        exact v_wouldFill K S hi5 hD (by omega) (by omega) hI kn
      · refine x_tblIn (tgt := 1691) K 22 rfl (by omega) (by omega) rfl dL_law_44 (by decide) ?_
        exact v_differ K S hi5 hD (by omega) (by omega) hI kn
      · refine x_tblIn (tgt := 1759) K 23 rfl (by omega) (by omega) rfl dL_law_44 (by decide) ?_
        exact v_ranked K S hi5 hD (by omega) (by omega) hI kn
      · refine x_tblIn (tgt := 1815) K 24 rfl (by omega) (by omega) rfl dL_law_44 (by decide) ?_
        exact v_count K S hi5 hD (by omega) (by omega) hI kn
      · refine x_tblIn (tgt := 1883) K 25 rfl (by omega) (by omega) rfl dL_law_44 (by decide) ?_
        exact v_line K S hi5 hD (by omega) (by omega) hI kn
      · refine x_tblIn (tgt := 1951) K 26 rfl (by omega) (by omega) rfl dL_law_44 (by decide) ?_
        exact v_character K S hi5 hD (by omega) (by omega) hI kn
      · refine x_tblIn (tgt := 2007) K 27 rfl (by omega) (by omega) rfl dL_law_44 (by decide) ?_
        exact v_append K S hi5 hD (by omega) (by omega) hI kn
      · refine x_tblIn (tgt := 2065) K 28 rfl (by omega) (by omega) rfl dL_law_44 (by decide) ?_
        exact v_read K S hi5 hD (by omega) (by omega) hI kn
      · refine x_tblIn (tgt := 2109) K 29 rfl (by omega) (by omega) rfl dL_law_44 (by decide) ?_
        exact v_errorPosition K S hi5 hD (by omega) (by omega) hI kn
      · refine x_tblIn (tgt := 2122) K 30 rfl (by omega) (by omega) rfl dL_law_44 (by decide) ?_
        exact v_refusal K S hi5 hD (by omega) (by omega) hI kn
      · refine x_tblIn (tgt := 2194) K 31 rfl (by omega) (by omega) rfl dL_law_44 (by decide) ?_
        exact v_account K S hi5 hD (by omega) (by omega) hI kn
      · refine x_tblIn (tgt := 2250) K 32 rfl (by omega) (by omega) rfl dL_law_44 (by decide) ?_
        exact v_isWell K S hi5 hD (by omega) (by omega) hI kn
      · refine x_tblIn (tgt := 2263) K 33 rfl (by omega) (by omega) rfl dL_law_44 (by decide) ?_
        exact v_meanSign K S hi5 hD (by omega) (by omega) hI kn
      · refine x_tblIn (tgt := 2340) K 34 rfl (by omega) (by omega) rfl dL_law_44 (by decide) ?_
        exact v_doubtShare K S hi5 hD (by omega) (by omega) hI kn
      · refine x_tblIn (tgt := 2418) K 35 rfl (by omega) (by omega) rfl dL_law_44 (by decide) ?_
        exact v_undo K S hi5 hD (by omega) (by omega) hI kn
      · refine x_tblIn (tgt := 2462) K 36 rfl (by omega) (by omega) rfl dL_law_44 (by decide) ?_
        exact v_save K S hi5 hD (by omega) (by omega) hI kn
      · refine x_tblIn (tgt := 2475) K 37 rfl (by omega) (by omega) rfl dL_law_44 (by decide) ?_
        exact v_restore K S hi5 hD (by omega) (by omega) hI kn
      · refine x_tblOut (tgt := 2519) K (by omega) (by omega) dL_law_44 (by decide) ?_
        exact gWX.le (by omega) (by omega) (kn σ hI)
  · intro σ hI
    refine x_iload_5 K dL_law_28 ?_
    refine x_aloadc_0 K dL_law_30 ?_
    refine x_slen K S dL_law_31 ?_
    refine x_iconst K dL_law_32 ?_
    refine x_isub K dL_law_33 ?_
    refine x_icmp_gt (tgt := 2525) K (by omega) dL_law_34 (by decide) (fun h => ?_) (fun h => absurd h (by omega))
    exact hend _ _ _ _ (by omega) (by omega)
