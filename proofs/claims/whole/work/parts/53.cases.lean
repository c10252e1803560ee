/-! ===== the law: each case keeps what the loop keeps ===== -/
theorem gMs_hi {σ σ' : gS} {Y : Nat → Int} (he : gHi σ σ') (h : gMs σ Y) : gMs σ' Y := fun j hj => (he _ _ _ (by omega)).trans (h j hj)
theorem gInv_fl {σ : gS} (t : Int) (h : gInv σ) : gInv (gFl σ t) := by
  obtain ⟨Y, pm, P, sv, S, rs, dt, er, T, l, k, w, hC, hM, hV⟩ := h
  exact ⟨Y, pm, P, sv, S, rs, dt, er, T, l, k, w, CI_lo hV (gLow_fl t gLow_rf) hC, MI_fl t hM, hV⟩
theorem gInv_o {σ : gS} (x : Int64) (h : gInv σ) : gInv (gOl σ x) := by
  obtain ⟨Y, pm, P, sv, S, rs, dt, er, T, l, k, w, hC, hM, hV⟩ := h
  exact ⟨Y, pm, P, sv, S, rs, dt, er, T, l, k, w, CI_lo hV (gLow_o x) hC, MI_hi (gHi_o x gHi_rf) hM, hV⟩
theorem gInv_d {σ : gS} (x : UInt64) (h : gInv σ) : gInv (gOd σ x) := by
  obtain ⟨Y, pm, P, sv, S, rs, dt, er, T, l, k, w, hC, hM, hV⟩ := h
  exact ⟨Y, pm, P, sv, S, rs, dt, er, T, l, k, w, CI_lo hV (gLow_d x) hC, MI_hi (gHi_d x gHi_rf) hM, hV⟩
theorem gInv_55 {σ : gS} (z : Nat → Int) (h : gInv σ) : gInv (gPut σ 55 z) := by
  obtain ⟨Y, pm, P, sv, S, rs, dt, er, T, l, k, w, hC, hM, hV⟩ := h
  exact ⟨Y, pm, P, sv, S, rs, dt, er, T, l, k, w, CI_55 z hV hC, MI_hi (gHi_put _ _ gHi_rf) hM, hV⟩
theorem gInv_as {σ : gS} (t : Int) (h : gInv σ) : gInv (gAs σ t) := by
  obtain ⟨Y, pm, P, sv, S, rs, dt, er, T, l, k, w, hC, hM, hV⟩ := h
  exact ⟨Y, pm, P, sv, S, rs, dt, er, T, l, k, w, CI_lo hV (gLow_as t) hC, MI_as t hM, hV⟩
theorem gInv_kp {σ : gS} (h : gInv σ) : gInv (gKp σ) := by
  obtain ⟨Y, pm, P, sv, S, rs, dt, er, T, l, k, w, hC, hM, hV⟩ := h
  exact ⟨Y, pm, P, sv, S, rs, dt, er, T, l, k, w, CI_lo hV (gLow_kp gLow_rf) hC, MI_kp hM, hV⟩
theorem gEn_7 (τ : gS) (pm : Nat) : (gEn τ pm).1 14 0 7 = τ.1 14 0 7 := by
  unfold gEn gEq gSf
  split
  · rw [gU_at, if_neg (by omega), gCp_at, if_neg (by omega), gU_at, if_neg (by omega), gCp_at, if_neg (by omega)]
  · rw [gU_at, if_neg (by omega), gCp_at, if_neg (by omega)]
theorem gEn_2 (τ : gS) (pm : Nat) : (gEn τ pm).2 = τ.2 := by
  unfold gEn gEq gSf
  split <;> rfl
section CH
variable {σ : gS} {Y : Nat → Int} {pm : Nat} {P : Nat → Nat → Int} {sv : Int} {S : Nat → Int} {rs dt er : Int} {T : Nat → Int} {l k : Nat} {w : Nat → Int}
theorem gInv_ch {Y2 : Nat → Int} (x : Int64) (h2 : gY Y2) (hC : CI σ Y pm P sv S rs dt er T l k w) (hM : MI σ Y pm P sv S rs dt er T l k w) (hV : VI Y pm P sv S rs er k w) : gInv (gEn (gMp (gKp (gOl (gShPut (gRem σ Y) 0 Y2) x)) Y2) pm) := by
  have hV2 := VI_pu Y2 h2 hV
  have hM1 : MI (gOl (gShPut (gRem σ Y) 0 Y2) x) Y pm P sv S rs dt er T l k w := MI_hi (gHi_o x (gHi_sh _ _ (gHi_rem _ gHi_rf))) hM
  exact ⟨Y2, gPn pm, gPu P pm Y, sv, S, rs, dt, er, T, l, k, w, CI_lo hV2 (gLow_en _ (gLow_mp _ (gLow_kp gLow_rf))) (CI_lo hV2 (gLow_o x) (CI_ch h2 hV hC)), MI_ch hV hM1, hV2⟩
theorem gInv_ru {b p : Int} (hb : 100 ≤ b ∧ b < 800) (hC : CI σ Y pm P sv S rs dt er T l k w) (hM : MI σ Y pm P sv S rs dt er T l k w) (hV : VI Y pm P sv S rs er k w) : gInv (gRu (gKp (gRf σ b)) p (b / 100) (b % 100)) := by
  have hV2 : VI Y pm P sv S (b / 100) er k w := VI_rs (by omega) hV
  have hM1 : MI (gRf σ b) Y pm P sv S rs dt er T l k w := MI_hi (gHi_u _ _ _ _ (by omega) (gHi_u _ _ _ _ (by omega) gHi_rf)) hM
  exact ⟨Y, pm, P, sv, S, b / 100, b % 100, er, T, l, k, w, CI_lo hV2 (gLow_ru _ _ _ (gLow_kp gLow_rf)) (CI_rf b hV hC), MI_ru p _ _ (MI_kp hM1), hV2⟩
end CH
theorem s_om_800 {z : Nat → Int} (hz : gZ z) {n : Int} (hn : 0 ≤ n ∧ n ≤ 5) : s_om z n < 800 := by
  have b1 := s_sm_bd hz
  have b2 := s_wr_bd z
  have b3 := s_wc_bd z
  rcases s_om_cases z n with h | h | ⟨h0, h⟩ | h | h | ⟨h0, h⟩
  · omega
  · omega
  · omega
  · omega
  · omega
  · have f1 := s_fw_row (z := z) (by omega)
    have f2 := s_fw_col (z := z) (by omega)
    have g1 := s_f_bd hz (b := s_r1 z) (by omega)
    have g2 := s_f_bd hz (b := 6 + s_c1 z) (by omega)
    omega
theorem gMs_o {σ : gS} {Y : Nat → Int} (x : Int64) (h : gMs σ Y) : gMs (gOl σ x) Y := fun j hj => h j hj
theorem gMs_d {σ : gS} {Y : Nat → Int} (x : UInt64) (h : gMs σ Y) : gMs (gOd σ x) Y := fun j hj => h j hj
theorem gOb_800 {d : Nat} {Y : Nat → Int} {s r c k : Int} (hY : gY Y) (hd : d < 8) : gOb d Y s r c k < 800 := by
  have hY0 := hY.1
  by_cases d0 : d = 0
  · subst d0
    rw [gOb_z]
    unfold o_ad
    split
    · split <;> omega
    · omega
  by_cases hh : gHit Y s
  · have hz := hY.2 s.toNat (by omega)
    have hsm := s_sm_bd hz
    have bom := s_om_800 hz (n := s) (by omega)
    have q0 := hz.1
    have q1 := hz.2.1
    have hot : (0 ≤ r ∧ r < zb Y s.toNat 0) → (0 ≤ c ∧ c < zb Y s.toNat 1) → o_t (zb Y s.toNat) r c < 800 := fun h1 h2 => by unfold o_t; split <;> omega
    by_cases hx : gCel Y s r c
    · obtain rfl | rfl | rfl | rfl | rfl | rfl | rfl : d = 1 ∨ d = 2 ∨ d = 3 ∨ d = 4 ∨ d = 5 ∨ d = 6 ∨ d = 7 := by omega
      · rw [gOb_1 hx]; split <;> omega
      · rw [gOb_2 hx]
        split
        · exact hot hx.2.1 hx.2.2
        · omega
      · rw [gOb_3 hx]; exact hot hx.2.1 hx.2.2
      · rw [gOb_4 hh]; unfold o_s; split <;> omega
      · rw [gOb_5 hh]; unfold o_ad; split <;> omega
      · rw [gOb_6 hh]; omega
      · rw [gOb_7 hh]; unfold o_fl; split <;> omega
    · by_cases d3 : d ≤ 3
      · rw [gOb_cel d0 d3 hx]; omega
      · obtain rfl | rfl | rfl | rfl : d = 4 ∨ d = 5 ∨ d = 6 ∨ d = 7 := by omega
        · rw [gOb_4 hh]; unfold o_s; split <;> omega
        · rw [gOb_5 hh]; unfold o_ad; split <;> omega
        · rw [gOb_6 hh]; omega
        · rw [gOb_7 hh]; unfold o_fl; split <;> omega
  · rw [gOb_hit d0 hh]; omega
theorem gOb_no2 {d : Nat} {Y : Nat → Int} {s r c k : Int} (hY : gY Y) (hd : 3 ≤ d) (hd8 : d < 8) : gOb d Y s r c k ≠ 2 := by
  have hY0 := hY.1
  by_cases hh : gHit Y s
  · have hz := hY.2 s.toNat (by omega)
    have hsm := s_sm_bd hz
    have bom := s_om_hi hz (n := s) (by omega)
    by_cases q3 : d = 3
    · subst q3
      by_cases hx : gCel Y s r c
      · rw [gOb_3 hx]; unfold o_t; split <;> omega
      · rw [gOb_cel (by omega) (by omega) hx]; omega
    · obtain rfl | rfl | rfl | rfl : d = 4 ∨ d = 5 ∨ d = 6 ∨ d = 7 := by omega
      · rw [gOb_4 hh]; unfold o_s; split <;> omega
      · rw [gOb_5 hh]; unfold o_ad; split <;> omega
      · rw [gOb_6 hh]; omega
      · rw [gOb_7 hh]; unfold o_fl; split <;> omega
  · rw [gOb_hit (by omega) hh]; omega
theorem gOb_w1 {Y : Nat → Int} {s r c k : Int} : gOb 1 Y s r c k ≤ 2 := by
  by_cases hx : gCel Y s r c
  · rw [gOb_1 hx]; split <;> omega
  · rw [gOb_cel (by omega) (by omega) hx]; omega
theorem gOb_z1 {Y : Nat → Int} {s r c k : Int} : gOb 0 Y s r c k ≠ 1 := by
  rw [gOb_z]
  unfold o_ad
  split
  · split <;> omega
  · omega
theorem s_om_1 {z : Nat → Int} {n : Int} (h1 : z 2 = 1) (h2 : s_sm z = 0) (h3 : s_mb z) : s_om z n = 0 := by
  unfold s_om
  rw [if_neg (by omega), if_neg (by omega), if_neg (by have := h3.1; omega), if_neg (by have := h3.1; have := h3.2.1; omega), if_pos h3.2.2]
theorem c6_scrollOfI {E : gE} {σ : gS} (Y : Nat → Int) (h : gSh σ 0 Y) (hY : gY Y) (s k : Int) (hs : -2147483648 ≤ s ∧ s < 2147483648) (hh : gHit Y s) (hk : 0 ≤ k ∧ k ≤ 6) : gCt E mX6_scrollOf 12 0 [rf 0 0, iv s, iv k] σ (.inl (some (iv (s_of (zb Y s.toNat) k.toNat)))) σ := by
  obtain ⟨k, rfl⟩ : ∃ k2 : Nat, k = (k2 : Int) := ⟨k.toNat, by omega⟩
  exact c6_scrollOf Y h hY s k hs hh (by omega)
theorem c7_scrollOfI {E : gE} {σ : gS} (Y : Nat → Int) (h : gMs σ Y) (hY : gY Y) (s k : Int) (hs : -2147483648 ≤ s ∧ s < 2147483648) (hh : gHit Y s) (hk : 0 ≤ k ∧ k ≤ 6) : gCt E mX7_scrollOf 12 0 [rf 14 0, iv s, iv k] σ (.inl (some (iv (s_of (zb Y s.toNat) k.toNat)))) (gFl σ 0) := by
  obtain ⟨k, rfl⟩ : ∃ k2 : Nat, k = (k2 : Int) := ⟨k.toNat, by omega⟩
  exact c7_scrollOf Y h hY s k hs hh (by omega)
theorem v_scrollOf {X : gM} {E : gE} {D n cells slots b L9 i : Nat} {xs : Nat → Int32} {σ : gS} (K : gK X E mL_law D n) (S : hSc X E b L9 xs) (hi5 : i + 5 ≤ L9) (hD : 20 ≤ D) (hc : cells + 1 ≤ n) (hs : slots + 6 ≤ 6 * n) (hI : gInv σ) (kn : ∀ σ' : gS, gInv σ' → gWX X E (cells + 1) (slots + 6) 2519 (wL b i) [] σ') : gWX X E cells slots 280 (wL b i) [] σ := by
  obtain ⟨Y, pm, P, sv, S9, rs, dt, er, T, l, k, w, hC, hM, hV⟩ := id hI
  have hY := hV.1
  have h6 := hC.1.1
  have h7 := hM.1.1
  have ra := sx_r xs (i + 1)
  have rb := sx_r xs (i + 2)
  have rc := sx_r xs (i + 3)
  have rd := sx_r xs (i + 4)
  by_cases hh : gHit Y (sx xs (i + 1))
  · by_cases hk : 0 ≤ (sx xs (i + 2)) ∧ (sx xs (i + 2)) ≤ 6
    · exact w_scrollOf K S hi5 hD hc hs (l_scrollOf _ _ _ 0 (by omega) (c6_scrollOfI Y h6 hY _ _ ra hh hk)) (c7_scrollOfI Y (gMs_o _ h7) hY _ _ ra hh hk) (by omega) rfl (fun _ => rfl) (kn _ (gInv_fl 0 (gInv_o _ hI)))
    · exact w_scrollOf K S hi5 hD hc hs (l_scrollOf_2 _ _ 1 (by omega) (c6_scrollOf_2 Y h6 hY _ _ ra rb hh hk)) (c7_scrollOf_2 Y h7 hY _ _ ra rb hh hk) (by omega) rfl (fun h => absurd h (by omega)) (kn _ (gInv_fl 2 hI))
  · exact w_scrollOf K S hi5 hD hc hs (l_scrollOf_1 _ _ 1 (by omega) (c6_scrollOf_1 Y h6 hY _ _ ra rb hh)) (c7_scrollOf_1 Y h7 hY _ _ ra rb hh) (by omega) rfl (fun h => absurd h (by omega)) (kn _ (gInv_fl 1 hI))
theorem v_signAt {X : gM} {E : gE} {D n cells slots b L9 i : Nat} {xs : Nat → Int32} {σ : gS} (K : gK X E mL_law D n) (S : hSc X E b L9 xs) (hi5 : i + 5 ≤ L9) (hD : 20 ≤ D) (hc : cells + 1 ≤ n) (hs : slots + 6 ≤ 6 * n) (hI : gInv σ) (kn : ∀ σ' : gS, gInv σ' → gWX X E (cells + 1) (slots + 6) 2519 (wL b i) [] σ') : gWX X E cells slots 440 (wL b i) [] σ := by
  obtain ⟨Y, pm, P, sv, S9, rs, dt, er, T, l, k, w, hC, hM, hV⟩ := id hI
  have hY := hV.1
  have h6 := hC.1.1
  have h7 := hM.1.1
  have ra := sx_r xs (i + 1)
  have rb := sx_r xs (i + 2)
  have rc := sx_r xs (i + 3)
  have rd := sx_r xs (i + 4)
  by_cases hh : gCel Y (sx xs (i + 1)) (sx xs (i + 2)) (sx xs (i + 3))
  · exact w_signAt K S hi5 hD hc hs (l_signAt _ _ _ _ 0 (by omega) (c6_signAt Y h6 hY _ _ _ ra rb rc hh)) (c7_signAt Y (gMs_o _ h7) hY _ _ _ ra rb rc hh) (by omega) rfl (fun _ => rfl) (kn _ (gInv_fl 0 (gInv_o _ hI)))
  · exact w_signAt K S hi5 hD hc hs (l_signAt_1 _ _ _ 1 (by omega) (c6_signAt_1 Y h6 hY _ _ _ ra rb rc hh)) (c7_signAt_1 Y h7 hY _ _ _ ra rb rc hh) (by omega) rfl (fun h => absurd h (by omega)) (kn _ (gInv_fl 1 hI))
theorem v_isInDoubt {X : gM} {E : gE} {D n cells slots b L9 i : Nat} {xs : Nat → Int32} {σ : gS} (K : gK X E mL_law D n) (S : hSc X E b L9 xs) (hi5 : i + 5 ≤ L9) (hD : 20 ≤ D) (hc : cells + 1 ≤ n) (hs : slots + 6 ≤ 6 * n) (hI : gInv σ) (kn : ∀ σ' : gS, gInv σ' → gWX X E (cells + 1) (slots + 6) 2519 (wL b i) [] σ') : gWX X E cells slots 1188 (wL b i) [] σ := by
  obtain ⟨Y, pm, P, sv, S9, rs, dt, er, T, l, k, w, hC, hM, hV⟩ := id hI
  have hY := hV.1
  have h6 := hC.1.1
  have h7 := hM.1.1
  have ra := sx_r xs (i + 1)
  have rb := sx_r xs (i + 2)
  have rc := sx_r xs (i + 3)
  have rd := sx_r xs (i + 4)
  by_cases hh : gCel Y (sx xs (i + 1)) (sx xs (i + 2)) (sx xs (i + 3))
  · exact w_isInDoubt K S hi5 hD hc hs (l_isInDoubt _ _ _ _ (by have := gB1_bd (s_df (zb Y (sx xs (i + 1)).toNat) (sx xs (i + 2)).toNat (sx xs (i + 3)).toNat = true); omega) 0 (by omega) (c6_isInDoubt Y h6 hY _ _ _ ra rb rc hh)) (c7_isInDoubt Y (gMs_o _ h7) hY _ _ _ ra rb rc hh) (by omega) rfl (fun _ => rfl) (by have := gB1_bd (s_df (zb Y (sx xs (i + 1)).toNat) (sx xs (i + 2)).toNat (sx xs (i + 3)).toNat = true); omega) (kn _ (gInv_fl 0 (gInv_o _ hI)))
  · exact w_isInDoubt K S hi5 hD hc hs (l_isInDoubt_1 _ _ _ 1 (by omega) (c6_isInDoubt_1 Y h6 hY _ _ _ ra rb rc hh)) (c7_isInDoubt_1 Y h7 hY _ _ _ ra rb rc hh) (by omega) rfl (fun h => absurd h (by omega)) (Or.inl rfl) (kn _ (gInv_fl 1 hI))
theorem v_rowSum {X : gM} {E : gE} {D n cells slots b L9 i : Nat} {xs : Nat → Int32} {σ : gS} (K : gK X E mL_law D n) (S : hSc X E b L9 xs) (hi5 : i + 5 ≤ L9) (hD : 20 ≤ D) (hc : cells + 1 ≤ n) (hs : slots + 6 ≤ 6 * n) (hI : gInv σ) (kn : ∀ σ' : gS, gInv σ' → gWX X E (cells + 1) (slots + 6) 2519 (wL b i) [] σ') : gWX X E cells slots 804 (wL b i) [] σ := by
  obtain ⟨Y, pm, P, sv, S9, rs, dt, er, T, l, k, w, hC, hM, hV⟩ := id hI
  have hY := hV.1
  have h6 := hC.1.1
  have h7 := hM.1.1
  have ra := sx_r xs (i + 1)
  have rb := sx_r xs (i + 2)
  have rc := sx_r xs (i + 3)
  have rd := sx_r xs (i + 4)
  by_cases hh : gRow Y (sx xs (i + 1)) (sx xs (i + 2))
  · have hz := hY.2 (sx xs (i + 1)).toNat (by have := hh.1; omega)
    by_cases hz2 : zb Y (sx xs (i + 1)).toNat 2 = 1
    · exact w_rowSum K S hi5 hD hc hs (l_rowSum _ _ _ 0 (by omega) (c6_rowSum Y h6 hY _ _ ra rb hh hz2)) (c7_rowSum Y (gMs_o _ h7) hY _ _ ra rb hh hz2) (by omega) rfl (fun _ => rfl) (kn _ (gInv_fl 0 (gInv_o _ hI)))
    · have hz0 : zb Y (sx xs (i + 1)).toNat 2 = 0 := hz.2.2.1.elim id (fun q => absurd q hz2)
      exact w_rowSum K S hi5 hD hc hs (l_rowSum_2 _ _ 1 (by omega) (c6_rowSum_2 Y h6 hY _ _ ra rb hh hz0)) (c7_rowSum_2 Y h7 hY _ _ ra rb hh hz0) (by omega) rfl (fun h => absurd h (by omega)) (kn _ (gInv_fl 2 hI))
  · exact w_rowSum K S hi5 hD hc hs (l_rowSum_1 _ _ 1 (by omega) (c6_rowSum_1 Y h6 hY _ _ ra rb hh)) (c7_rowSum_1 Y h7 hY _ _ ra rb hh) (by omega) rfl (fun h => absurd h (by omega)) (kn _ (gInv_fl 1 hI))
theorem v_columnSum {X : gM} {E : gE} {D n cells slots b L9 i : Nat} {xs : Nat → Int32} {σ : gS} (K : gK X E mL_law D n) (S : hSc X E b L9 xs) (hi5 : i + 5 ≤ L9) (hD : 20 ≤ D) (hc : cells + 1 ≤ n) (hs : slots + 6 ≤ 6 * n) (hI : gInv σ) (kn : ∀ σ' : gS, gInv σ' → gWX X E (cells + 1) (slots + 6) 2519 (wL b i) [] σ') : gWX X E cells slots 872 (wL b i) [] σ := by
  obtain ⟨Y, pm, P, sv, S9, rs, dt, er, T, l, k, w, hC, hM, hV⟩ := id hI
  have hY := hV.1
  have h6 := hC.1.1
  have h7 := hM.1.1
  have ra := sx_r xs (i + 1)
  have rb := sx_r xs (i + 2)
  have rc := sx_r xs (i + 3)
  have rd := sx_r xs (i + 4)
  by_cases hh : gCol Y (sx xs (i + 1)) (sx xs (i + 2))
  · have hz := hY.2 (sx xs (i + 1)).toNat (by have := hh.1; omega)
    by_cases hz2 : zb Y (sx xs (i + 1)).toNat 2 = 1
    · exact w_columnSum K S hi5 hD hc hs (l_columnSum _ _ _ 0 (by omega) (c6_columnSum Y h6 hY _ _ ra rb hh hz2)) (c7_columnSum Y (gMs_o _ h7) hY _ _ ra rb hh hz2) (by omega) rfl (fun _ => rfl) (kn _ (gInv_fl 0 (gInv_o _ hI)))
    · have hz0 : zb Y (sx xs (i + 1)).toNat 2 = 0 := hz.2.2.1.elim id (fun q => absurd q hz2)
      exact w_columnSum K S hi5 hD hc hs (l_columnSum_2 _ _ 1 (by omega) (c6_columnSum_2 Y h6 hY _ _ ra rb hh hz0)) (c7_columnSum_2 Y h7 hY _ _ ra rb hh hz0) (by omega) rfl (fun h => absurd h (by omega)) (kn _ (gInv_fl 2 hI))
  · exact w_columnSum K S hi5 hD hc hs (l_columnSum_1 _ _ 1 (by omega) (c6_columnSum_1 Y h6 hY _ _ ra rb hh)) (c7_columnSum_1 Y h7 hY _ _ ra rb hh) (by omega) rfl (fun h => absurd h (by omega)) (kn _ (gInv_fl 1 hI))
theorem v_rowFault {X : gM} {E : gE} {D n cells slots b L9 i : Nat} {xs : Nat → Int32} {σ : gS} (K : gK X E mL_law D n) (S : hSc X E b L9 xs) (hi5 : i + 5 ≤ L9) (hD : 20 ≤ D) (hc : cells + 1 ≤ n) (hs : slots + 6 ≤ 6 * n) (hI : gInv σ) (kn : ∀ σ' : gS, gInv σ' → gWX X E (cells + 1) (slots + 6) 2519 (wL b i) [] σ') : gWX X E cells slots 940 (wL b i) [] σ := by
  obtain ⟨Y, pm, P, sv, S9, rs, dt, er, T, l, k, w, hC, hM, hV⟩ := id hI
  have hY := hV.1
  have h6 := hC.1.1
  have h7 := hM.1.1
  have ra := sx_r xs (i + 1)
  have rb := sx_r xs (i + 2)
  have rc := sx_r xs (i + 3)
  have rd := sx_r xs (i + 4)
  by_cases hh : gRow Y (sx xs (i + 1)) (sx xs (i + 2))
  · have hz := hY.2 (sx xs (i + 1)).toNat (by have := hh.1; omega)
    by_cases hz2 : zb Y (sx xs (i + 1)).toNat 2 = 1
    · exact w_rowFault K S hi5 hD hc hs (l_rowFault _ _ _ 0 (by omega) (c6_rowFault Y h6 hY _ _ ra rb hh hz2)) (c7_rowFault Y (gMs_o _ h7) hY _ _ ra rb hh hz2) (by omega) rfl (fun _ => rfl) (kn _ (gInv_fl 0 (gInv_o _ hI)))
    · have hz0 : zb Y (sx xs (i + 1)).toNat 2 = 0 := hz.2.2.1.elim id (fun q => absurd q hz2)
      exact w_rowFault K S hi5 hD hc hs (l_rowFault_2 _ _ 1 (by omega) (c6_rowFault_2 Y h6 hY _ _ ra rb hh hz0)) (c7_rowFault_2 Y h7 hY _ _ ra rb hh hz0) (by omega) rfl (fun h => absurd h (by omega)) (kn _ (gInv_fl 2 hI))
  · exact w_rowFault K S hi5 hD hc hs (l_rowFault_1 _ _ 1 (by omega) (c6_rowFault_1 Y h6 hY _ _ ra rb hh)) (c7_rowFault_1 Y h7 hY _ _ ra rb hh) (by omega) rfl (fun h => absurd h (by omega)) (kn _ (gInv_fl 1 hI))
theorem v_columnFault {X : gM} {E : gE} {D n cells slots b L9 i : Nat} {xs : Nat → Int32} {σ : gS} (K : gK X E mL_law D n) (S : hSc X E b L9 xs) (hi5 : i + 5 ≤ L9) (hD : 20 ≤ D) (hc : cells + 1 ≤ n) (hs : slots + 6 ≤ 6 * n) (hI : gInv σ) (kn : ∀ σ' : gS, gInv σ' → gWX X E (cells + 1) (slots + 6) 2519 (wL b i) [] σ') : gWX X E cells slots 1008 (wL b i) [] σ := by
  obtain ⟨Y, pm, P, sv, S9, rs, dt, er, T, l, k, w, hC, hM, hV⟩ := id hI
  have hY := hV.1
  have h6 := hC.1.1
  have h7 := hM.1.1
  have ra := sx_r xs (i + 1)
  have rb := sx_r xs (i + 2)
  have rc := sx_r xs (i + 3)
  have rd := sx_r xs (i + 4)
  by_cases hh : gCol Y (sx xs (i + 1)) (sx xs (i + 2))
  · have hz := hY.2 (sx xs (i + 1)).toNat (by have := hh.1; omega)
    by_cases hz2 : zb Y (sx xs (i + 1)).toNat 2 = 1
    · exact w_columnFault K S hi5 hD hc hs (l_columnFault _ _ _ 0 (by omega) (c6_columnFault Y h6 hY _ _ ra rb hh hz2)) (c7_columnFault Y (gMs_o _ h7) hY _ _ ra rb hh hz2) (by omega) rfl (fun _ => rfl) (kn _ (gInv_fl 0 (gInv_o _ hI)))
    · have hz0 : zb Y (sx xs (i + 1)).toNat 2 = 0 := hz.2.2.1.elim id (fun q => absurd q hz2)
      exact w_columnFault K S hi5 hD hc hs (l_columnFault_2 _ _ 1 (by omega) (c6_columnFault_2 Y h6 hY _ _ ra rb hh hz0)) (c7_columnFault_2 Y h7 hY _ _ ra rb hh hz0) (by omega) rfl (fun h => absurd h (by omega)) (kn _ (gInv_fl 2 hI))
  · exact w_columnFault K S hi5 hD hc hs (l_columnFault_1 _ _ 1 (by omega) (c6_columnFault_1 Y h6 hY _ _ ra rb hh)) (c7_columnFault_1 Y h7 hY _ _ ra rb hh) (by omega) rfl (fun h => absurd h (by omega)) (kn _ (gInv_fl 1 hI))
theorem v_wrongRows {X : gM} {E : gE} {D n cells slots b L9 i : Nat} {xs : Nat → Int32} {σ : gS} (K : gK X E mL_law D n) (S : hSc X E b L9 xs) (hi5 : i + 5 ≤ L9) (hD : 20 ≤ D) (hc : cells + 1 ≤ n) (hs : slots + 6 ≤ 6 * n) (hI : gInv σ) (kn : ∀ σ' : gS, gInv σ' → gWX X E (cells + 1) (slots + 6) 2519 (wL b i) [] σ') : gWX X E cells slots 1076 (wL b i) [] σ := by
  obtain ⟨Y, pm, P, sv, S9, rs, dt, er, T, l, k, w, hC, hM, hV⟩ := id hI
  have hY := hV.1
  have h6 := hC.1.1
  have h7 := hM.1.1
  have ra := sx_r xs (i + 1)
  have rb := sx_r xs (i + 2)
  have rc := sx_r xs (i + 3)
  have rd := sx_r xs (i + 4)
  by_cases hh : gHit Y (sx xs (i + 1))
  · have hz := hY.2 (sx xs (i + 1)).toNat (by omega)
    by_cases hz2 : zb Y (sx xs (i + 1)).toNat 2 = 1
    · exact w_wrongRows K S hi5 hD hc hs (l_wrongRows _ _ 0 (by omega) (c6_wrongRows Y h6 hY _ ra hh hz2)) (c7_wrongRows Y (gMs_o _ h7) hY _ ra hh hz2) (by omega) rfl (fun _ => rfl) (kn _ (gInv_fl 0 (gInv_o _ hI)))
    · have hz0 : zb Y (sx xs (i + 1)).toNat 2 = 0 := hz.2.2.1.elim id (fun q => absurd q hz2)
      exact w_wrongRows K S hi5 hD hc hs (l_wrongRows_2 _ 1 (by omega) (c6_wrongRows_2 Y h6 hY _ ra hh hz0)) (c7_wrongRows_2 Y h7 hY _ ra hh hz0) (by omega) rfl (fun h => absurd h (by omega)) (kn _ (gInv_fl 2 hI))
  · exact w_wrongRows K S hi5 hD hc hs (l_wrongRows_1 _ 1 (by omega) (c6_wrongRows_1 Y h6 hY _ ra hh)) (c7_wrongRows_1 Y h7 hY _ ra hh) (by omega) rfl (fun h => absurd h (by omega)) (kn _ (gInv_fl 1 hI))
theorem v_wrongColumns {X : gM} {E : gE} {D n cells slots b L9 i : Nat} {xs : Nat → Int32} {σ : gS} (K : gK X E mL_law D n) (S : hSc X E b L9 xs) (hi5 : i + 5 ≤ L9) (hD : 20 ≤ D) (hc : cells + 1 ≤ n) (hs : slots + 6 ≤ 6 * n) (hI : gInv σ) (kn : ∀ σ' : gS, gInv σ' → gWX X E (cells + 1) (slots + 6) 2519 (wL b i) [] σ') : gWX X E cells slots 1132 (wL b i) [] σ := by
  obtain ⟨Y, pm, P, sv, S9, rs, dt, er, T, l, k, w, hC, hM, hV⟩ := id hI
  have hY := hV.1
  have h6 := hC.1.1
  have h7 := hM.1.1
  have ra := sx_r xs (i + 1)
  have rb := sx_r xs (i + 2)
  have rc := sx_r xs (i + 3)
  have rd := sx_r xs (i + 4)
  by_cases hh : gHit Y (sx xs (i + 1))
  · have hz := hY.2 (sx xs (i + 1)).toNat (by omega)
    by_cases hz2 : zb Y (sx xs (i + 1)).toNat 2 = 1
    · exact w_wrongColumns K S hi5 hD hc hs (l_wrongColumns _ _ 0 (by omega) (c6_wrongColumns Y h6 hY _ ra hh hz2)) (c7_wrongColumns Y (gMs_o _ h7) hY _ ra hh hz2) (by omega) rfl (fun _ => rfl) (kn _ (gInv_fl 0 (gInv_o _ hI)))
    · have hz0 : zb Y (sx xs (i + 1)).toNat 2 = 0 := hz.2.2.1.elim id (fun q => absurd q hz2)
      exact w_wrongColumns K S hi5 hD hc hs (l_wrongColumns_2 _ 1 (by omega) (c6_wrongColumns_2 Y h6 hY _ ra hh hz0)) (c7_wrongColumns_2 Y h7 hY _ ra hh hz0) (by omega) rfl (fun h => absurd h (by omega)) (kn _ (gInv_fl 2 hI))
  · exact w_wrongColumns K S hi5 hD hc hs (l_wrongColumns_1 _ 1 (by omega) (c6_wrongColumns_1 Y h6 hY _ ra hh)) (c7_wrongColumns_1 Y h7 hY _ ra hh) (by omega) rfl (fun h => absurd h (by omega)) (kn _ (gInv_fl 1 hI))
theorem v_doubts {X : gM} {E : gE} {D n cells slots b L9 i : Nat} {xs : Nat → Int32} {σ : gS} (K : gK X E mL_law D n) (S : hSc X E b L9 xs) (hi5 : i + 5 ≤ L9) (hD : 20 ≤ D) (hc : cells + 1 ≤ n) (hs : slots + 6 ≤ 6 * n) (hI : gInv σ) (kn : ∀ σ' : gS, gInv σ' → gWX X E (cells + 1) (slots + 6) 2519 (wL b i) [] σ') : gWX X E cells slots 1275 (wL b i) [] σ := by
  obtain ⟨Y, pm, P, sv, S9, rs, dt, er, T, l, k, w, hC, hM, hV⟩ := id hI
  have hY := hV.1
  have h6 := hC.1.1
  have h7 := hM.1.1
  have ra := sx_r xs (i + 1)
  have rb := sx_r xs (i + 2)
  have rc := sx_r xs (i + 3)
  have rd := sx_r xs (i + 4)
  by_cases hh : gHit Y (sx xs (i + 1))
  · exact w_doubts K S hi5 hD hc hs (l_doubts _ _ 0 (by omega) (c6_doubts Y h6 hY _ ra hh)) (c7_doubts Y (gMs_o _ h7) hY _ ra hh) (by omega) rfl (fun _ => rfl) (kn _ (gInv_fl 0 (gInv_o _ hI)))
  · exact w_doubts K S hi5 hD hc hs (l_doubts_1 _ 1 (by omega) (c6_doubts_1 Y h6 hY _ ra hh)) (c7_doubts_1 Y h7 hY _ ra hh) (by omega) rfl (fun h => absurd h (by omega)) (kn _ (gInv_fl 1 hI))
theorem v_doubtsAgain {X : gM} {E : gE} {D n cells slots b L9 i : Nat} {xs : Nat → Int32} {σ : gS} (K : gK X E mL_law D n) (S : hSc X E b L9 xs) (hi5 : i + 5 ≤ L9) (hD : 20 ≤ D) (hc : cells + 1 ≤ n) (hs : slots + 6 ≤ 6 * n) (hI : gInv σ) (kn : ∀ σ' : gS, gInv σ' → gWX X E (cells + 1) (slots + 6) 2519 (wL b i) [] σ') : gWX X E cells slots 1331 (wL b i) [] σ := by
  obtain ⟨Y, pm, P, sv, S9, rs, dt, er, T, l, k, w, hC, hM, hV⟩ := id hI
  have hY := hV.1
  have h6 := hC.1.1
  have h7 := hM.1.1
  have ra := sx_r xs (i + 1)
  have rb := sx_r xs (i + 2)
  have rc := sx_r xs (i + 3)
  have rd := sx_r xs (i + 4)
  by_cases hh : gHit Y (sx xs (i + 1))
  · have hz := hY.2 (sx xs (i + 1)).toNat (by omega)
    exact w_doubtsAgain K S hi5 hD hc hs (l_doubtsAgain _ _ 0 (by omega) (c6_doubtsAgain Y h6 hY _ ra hh)) (c7_doubtsAgain Y (gMs_o _ h7) hY _ ra hh) (by omega) rfl (fun _ => congrArg lv (s_db_dp hz).symm) (kn _ (gInv_fl 0 (gInv_o _ hI)))
  · exact w_doubtsAgain K S hi5 hD hc hs (l_doubtsAgain_1 _ 1 (by omega) (c6_doubtsAgain_1 Y h6 hY _ ra hh)) (c7_doubtsAgain_1 Y h7 hY _ ra hh) (by omega) rfl (fun h => absurd h (by omega)) (kn _ (gInv_fl 1 hI))
theorem v_wouldMend {X : gM} {E : gE} {D n cells slots b L9 i : Nat} {xs : Nat → Int32} {σ : gS} (K : gK X E mL_law D n) (S : hSc X E b L9 xs) (hi5 : i + 5 ≤ L9) (hD : 20 ≤ D) (hc : cells + 1 ≤ n) (hs : slots + 6 ≤ 6 * n) (hI : gInv σ) (kn : ∀ σ' : gS, gInv σ' → gWX X E (cells + 1) (slots + 6) 2519 (wL b i) [] σ') : gWX X E cells slots 1443 (wL b i) [] σ := by
  obtain ⟨Y, pm, P, sv, S9, rs, dt, er, T, l, k, w, hC, hM, hV⟩ := id hI
  have hY := hV.1
  have h6 := hC.1.1
  have h7 := hM.1.1
  have ra := sx_r xs (i + 1)
  have rb := sx_r xs (i + 2)
  have rc := sx_r xs (i + 3)
  have rd := sx_r xs (i + 4)
  by_cases hh : gHit Y (sx xs (i + 1))
  · by_cases hom : s_om (zb Y (sx xs (i + 1)).toNat) (sx xs (i + 1)) = 0
    · exact w_wouldMend K S hi5 hD hc hs (l_wouldMend _ _ 0 (by omega) (c6_wouldMend Y h6 hY _ ra hh hom)) (c7_wouldMend Y (gMs_o _ h7) hY _ ra hh hom) (by omega) rfl (fun _ => rfl) (kn _ (gInv_fl 0 (gInv_o _ hI)))
    · exact w_wouldMend K S hi5 hD hc hs (l_wouldMend_2 _ 1 (by omega) (c6_wouldMend_2 Y h6 hY _ ra hh hom)) (c7_wouldMend_2 Y h7 hY _ ra hh hom) (by omega) rfl (fun h => absurd h (by omega)) (kn _ (gInv_fl 2 hI))
  · exact w_wouldMend K S hi5 hD hc hs (l_wouldMend_1 _ 1 (by omega) (c6_wouldMend_1 Y h6 hY _ ra hh)) (c7_wouldMend_1 Y h7 hY _ ra hh) (by omega) rfl (fun h => absurd h (by omega)) (kn _ (gInv_fl 1 hI))
theorem v_mendAgain {X : gM} {E : gE} {D n cells slots b L9 i : Nat} {xs : Nat → Int32} {σ : gS} (K : gK X E mL_law D n) (S : hSc X E b L9 xs) (hi5 : i + 5 ≤ L9) (hD : 20 ≤ D) (hc : cells + 1 ≤ n) (hs : slots + 6 ≤ 6 * n) (hI : gInv σ) (kn : ∀ σ' : gS, gInv σ' → gWX X E (cells + 1) (slots + 6) 2519 (wL b i) [] σ') : gWX X E cells slots 1499 (wL b i) [] σ := by
  obtain ⟨Y, pm, P, sv, S9, rs, dt, er, T, l, k, w, hC, hM, hV⟩ := id hI
  have hY := hV.1
  have h6 := hC.1.1
  have h7 := hM.1.1
  have ra := sx_r xs (i + 1)
  have rb := sx_r xs (i + 2)
  have rc := sx_r xs (i + 3)
  have rd := sx_r xs (i + 4)
  by_cases hh : gHit Y (sx xs (i + 1))
  · have hz := hY.2 (sx xs (i + 1)).toNat (by omega)
    have bsm := s_sm_bd hz
    by_cases hz2 : zb Y (sx xs (i + 1)).toNat 2 = 1
    · by_cases hbad : 0 < s_sm (zb Y (sx xs (i + 1)).toNat) ∨ s_fw (zb Y (sx xs (i + 1)).toNat) 0 = -1
      · have hom : s_om (zb Y (sx xs (i + 1)).toNat) (sx xs (i + 1)) ≠ 0 := fun q => by
            obtain ⟨o1, o2, o3⟩ := s_om_0 hz hh.1 q
            have f1 := (s_fw_row (z := (zb Y (sx xs (i + 1)).toNat)) (by have := o3.1; omega)).1
            omega
        exact w_mendAgain K S hi5 hD hc hs (l_mendAgain_2 _ 1 (by omega) (c6_mendAgain_3 Y h6 hY _ ra hh hz2 hbad)) (c7_mendAgain_2 Y h7 hY _ ra hh hom) (by omega) rfl (fun h => absurd h (by omega)) (kn _ (gInv_fl 2 hI))
      · by_cases hmb : s_mb (zb Y (sx xs (i + 1)).toNat)
        · have hom : s_om (zb Y (sx xs (i + 1)).toNat) (sx xs (i + 1)) = 0 := s_om_1 hz2 (by omega) hmb
          exact w_mendAgain K S hi5 hD hc hs (l_mendAgain _ _ 0 (by omega) (c6_mendAgain Y h6 hY _ ra hh hz2 (by omega) (by omega) hmb)) (c7_mendAgain Y (gMs_hi (gHi_o _ (gHi_put _ _ gHi_rf)) h7) hY _ ra hh hom) (by omega) rfl (fun _ => rfl) (kn _ (gInv_fl 0 (gInv_o _ (gInv_55 _ hI))))
        · have hom : s_om (zb Y (sx xs (i + 1)).toNat) (sx xs (i + 1)) ≠ 0 := fun q => hmb (s_om_0 hz hh.1 q).2.2
          exact w_mendAgain K S hi5 hD hc hs (l_mendAgain_2 _ 1 (by omega) (c6_mendAgain_4 Y h6 hY _ ra hh hz2 (by omega) (by omega) hmb)) (c7_mendAgain_2 Y (gMs_hi (gHi_put _ _ gHi_rf) h7) hY _ ra hh hom) (by omega) rfl (fun h => absurd h (by omega)) (kn _ (gInv_fl 2 (gInv_55 _ hI)))
    · have hz0 : zb Y (sx xs (i + 1)).toNat 2 = 0 := hz.2.2.1.elim id (fun q => absurd q hz2)
      have hom : s_om (zb Y (sx xs (i + 1)).toNat) (sx xs (i + 1)) ≠ 0 := fun q => hz2 (s_om_0 hz hh.1 q).1
      exact w_mendAgain K S hi5 hD hc hs (l_mendAgain_2 _ 1 (by omega) (c6_mendAgain_2 Y h6 hY _ ra hh hz0)) (c7_mendAgain_2 Y h7 hY _ ra hh hom) (by omega) rfl (fun h => absurd h (by omega)) (kn _ (gInv_fl 2 hI))
  · exact w_mendAgain K S hi5 hD hc hs (l_mendAgain_1 _ 1 (by omega) (c6_mendAgain_1 Y h6 hY _ ra hh)) (c7_mendAgain_1 Y h7 hY _ ra hh) (by omega) rfl (fun h => absurd h (by omega)) (kn _ (gInv_fl 1 hI))
theorem v_wouldFill {X : gM} {E : gE} {D n cells slots b L9 i : Nat} {xs : Nat → Int32} {σ : gS} (K : gK X E mL_law D n) (S : hSc X E b L9 xs) (hi5 : i + 5 ≤ L9) (hD : 20 ≤ D) (hc : cells + 1 ≤ n) (hs : slots + 6 ≤ 6 * n) (hI : gInv σ) (kn : ∀ σ' : gS, gInv σ' → gWX X E (cells + 1) (slots + 6) 2519 (wL b i) [] σ') : gWX X E cells slots 1611 (wL b i) [] σ := by
  obtain ⟨Y, pm, P, sv, S9, rs, dt, er, T, l, k, w, hC, hM, hV⟩ := id hI
  have hY := hV.1
  have h6 := hC.1.1
  have h7 := hM.1.1
  have ra := sx_r xs (i + 1)
  have rb := sx_r xs (i + 2)
  have rc := sx_r xs (i + 3)
  have rd := sx_r xs (i + 4)
  by_cases hh : gCel Y (sx xs (i + 1)) (sx xs (i + 2)) (sx xs (i + 3))
  · have hz := hY.2 (sx xs (i + 1)).toNat (by have := hh.1; omega)
    by_cases hz2 : zb Y (sx xs (i + 1)).toNat 2 = 1
    · by_cases hns : zb Y (sx xs (i + 1)).toNat (20 + (8 * (sx xs (i + 2)).toNat + (sx xs (i + 3)).toNat)) = -1
      · by_cases hst : zFill (zb Y (sx xs (i + 1)).toNat) (20 + (8 * (sx xs (i + 2)).toNat + (sx xs (i + 3)).toNat)) = -1
        · exact w_wouldFill K S hi5 hD hc hs (l_wouldFill_2 _ _ _ 1 (by omega) (c6_wouldFill_4 Y h6 hY _ _ _ ra rb rc hh hz2 hns hst)) (c7_wouldFill_4 Y (gMs_hi (gHi_put _ _ gHi_rf) h7) hY _ _ _ ra rb rc hh hz2 hns hst) (by omega) rfl (fun h => absurd h (by omega)) (kn _ (gInv_as 2 (gInv_55 _ hI)))
        · exact w_wouldFill K S hi5 hD hc hs (l_wouldFill _ _ _ _ 0 (by omega) (c6_wouldFill Y h6 hY _ _ _ ra rb rc hh hz2 hns hst)) (c7_wouldFill Y (gMs_hi (gHi_o _ (gHi_put _ _ gHi_rf)) h7) hY _ _ _ ra rb rc hh hz2 hns hst) (by omega) rfl (fun _ => rfl) (kn _ (gInv_as 0 (gInv_o _ (gInv_55 _ hI))))
      · exact w_wouldFill K S hi5 hD hc hs (l_wouldFill_2 _ _ _ 1 (by omega) (c6_wouldFill_3 Y h6 hY _ _ _ ra rb rc hh hz2 hns)) (c7_wouldFill_3 Y h7 hY _ _ _ ra rb rc hh hz2 hns) (by omega) rfl (fun h => absurd h (by omega)) (kn _ (gInv_fl 2 hI))
    · have hz0 : zb Y (sx xs (i + 1)).toNat 2 = 0 := hz.2.2.1.elim id (fun q => absurd q hz2)
      exact w_wouldFill K S hi5 hD hc hs (l_wouldFill_2 _ _ _ 1 (by omega) (c6_wouldFill_2 Y h6 hY _ _ _ ra rb rc hh hz0)) (c7_wouldFill_2 Y h7 hY _ _ _ ra rb rc hh hz0) (by omega) rfl (fun h => absurd h (by omega)) (kn _ (gInv_fl 2 hI))
  · exact w_wouldFill K S hi5 hD hc hs (l_wouldFill_1 _ _ _ 1 (by omega) (c6_wouldFill_1 Y h6 hY _ _ _ ra rb rc hh)) (c7_wouldFill_1 Y h7 hY _ _ _ ra rb rc hh) (by omega) rfl (fun h => absurd h (by omega)) (kn _ (gInv_fl 1 hI))
theorem v_differ {X : gM} {E : gE} {D n cells slots b L9 i : Nat} {xs : Nat → Int32} {σ : gS} (K : gK X E mL_law D n) (S : hSc X E b L9 xs) (hi5 : i + 5 ≤ L9) (hD : 20 ≤ D) (hc : cells + 1 ≤ n) (hs : slots + 6 ≤ 6 * n) (hI : gInv σ) (kn : ∀ σ' : gS, gInv σ' → gWX X E (cells + 1) (slots + 6) 2519 (wL b i) [] σ') : gWX X E cells slots 1691 (wL b i) [] σ := by
  obtain ⟨Y, pm, P, sv, S9, rs, dt, er, T, l, k, w, hC, hM, hV⟩ := id hI
  have hY := hV.1
  have h6 := hC.1.1
  have h7 := hM.1.1
  have ra := sx_r xs (i + 1)
  have rb := sx_r xs (i + 2)
  have rc := sx_r xs (i + 3)
  have rd := sx_r xs (i + 4)
  by_cases hh : gHit Y (sx xs (i + 1))
  · by_cases hh2 : gHit Y (sx xs (i + 2))
    · by_cases hd : zb Y (sx xs (i + 1)).toNat 0 = zb Y (sx xs (i + 2)).toNat 0 ∧ zb Y (sx xs (i + 1)).toNat 1 = zb Y (sx xs (i + 2)).toNat 1
      · exact w_differ K S hi5 hD hc hs (l_differ _ _ _ 0 (by omega) (c6_differ Y h6 hY _ _ ra rb hh hh2 hd)) (c7_differ Y (gMs_o _ h7) hY _ _ ra rb hh hh2 hd) (by omega) rfl (fun _ => rfl) (kn _ (gInv_fl 0 (gInv_o _ hI)))
      · exact w_differ K S hi5 hD hc hs (l_differ_2 _ _ 1 (by omega) (c6_differ_2 Y h6 hY _ _ ra rb hh hh2 hd)) (c7_differ_2 Y h7 hY _ _ ra rb hh hh2 hd) (by omega) rfl (fun h => absurd h (by omega)) (kn _ (gInv_fl 2 hI))
    · exact w_differ K S hi5 hD hc hs (l_differ_1 _ _ 1 (by omega) (c6_differ_1b Y h6 hY _ _ ra rb hh hh2)) (c7_differ_1b Y h7 hY _ _ ra rb hh hh2) (by omega) rfl (fun h => absurd h (by omega)) (kn _ (gInv_fl 1 hI))
  · exact w_differ K S hi5 hD hc hs (l_differ_1 _ _ 1 (by omega) (c6_differ_1 Y h6 hY _ _ ra rb hh)) (c7_differ_1 Y h7 hY _ _ ra rb hh) (by omega) rfl (fun h => absurd h (by omega)) (kn _ (gInv_fl 1 hI))
theorem v_ranked {X : gM} {E : gE} {D n cells slots b L9 i : Nat} {xs : Nat → Int32} {σ : gS} (K : gK X E mL_law D n) (S : hSc X E b L9 xs) (hi5 : i + 5 ≤ L9) (hD : 20 ≤ D) (hc : cells + 1 ≤ n) (hs : slots + 6 ≤ 6 * n) (hI : gInv σ) (kn : ∀ σ' : gS, gInv σ' → gWX X E (cells + 1) (slots + 6) 2519 (wL b i) [] σ') : gWX X E cells slots 1759 (wL b i) [] σ := by
  obtain ⟨Y, pm, P, sv, S9, rs, dt, er, T, l, k, w, hC, hM, hV⟩ := id hI
  have hY := hV.1
  have h6 := hC.1.1
  have h7 := hM.1.1
  have ra := sx_r xs (i + 1)
  have rb := sx_r xs (i + 2)
  have rc := sx_r xs (i + 3)
  have rd := sx_r xs (i + 4)
  by_cases hh : 0 ≤ (sx xs (i + 1)) ∧ (sx xs (i + 1)) < Y 0
  · exact w_ranked K S hi5 hD hc hs (l_ranked _ _ 0 (by omega) (c6_ranked Y h6 hY _ ra (fun q => (s_rk_no hY).mp q hh))) (c7_ranked Y (gMs_o _ h7) hY _ ra hh) (by omega) rfl (fun _ => rfl) (kn _ (gInv_fl 0 (gInv_o _ hI)))
  · exact w_ranked K S hi5 hD hc hs (l_ranked_1 _ 1 (by omega) (c6_ranked_1 Y h6 hY _ ra ((s_rk_no hY).mpr hh))) (c7_ranked_1 Y h7 hY _ ra hh) (by omega) rfl (fun h => absurd h (by omega)) (kn _ (gInv_fl 1 hI))
theorem v_count {X : gM} {E : gE} {D n cells slots b L9 i : Nat} {xs : Nat → Int32} {σ : gS} (K : gK X E mL_law D n) (S : hSc X E b L9 xs) (hi5 : i + 5 ≤ L9) (hD : 20 ≤ D) (hc : cells + 1 ≤ n) (hs : slots + 6 ≤ 6 * n) (hI : gInv σ) (kn : ∀ σ' : gS, gInv σ' → gWX X E (cells + 1) (slots + 6) 2519 (wL b i) [] σ') : gWX X E cells slots 1815 (wL b i) [] σ := by
  obtain ⟨Y, pm, P, sv, S9, rs, dt, er, T, l, k, w, hC, hM, hV⟩ := id hI
  have hY := hV.1
  have h6 := hC.1.1
  have h7 := hM.1.1
  have ra := sx_r xs (i + 1)
  have rb := sx_r xs (i + 2)
  have rc := sx_r xs (i + 3)
  have rd := sx_r xs (i + 4)
  by_cases hh : gHit Y (sx xs (i + 1))
  · by_cases hk : 0 ≤ (sx xs (i + 2)) ∧ (sx xs (i + 2)) ≤ 9
    · exact w_count K S hi5 hD hc hs (l_count _ _ _ 0 (by omega) (c6_count Y h6 hY _ _ ra rb hh hk)) (c7_count Y (gMs_o _ h7) hY _ _ ra rb hh hk) (by omega) rfl (fun _ => rfl) (kn _ (gInv_fl 0 (gInv_o _ hI)))
    · exact w_count K S hi5 hD hc hs (l_count_2 _ _ 1 (by omega) (c6_count_2 Y h6 hY _ _ ra rb hh hk)) (c7_count_2 Y h7 hY _ _ ra rb hh hk) (by omega) rfl (fun h => absurd h (by omega)) (kn _ (gInv_fl 2 hI))
  · exact w_count K S hi5 hD hc hs (l_count_1 _ _ 1 (by omega) (c6_count_1 Y h6 hY _ _ ra rb hh)) (c7_count_1 Y h7 hY _ _ ra rb hh) (by omega) rfl (fun h => absurd h (by omega)) (kn _ (gInv_fl 1 hI))
theorem v_line {X : gM} {E : gE} {D n cells slots b L9 i : Nat} {xs : Nat → Int32} {σ : gS} (K : gK X E mL_law D n) (S : hSc X E b L9 xs) (hi5 : i + 5 ≤ L9) (hD : 20 ≤ D) (hc : cells + 1 ≤ n) (hs : slots + 6 ≤ 6 * n) (hI : gInv σ) (kn : ∀ σ' : gS, gInv σ' → gWX X E (cells + 1) (slots + 6) 2519 (wL b i) [] σ') : gWX X E cells slots 1883 (wL b i) [] σ := by
  obtain ⟨Y, pm, P, sv, S9, rs, dt, er, T, l, k, w, hC, hM, hV⟩ := id hI
  have hY := hV.1
  have h6 := hC.1.1
  have h7 := hM.1.1
  have ra := sx_r xs (i + 1)
  have rb := sx_r xs (i + 2)
  have rc := sx_r xs (i + 3)
  have rd := sx_r xs (i + 4)
  by_cases hh : gRow Y (sx xs (i + 1)) (sx xs (i + 2))
  · have hz := hY.2 (sx xs (i + 1)).toNat (by have := hh.1; omega)
    have q0 := hz.1
    exact w_line K S hi5 hD hc hs (l_line _ _ _ 0 (by omega) (c6_line Y h6 hY _ _ ra rb hh hC.2.2.2.2.1 (by have := hC.2.2.2.2.2.1; have := hV.2.2.2.2.2.2.2.1; omega))) (c7_line Y (gMs_hi (gHi_o _ gHi_li) h7) hY _ _ ra rb hh) (by omega) rfl (fun _ => rfl) (kn _ ⟨Y, pm, P, sv, S9, rs, dt, er, T, l, _, _, CI_lo (VI_li hz (by omega) hV) (gLow_ml _ (gLow_fl 0 gLow_rf)) (CI_lo (VI_li hz (by omega) hV) (gLow_o _) (CI_li hV hC)), MI_li (MI_hi (gHi_o _ gHi_li) hM), VI_li hz (by omega) hV⟩)
  · exact w_line K S hi5 hD hc hs (l_line_1 _ _ 1 (by omega) (c6_line_1 Y h6 hY _ _ ra rb hh)) (c7_line_1 Y h7 hY _ _ ra rb hh) (by omega) rfl (fun h => absurd h (by omega)) (kn _ (gInv_fl 1 hI))
theorem v_character {X : gM} {E : gE} {D n cells slots b L9 i : Nat} {xs : Nat → Int32} {σ : gS} (K : gK X E mL_law D n) (S : hSc X E b L9 xs) (hi5 : i + 5 ≤ L9) (hD : 20 ≤ D) (hc : cells + 1 ≤ n) (hs : slots + 6 ≤ 6 * n) (hI : gInv σ) (kn : ∀ σ' : gS, gInv σ' → gWX X E (cells + 1) (slots + 6) 2519 (wL b i) [] σ') : gWX X E cells slots 1951 (wL b i) [] σ := by
  obtain ⟨Y, pm, P, sv, S9, rs, dt, er, T, l, k, w, hC, hM, hV⟩ := id hI
  have hY := hV.1
  have h6 := hC.1.1
  have h7 := hM.1.1
  have ra := sx_r xs (i + 1)
  have rb := sx_r xs (i + 2)
  have rc := sx_r xs (i + 3)
  have rd := sx_r xs (i + 4)
  have k6 := hC.2.2.2.2.2.1
  have k7 := hM.2.2.2.2.1
  have k12 := hV.2.2.2.2.2.2.2.1
  by_cases hh : 0 ≤ (sx xs (i + 1)) ∧ (sx xs (i + 1)) < (k : Int)
  · have e6 := hC.2.2.2.2.2.2 (sx xs (i + 1)).toNat (by omega)
    have e7 := hM.2.2.2.2.2 (sx xs (i + 1)).toNat (by omega)
    have ew := hV.2.2.2.2.2.2.2.2 (sx xs (i + 1)).toNat (by omega)
    exact w_character K S hi5 hD hc hs (l_character _ _ 0 (by omega) (c6_character k k6 (by omega) _ ra hh hC.2.2.2.2.1 (by omega))) (c7_character (σ := gOl σ (lv (σ.1 13 0 (sx xs (i + 1)).toNat))) k k7 k12 _ ra hh (by show 0 ≤ σ.1 20 0 (sx xs (i + 1)).toNat ∧ σ.1 20 0 (sx xs (i + 1)).toNat < 128; omega)) (by omega) rfl (fun _ => congrArg lv (e6.trans e7.symm)) (kn _ (gInv_fl 0 (gInv_o _ hI)))
  · exact w_character K S hi5 hD hc hs (l_character_1 _ 1 (by omega) (c6_character_1 k k6 (by omega) _ ra hh)) (c7_character_1 k k7 k12 _ ra hh) (by omega) rfl (fun h => absurd h (by omega)) (kn _ (gInv_fl 1 hI))
theorem v_append {X : gM} {E : gE} {D n cells slots b L9 i : Nat} {xs : Nat → Int32} {σ : gS} (K : gK X E mL_law D n) (S : hSc X E b L9 xs) (hi5 : i + 5 ≤ L9) (hD : 20 ≤ D) (hc : cells + 1 ≤ n) (hs : slots + 6 ≤ 6 * n) (hI : gInv σ) (kn : ∀ σ' : gS, gInv σ' → gWX X E (cells + 1) (slots + 6) 2519 (wL b i) [] σ') : gWX X E cells slots 2007 (wL b i) [] σ := by
  obtain ⟨Y, pm, P, sv, S9, rs, dt, er, T, l, k, w, hC, hM, hV⟩ := id hI
  have hY := hV.1
  have h6 := hC.1.1
  have h7 := hM.1.1
  have ra := sx_r xs (i + 1)
  have rb := sx_r xs (i + 2)
  have rc := sx_r xs (i + 3)
  have rd := sx_r xs (i + 4)
  have hcc : 0 ≤ (sx xs (i + 1)) % 65536 ∧ (sx xs (i + 1)) % 65536 < 65536 := by omega
  have hin := hC.2.2.2.1
  have h17 := hM.2.2.2.1
  have hl60 := hin.2.1
  by_cases hl : l < 60
  · exact w_append K S hi5 hD hc hs (l_append _ _ 0 (by omega) (c6_append T l hin hl _ hcc)) (c7_append l (by show σ.1 14 0 14 = _; exact h17.1) hl _ hcc) (by omega) rfl (fun _ => rfl) (kn _ ⟨Y, pm, P, sv, S9, rs, dt, er, tPut T l ((sx xs (i + 1)) % 65536), l + 1, k, w, CI_lo hV (gLow_u _ _ _ _ (by omega) (gLow_u _ _ _ _ (by omega) (gLow_fl 0 gLow_rf))) (CI_lo hV (gLow_o _) (CI_ap hl hcc hV hC)), MI_ap hl hcc (MI_hi (gHi_o _ (gHi_u _ _ _ _ (by omega) (gHi_u _ _ _ _ (by omega) gHi_rf))) hM), hV⟩)
  · exact w_append K S hi5 hD hc hs (l_append_1 _ 1 (by omega) (c6_append_1 T l hin (by omega) _)) (c7_append_1 l h17.1 (by omega) _) (by omega) rfl (fun h => absurd h (by omega)) (kn _ (gInv_fl 1 hI))
theorem v_errorPosition {X : gM} {E : gE} {D n cells slots b L9 i : Nat} {xs : Nat → Int32} {σ : gS} (K : gK X E mL_law D n) (S : hSc X E b L9 xs) (hi5 : i + 5 ≤ L9) (hD : 20 ≤ D) (hc : cells + 1 ≤ n) (hs : slots + 6 ≤ 6 * n) (hI : gInv σ) (kn : ∀ σ' : gS, gInv σ' → gWX X E (cells + 1) (slots + 6) 2519 (wL b i) [] σ') : gWX X E cells slots 2109 (wL b i) [] σ := by
  obtain ⟨Y, pm, P, sv, S9, rs, dt, er, T, l, k, w, hC, hM, hV⟩ := id hI
  have hY := hV.1
  have h6 := hC.1.1
  have h7 := hM.1.1
  have ra := sx_r xs (i + 1)
  have rb := sx_r xs (i + 2)
  have rc := sx_r xs (i + 3)
  have rd := sx_r xs (i + 4)
  have e6 := hC.2.2.1.2.2
  have e7 := hM.2.2.1.2.2
  have her := hV.2.2.2.2.2.2.1
  exact w_errorPosition K S hi5 hD hc hs (v := er) (by omega) (by have h := c6_errorPosition (E := E) (σ := σ); rw [e6] at h; exact h) (by have h := c7_errorPosition (E := E) (σ := σ); rw [e7] at h; exact h) (kn _ (gInv_fl 0 hI))
theorem v_refusal {X : gM} {E : gE} {D n cells slots b L9 i : Nat} {xs : Nat → Int32} {σ : gS} (K : gK X E mL_law D n) (S : hSc X E b L9 xs) (hi5 : i + 5 ≤ L9) (hD : 20 ≤ D) (hc : cells + 1 ≤ n) (hs : slots + 6 ≤ 6 * n) (hI : gInv σ) (kn : ∀ σ' : gS, gInv σ' → gWX X E (cells + 1) (slots + 6) 2519 (wL b i) [] σ') : gWX X E cells slots 2122 (wL b i) [] σ := by
  obtain ⟨Y, pm, P, sv, S9, rs, dt, er, T, l, k, w, hC, hM, hV⟩ := id hI
  have hY := hV.1
  have h6 := hC.1.1
  have h7 := hM.1.1
  have ra := sx_r xs (i + 1)
  have rb := sx_r xs (i + 2)
  have rc := sx_r xs (i + 3)
  have rd := sx_r xs (i + 4)
  have r6 := hC.2.2.1
  have r7 := hM.2.2.1
  have hrs := hV.2.2.2.2.2.1
  have hr7 : σ.1 14 0 8 = 0 ∨ 1 ≤ σ.1 14 0 8 ∧ σ.1 14 0 8 ≤ 7 := by omega
  obtain ⟨q, hq⟩ : ∃ q : Int, q = (if (sx xs (i + 1)) = 0 then 0 else 1) := ⟨_, rfl⟩
  have q01 : 0 ≤ q ∧ q ≤ 1 := by rw [hq]; split <;> omega
  have heq : (if q = 0 then σ.1 0 0 9 else σ.1 0 0 10) = (if q = 0 then σ.1 14 0 8 else σ.1 14 0 9) := by rw [r6.1, r6.2.1, r7.1, r7.2.1]
  by_cases hh : rs = 0
  · exact w_refusal K S hi5 hD hc hs hq (l_refusal_1 q 1 (by omega) (c6_refusal_1 (by omega) q q01 (by omega))) (c7_refusal_1 hr7 q q01 (by omega)) (by omega) rfl (fun h => absurd h (by omega)) (kn _ (gInv_fl 1 hI))
  · have hne : σ.1 14 0 8 ≠ 0 := by omega
    exact w_refusal K S hi5 hD hc hs hq (l_refusal q _ 0 (by omega) (c6_refusal (by omega) q q01 (by omega))) (c7_refusal (σ := gOl σ (lv (if q = 0 then σ.1 0 0 9 else σ.1 0 0 10))) hr7 q q01 hne) (by omega) rfl (fun _ => congrArg lv heq) (kn _ (gInv_fl 0 (gInv_o _ hI)))
theorem v_account {X : gM} {E : gE} {D n cells slots b L9 i : Nat} {xs : Nat → Int32} {σ : gS} (K : gK X E mL_law D n) (S : hSc X E b L9 xs) (hi5 : i + 5 ≤ L9) (hD : 20 ≤ D) (hc : cells + 1 ≤ n) (hs : slots + 6 ≤ 6 * n) (hI : gInv σ) (kn : ∀ σ' : gS, gInv σ' → gWX X E (cells + 1) (slots + 6) 2519 (wL b i) [] σ') : gWX X E cells slots 2194 (wL b i) [] σ := by
  obtain ⟨Y, pm, P, sv, S9, rs, dt, er, T, l, k, w, hC, hM, hV⟩ := id hI
  have hY := hV.1
  have h6 := hC.1.1
  have h7 := hM.1.1
  have ra := sx_r xs (i + 1)
  have rb := sx_r xs (i + 2)
  have rc := sx_r xs (i + 3)
  have rd := sx_r xs (i + 4)
  by_cases hk : 0 ≤ (sx xs (i + 1)) ∧ (sx xs (i + 1)) ≤ 11
  · obtain ⟨q, hq⟩ : ∃ q : Nat, (sx xs (i + 1)) = (q : Int) := ⟨(sx xs (i + 1)).toNat, by omega⟩
    by_cases h5 : q ≤ 5
    · exact w_account K S hi5 hD hc hs (l_account _ _ 0 (by omega) (by rw [hq]; exact c6_account_a Y h6 hY q h5)) (by rw [hq]; exact c7_account_a Y (gMs_o _ h7) hY q h5) (by omega) rfl (fun _ => rfl) (kn _ (gInv_fl 0 (gInv_o _ hI)))
    · have eac : s_ac σ q = s_ac7 σ Y q := by
          obtain ⟨⟨f1, f2, f3, f4, f5⟩, _⟩ := h6
          have g1 := hC.2.2.2.1.1
          have g2 := hM.2.2.2.1.1
          have g3 := hC.1.2.2.1
          have g4 := hM.1.2.1
          obtain rfl | rfl | rfl | rfl | rfl | rfl : q = 6 ∨ q = 7 ∨ q = 8 ∨ q = 9 ∨ q = 10 ∨ q = 11 := by omega
          · exact f2
          · exact f3
          · exact f4
          · exact f5
          · exact g1.trans g2.symm
          · exact g3.trans g4.symm
      exact w_account K S hi5 hD hc hs (l_account _ _ 0 (by omega) (by rw [hq]; exact c6_account_b q (by omega))) (by rw [hq]; exact c7_account_b Y (gMs_o _ h7) hY q (by omega)) (by omega) rfl (fun _ => congrArg lv eac) (kn _ (gInv_fl 0 (gInv_o _ hI)))
  · exact w_account K S hi5 hD hc hs (l_account_1 _ 1 (by omega) (c6_account_1 _ ra hk)) (c7_account_1 _ ra hk) (by omega) rfl (fun h => absurd h (by omega)) (kn _ (gInv_fl 1 hI))
theorem v_isWell {X : gM} {E : gE} {D n cells slots b L9 i : Nat} {xs : Nat → Int32} {σ : gS} (K : gK X E mL_law D n) (S : hSc X E b L9 xs) (hi5 : i + 5 ≤ L9) (hD : 20 ≤ D) (hc : cells + 1 ≤ n) (hs : slots + 6 ≤ 6 * n) (hI : gInv σ) (kn : ∀ σ' : gS, gInv σ' → gWX X E (cells + 1) (slots + 6) 2519 (wL b i) [] σ') : gWX X E cells slots 2250 (wL b i) [] σ := by
  obtain ⟨Y, pm, P, sv, S9, rs, dt, er, T, l, k, w, hC, hM, hV⟩ := id hI
  have hY := hV.1
  have h6 := hC.1.1
  have h7 := hM.1.1
  have ra := sx_r xs (i + 1)
  have rb := sx_r xs (i + 2)
  have rc := sx_r xs (i + 3)
  have rd := sx_r xs (i + 4)
  have bw : 0 ≤ s_well Y ∧ s_well Y ≤ 1 := gB1_bd _
  exact w_isWell K S hi5 hD hc hs (v := s_well Y) (by omega) (c6_isWell Y h6 hY) (c7_isWell Y h7 hY) (kn _ (gInv_fl 0 hI))
theorem v_meanSign {X : gM} {E : gE} {D n cells slots b L9 i : Nat} {xs : Nat → Int32} {σ : gS} (K : gK X E mL_law D n) (S : hSc X E b L9 xs) (hi5 : i + 5 ≤ L9) (hD : 20 ≤ D) (hc : cells + 1 ≤ n) (hs : slots + 6 ≤ 6 * n) (hI : gInv σ) (kn : ∀ σ' : gS, gInv σ' → gWX X E (cells + 1) (slots + 6) 2519 (wL b i) [] σ') : gWX X E cells slots 2263 (wL b i) [] σ := by
  obtain ⟨Y, pm, P, sv, S9, rs, dt, er, T, l, k, w, hC, hM, hV⟩ := id hI
  have hY := hV.1
  have h6 := hC.1.1
  have h7 := hM.1.1
  have ra := sx_r xs (i + 1)
  have rb := sx_r xs (i + 2)
  have rc := sx_r xs (i + 3)
  have rd := sx_r xs (i + 4)
  by_cases hh : gHit Y (sx xs (i + 1))
  · have hz := hY.2 (sx xs (i + 1)).toNat (by omega)
    have b1 := s_al_bd hz
    have b2 := s_cl_bd hz
    have b3 := s_sm_cl hz
    have b4 := s_sm_bd hz
    by_cases hcc : s_sm (zb Y (sx xs (i + 1)).toNat) = s_cl (zb Y (sx xs (i + 1)).toNat)
    · exact w_meanSign K S hi5 hD hc hs (l_meanSign_2 _ 1 (by omega) (c6_meanSign_2 Y h6 hY _ ra hh hcc)) (c7_meanSign_2 Y h7 hY _ ra hh hcc) (by omega) rfl (fun h => absurd h (by omega)) (kn _ (gInv_fl 2 hI))
    · exact w_meanSign K S hi5 hD hc hs (l_meanSign _ _ 0 (by omega) (c6_meanSign Y h6 hY _ ra hh hcc)) (c7_meanSign Y (gMs_d _ h7) hY _ ra hh hcc) (by omega) rfl (fun _ => ⟨rfl, trivial, gQ_c (by omega) (by omega)⟩) (kn _ (gInv_fl 0 (gInv_d _ hI)))
  · exact w_meanSign K S hi5 hD hc hs (l_meanSign_1 _ 1 (by omega) (c6_meanSign_1 Y h6 hY _ ra hh)) (c7_meanSign_1 Y h7 hY _ ra hh) (by omega) rfl (fun h => absurd h (by omega)) (kn _ (gInv_fl 1 hI))
theorem v_doubtShare {X : gM} {E : gE} {D n cells slots b L9 i : Nat} {xs : Nat → Int32} {σ : gS} (K : gK X E mL_law D n) (S : hSc X E b L9 xs) (hi5 : i + 5 ≤ L9) (hD : 20 ≤ D) (hc : cells + 1 ≤ n) (hs : slots + 6 ≤ 6 * n) (hI : gInv σ) (kn : ∀ σ' : gS, gInv σ' → gWX X E (cells + 1) (slots + 6) 2519 (wL b i) [] σ') : gWX X E cells slots 2340 (wL b i) [] σ := by
  obtain ⟨Y, pm, P, sv, S9, rs, dt, er, T, l, k, w, hC, hM, hV⟩ := id hI
  have hY := hV.1
  have h6 := hC.1.1
  have h7 := hM.1.1
  have ra := sx_r xs (i + 1)
  have rb := sx_r xs (i + 2)
  have rc := sx_r xs (i + 3)
  have rd := sx_r xs (i + 4)
  by_cases hh : gHit Y (sx xs (i + 1))
  · have hz := hY.2 (sx xs (i + 1)).toNat (by omega)
    have b1 := s_db_bd hz
    have b2 := s_cl_bd hz
    have hq := gQf_n (a := (s_db (zb Y (sx xs (i + 1)).toNat)).toNat) (b := (s_cl (zb Y (sx xs (i + 1)).toNat)).toNat) (by omega) (by omega)
    exact w_doubtShare K S hi5 hD hc hs (l_doubtShare _ _ hq.2.1 0 (by omega) (c6_doubtShare Y h6 hY _ ra hh)) (c7_doubtShare Y (gMs_d _ h7) hY _ ra hh) (by omega) rfl (fun _ => ⟨rfl, hq.2.1, hq.2.2⟩) (kn _ (gInv_fl 0 (gInv_d _ hI)))
  · exact w_doubtShare K S hi5 hD hc hs (l_doubtShare_1 _ 1 (by omega) (c6_doubtShare_1 Y h6 hY _ ra hh)) (c7_doubtShare_1 Y h7 hY _ ra hh) (by omega) rfl (fun h => absurd h (by omega)) (kn _ (gInv_fl 1 hI))
theorem v_write {X : gM} {E : gE} {D n cells slots b L9 i : Nat} {xs : Nat → Int32} {σ : gS} (K : gK X E mL_law D n) (S : hSc X E b L9 xs) (hi5 : i + 5 ≤ L9) (hD : 20 ≤ D) (hc : cells + 1 ≤ n) (hs : slots + 6 ≤ 6 * n) (hI : gInv σ) (kn : ∀ σ' : gS, gInv σ' → gWX X E (cells + 1) (slots + 6) 2519 (wL b i) [] σ') : gWX X E cells slots 348 (wL b i) [] σ := by
  obtain ⟨Y, pm, P, sv, S9, rs, dt, er, T, l, k, w, hC, hM, hV⟩ := id hI
  have hY := hV.1
  have h6 := hC.1.1
  have h7 := hM.1.1
  have ra := sx_r xs (i + 1)
  have rb := sx_r xs (i + 2)
  have rc := sx_r xs (i + 3)
  have rd := sx_r xs (i + 4)
  have bo := gOb_bd (d := 1) (s := (sx xs (i + 1))) (r := (sx xs (i + 2))) (c := (sx xs (i + 3))) (k := (sx xs (i + 4))) hY (by omega)
  have bo8 := gOb_800 (d := 1) (s := (sx xs (i + 1))) (r := (sx xs (i + 2))) (c := (sx xs (i + 3))) (k := (sx xs (i + 4))) hY (by omega)
  by_cases h0 : gOb 1 Y (sx xs (i + 1)) (sx xs (i + 2)) (sx xs (i + 3)) (sx xs (i + 4)) = 0
  · have h2 := gCoY_Y h0 hY (by omega)
    exact w_write K S hi5 hD hc hs (l_write _ _ _ _ _ 0 (by omega) (c6_write Y h6 hY _ _ _ _ ra rb rc rd hC.1.2.1 h0)) (c7_write (σ := (gOl (gShPut (gRem σ Y) 0 (gCoY 1 Y (sx xs (i + 1)) (sx xs (i + 2)) (sx xs (i + 3)) (sx xs (i + 4)))) (lv (gCoA 1 Y (sx xs (i + 1)) (sx xs (i + 2)) (sx xs (i + 3)) (sx xs (i + 4)))))) Y (gMs_hi (gHi_o _ (gHi_sh _ _ (gHi_rem _ gHi_rf))) h7) hY (sx xs (i + 1)) (sx xs (i + 2)) (sx xs (i + 3)) (sx xs (i + 4)) ra rb rc rd pm ((gHi_o _ (gHi_sh _ _ (gHi_rem _ gHi_rf)) _ _ _ (by omega)).trans hM.1.2.1) hV.2.1 h0) (by omega) ((gEn_7 _ _).trans rfl) (fun _ => congrArg (fun x => x.2.1) (gEn_2 _ _)) (kn _ (gInv_ch _ h2 hC hM hV))
  by_cases h1 : gOb 1 Y (sx xs (i + 1)) (sx xs (i + 2)) (sx xs (i + 3)) (sx xs (i + 4)) = 1
  · exact w_write K S hi5 hD hc hs (l_write_1 _ _ _ _ 1 (by omega) (c6_write_1 Y h6 hY _ _ _ _ ra rb rc rd h1)) (c7_write_x (σ := σ) Y h7 hY (sx xs (i + 1)) (sx xs (i + 2)) (sx xs (i + 3)) (sx xs (i + 4)) ra rb rc rd h0) (by omega) (by rw [gMO_t h0 hY (by omega), if_pos (by omega)]; exact h1) (fun h => absurd h (by omega)) (kn _ (by rw [gMO_f1 h0 (by omega)]; exact gInv_fl _ (gInv_kp hI)))
  by_cases h2 : gOb 1 Y (sx xs (i + 1)) (sx xs (i + 2)) (sx xs (i + 3)) (sx xs (i + 4)) = 2
  · exact w_write K S hi5 hD hc hs (l_write_2 _ _ _ _ 1 (by omega) (c6_write_2 Y h6 hY _ _ _ _ ra rb rc rd h2)) (c7_write_x (σ := σ) Y h7 hY (sx xs (i + 1)) (sx xs (i + 2)) (sx xs (i + 3)) (sx xs (i + 4)) ra rb rc rd h0) (by omega) (by rw [gMO_t h0 hY (by omega), if_pos (by omega)]; exact h2) (fun h => absurd h (by omega)) (kn _ (by rw [gMO_f1 h0 (by omega)]; exact gInv_fl _ (gInv_kp hI)))
  have hw := gOb_w1 (Y := Y) (s := (sx xs (i + 1))) (r := (sx xs (i + 2))) (c := (sx xs (i + 3))) (k := (sx xs (i + 4)))
  omega
theorem v_slip {X : gM} {E : gE} {D n cells slots b L9 i : Nat} {xs : Nat → Int32} {σ : gS} (K : gK X E mL_law D n) (S : hSc X E b L9 xs) (hi5 : i + 5 ≤ L9) (hD : 20 ≤ D) (hc : cells + 1 ≤ n) (hs : slots + 6 ≤ 6 * n) (hI : gInv σ) (kn : ∀ σ' : gS, gInv σ' → gWX X E (cells + 1) (slots + 6) 2519 (wL b i) [] σ') : gWX X E cells slots 632 (wL b i) [] σ := by
  obtain ⟨Y, pm, P, sv, S9, rs, dt, er, T, l, k, w, hC, hM, hV⟩ := id hI
  have hY := hV.1
  have h6 := hC.1.1
  have h7 := hM.1.1
  have ra := sx_r xs (i + 1)
  have rb := sx_r xs (i + 2)
  have rc := sx_r xs (i + 3)
  have rd := sx_r xs (i + 4)
  have bo := gOb_bd (d := 2) (s := (sx xs (i + 1))) (r := (sx xs (i + 2))) (c := (sx xs (i + 3))) (k := (sx xs (i + 4))) hY (by omega)
  have bo8 := gOb_800 (d := 2) (s := (sx xs (i + 1))) (r := (sx xs (i + 2))) (c := (sx xs (i + 3))) (k := (sx xs (i + 4))) hY (by omega)
  by_cases h0 : gOb 2 Y (sx xs (i + 1)) (sx xs (i + 2)) (sx xs (i + 3)) (sx xs (i + 4)) = 0
  · have h2 := gCoY_Y h0 hY (by omega)
    exact w_slip K S hi5 hD hc hs (l_slip _ _ _ _ _ 0 (by omega) (c6_slip Y h6 hY _ _ _ _ ra rb rc rd hC.1.2.1 h0)) (c7_slip (σ := (gOl (gShPut (gRem σ Y) 0 (gCoY 2 Y (sx xs (i + 1)) (sx xs (i + 2)) (sx xs (i + 3)) (sx xs (i + 4)))) (lv (gCoA 2 Y (sx xs (i + 1)) (sx xs (i + 2)) (sx xs (i + 3)) (sx xs (i + 4)))))) Y (gMs_hi (gHi_o _ (gHi_sh _ _ (gHi_rem _ gHi_rf))) h7) hY (sx xs (i + 1)) (sx xs (i + 2)) (sx xs (i + 3)) (sx xs (i + 4)) ra rb rc rd pm ((gHi_o _ (gHi_sh _ _ (gHi_rem _ gHi_rf)) _ _ _ (by omega)).trans hM.1.2.1) hV.2.1 h0) (by omega) ((gEn_7 _ _).trans rfl) (fun _ => congrArg (fun x => x.2.1) (gEn_2 _ _)) (kn _ (gInv_ch _ h2 hC hM hV))
  by_cases h1 : gOb 2 Y (sx xs (i + 1)) (sx xs (i + 2)) (sx xs (i + 3)) (sx xs (i + 4)) = 1
  · exact w_slip K S hi5 hD hc hs (l_slip_1 _ _ _ _ 1 (by omega) (c6_slip_1 Y h6 hY _ _ _ _ ra rb rc rd h1)) (c7_slip_x (σ := σ) Y h7 hY (sx xs (i + 1)) (sx xs (i + 2)) (sx xs (i + 3)) (sx xs (i + 4)) ra rb rc rd h0) (by omega) (by rw [gMO_t h0 hY (by omega), if_pos (by omega)]; exact h1) (fun h => absurd h (by omega)) (kn _ (by rw [gMO_f1 h0 (by omega)]; exact gInv_fl _ (gInv_kp hI)))
  by_cases h2 : gOb 2 Y (sx xs (i + 1)) (sx xs (i + 2)) (sx xs (i + 3)) (sx xs (i + 4)) = 2
  · exact w_slip K S hi5 hD hc hs (l_slip_2 _ _ _ _ 1 (by omega) (c6_slip_2 Y h6 hY _ _ _ _ ra rb rc rd h2)) (c7_slip_x (σ := σ) Y h7 hY (sx xs (i + 1)) (sx xs (i + 2)) (sx xs (i + 3)) (sx xs (i + 4)) ra rb rc rd h0) (by omega) (by rw [gMO_t h0 hY (by omega), if_pos (by omega)]; exact h2) (fun h => absurd h (by omega)) (kn _ (by rw [gMO_f1 h0 (by omega)]; exact gInv_fl _ (gInv_kp hI)))
  have h3 : 100 ≤ gOb 2 Y (sx xs (i + 1)) (sx xs (i + 2)) (sx xs (i + 3)) (sx xs (i + 4)) := by omega
  exact w_slip K S hi5 hD hc hs (l_slip_3 _ _ _ _ 1 (by omega) (c6_slip_3 Y h6 hY _ _ _ _ ra rb rc rd h3)) (c7_slip_x (σ := gRf σ (gOb 2 Y (sx xs (i + 1)) (sx xs (i + 2)) (sx xs (i + 3)) (sx xs (i + 4)))) Y (gMs_hi (gHi_u _ _ _ _ (by omega) (gHi_u _ _ _ _ (by omega) gHi_rf)) h7) hY (sx xs (i + 1)) (sx xs (i + 2)) (sx xs (i + 3)) (sx xs (i + 4)) ra rb rc rd h0) (by omega) (by rw [gMO_t h0 hY (by omega), if_neg (by omega)]; rfl) (fun h => absurd h (by omega)) (kn _ (by rw [gMO_r1 h0 (by omega)]; exact gInv_ru ⟨h3, bo8⟩ hC hM hV))
theorem v_smudge {X : gM} {E : gE} {D n cells slots b L9 i : Nat} {xs : Nat → Int32} {σ : gS} (K : gK X E mL_law D n) (S : hSc X E b L9 xs) (hi5 : i + 5 ≤ L9) (hD : 20 ≤ D) (hc : cells + 1 ≤ n) (hs : slots + 6 ≤ 6 * n) (hI : gInv σ) (kn : ∀ σ' : gS, gInv σ' → gWX X E (cells + 1) (slots + 6) 2519 (wL b i) [] σ') : gWX X E cells slots 724 (wL b i) [] σ := by
  obtain ⟨Y, pm, P, sv, S9, rs, dt, er, T, l, k, w, hC, hM, hV⟩ := id hI
  have hY := hV.1
  have h6 := hC.1.1
  have h7 := hM.1.1
  have ra := sx_r xs (i + 1)
  have rb := sx_r xs (i + 2)
  have rc := sx_r xs (i + 3)
  have rd := sx_r xs (i + 4)
  have bo := gOb_bd (d := 3) (s := (sx xs (i + 1))) (r := (sx xs (i + 2))) (c := (sx xs (i + 3))) (k := 0) hY (by omega)
  have bo8 := gOb_800 (d := 3) (s := (sx xs (i + 1))) (r := (sx xs (i + 2))) (c := (sx xs (i + 3))) (k := 0) hY (by omega)
  by_cases h0 : gOb 3 Y (sx xs (i + 1)) (sx xs (i + 2)) (sx xs (i + 3)) 0 = 0
  · have h2 := gCoY_Y h0 hY (by omega)
    exact w_smudge K S hi5 hD hc hs (l_smudge _ _ _ _ 0 (by omega) (c6_smudge Y h6 hY _ _ _ ra rb rc hC.1.2.1 h0)) (c7_smudge (σ := (gOl (gShPut (gRem σ Y) 0 (gCoY 3 Y (sx xs (i + 1)) (sx xs (i + 2)) (sx xs (i + 3)) 0)) (lv (gCoA 3 Y (sx xs (i + 1)) (sx xs (i + 2)) (sx xs (i + 3)) 0)))) Y (gMs_hi (gHi_o _ (gHi_sh _ _ (gHi_rem _ gHi_rf))) h7) hY (sx xs (i + 1)) (sx xs (i + 2)) (sx xs (i + 3)) 0 ra rb rc pm ((gHi_o _ (gHi_sh _ _ (gHi_rem _ gHi_rf)) _ _ _ (by omega)).trans hM.1.2.1) hV.2.1 h0) (by omega) ((gEn_7 _ _).trans rfl) (fun _ => congrArg (fun x => x.2.1) (gEn_2 _ _)) (kn _ (gInv_ch _ h2 hC hM hV))
  by_cases h1 : gOb 3 Y (sx xs (i + 1)) (sx xs (i + 2)) (sx xs (i + 3)) 0 = 1
  · exact w_smudge K S hi5 hD hc hs (l_smudge_1 _ _ _ 1 (by omega) (c6_smudge_1 Y h6 hY _ _ _ ra rb rc h1)) (c7_smudge_x (σ := σ) Y h7 hY (sx xs (i + 1)) (sx xs (i + 2)) (sx xs (i + 3)) 0 ra rb rc h0) (by omega) (by rw [gMO_t h0 hY (by omega), if_pos (by omega)]; exact h1) (fun h => absurd h (by omega)) (kn _ (by rw [gMO_f1 h0 (by omega)]; exact gInv_fl _ (gInv_kp hI)))
  have hn2 := gOb_no2 (d := 3) (s := (sx xs (i + 1))) (r := (sx xs (i + 2))) (c := (sx xs (i + 3))) (k := 0) hY (by omega) (by omega)
  have h3 : 100 ≤ gOb 3 Y (sx xs (i + 1)) (sx xs (i + 2)) (sx xs (i + 3)) 0 := by omega
  exact w_smudge K S hi5 hD hc hs (l_smudge_2 _ _ _ 1 (by omega) (c6_smudge_3 Y h6 hY _ _ _ ra rb rc h3)) (c7_smudge_x (σ := gRf σ (gOb 3 Y (sx xs (i + 1)) (sx xs (i + 2)) (sx xs (i + 3)) 0)) Y (gMs_hi (gHi_u _ _ _ _ (by omega) (gHi_u _ _ _ _ (by omega) gHi_rf)) h7) hY (sx xs (i + 1)) (sx xs (i + 2)) (sx xs (i + 3)) 0 ra rb rc h0) (by omega) (by rw [gMO_t h0 hY (by omega), if_neg (by omega)]; rfl) (fun h => absurd h (by omega)) (kn _ (by rw [gMO_r1 h0 (by omega)]; exact gInv_ru ⟨h3, bo8⟩ hC hM hV))
theorem v_seal {X : gM} {E : gE} {D n cells slots b L9 i : Nat} {xs : Nat → Int32} {σ : gS} (K : gK X E mL_law D n) (S : hSc X E b L9 xs) (hi5 : i + 5 ≤ L9) (hD : 20 ≤ D) (hc : cells + 1 ≤ n) (hs : slots + 6 ≤ 6 * n) (hI : gInv σ) (kn : ∀ σ' : gS, gInv σ' → gWX X E (cells + 1) (slots + 6) 2519 (wL b i) [] σ') : gWX X E cells slots 520 (wL b i) [] σ := by
  obtain ⟨Y, pm, P, sv, S9, rs, dt, er, T, l, k, w, hC, hM, hV⟩ := id hI
  have hY := hV.1
  have h6 := hC.1.1
  have h7 := hM.1.1
  have ra := sx_r xs (i + 1)
  have rb := sx_r xs (i + 2)
  have rc := sx_r xs (i + 3)
  have rd := sx_r xs (i + 4)
  have bo := gOb_bd (d := 4) (s := (sx xs (i + 1))) (r := 0) (c := 0) (k := 0) hY (by omega)
  have bo8 := gOb_800 (d := 4) (s := (sx xs (i + 1))) (r := 0) (c := 0) (k := 0) hY (by omega)
  by_cases h0 : gOb 4 Y (sx xs (i + 1)) 0 0 0 = 0
  · have h2 := gCoY_Y h0 hY (by omega)
    exact w_seal K S hi5 hD hc hs (l_seal _ _ 0 (by omega) (c6_seal Y h6 hY _ ra hC.1.2.1 h0)) (c7_seal (σ := (gOl (gShPut (gRem σ Y) 0 (gCoY 4 Y (sx xs (i + 1)) 0 0 0)) (lv (gCoA 4 Y (sx xs (i + 1)) 0 0 0)))) Y (gMs_hi (gHi_o _ (gHi_sh _ _ (gHi_rem _ gHi_rf))) h7) hY (sx xs (i + 1)) 0 0 0 ra pm ((gHi_o _ (gHi_sh _ _ (gHi_rem _ gHi_rf)) _ _ _ (by omega)).trans hM.1.2.1) hV.2.1 h0) (by omega) ((gEn_7 _ _).trans rfl) (fun _ => congrArg (fun x => x.2.1) (gEn_2 _ _)) (kn _ (gInv_ch _ h2 hC hM hV))
  by_cases h1 : gOb 4 Y (sx xs (i + 1)) 0 0 0 = 1
  · exact w_seal K S hi5 hD hc hs (l_seal_1 _ 1 (by omega) (c6_seal_1 Y h6 hY _ ra h1)) (c7_seal_x (σ := σ) Y h7 hY (sx xs (i + 1)) 0 0 0 ra h0) (by omega) (by rw [gMO_t h0 hY (by omega), if_pos (by omega)]; exact h1) (fun h => absurd h (by omega)) (kn _ (by rw [gMO_f1 h0 (by omega)]; exact gInv_fl _ (gInv_kp hI)))
  have hn2 := gOb_no2 (d := 4) (s := (sx xs (i + 1))) (r := 0) (c := 0) (k := 0) hY (by omega) (by omega)
  have h3 : 100 ≤ gOb 4 Y (sx xs (i + 1)) 0 0 0 := by omega
  exact w_seal K S hi5 hD hc hs (l_seal_2 _ 1 (by omega) (c6_seal_3 Y h6 hY _ ra h3)) (c7_seal_x (σ := gRf σ (gOb 4 Y (sx xs (i + 1)) 0 0 0)) Y (gMs_hi (gHi_u _ _ _ _ (by omega) (gHi_u _ _ _ _ (by omega) gHi_rf)) h7) hY (sx xs (i + 1)) 0 0 0 ra h0) (by omega) (by rw [gMO_t h0 hY (by omega), if_neg (by omega)]; rfl) (fun h => absurd h (by omega)) (kn _ (by rw [gMO_r1 h0 (by omega)]; exact gInv_ru ⟨h3, bo8⟩ hC hM hV))
theorem v_copy {X : gM} {E : gE} {D n cells slots b L9 i : Nat} {xs : Nat → Int32} {σ : gS} (K : gK X E mL_law D n) (S : hSc X E b L9 xs) (hi5 : i + 5 ≤ L9) (hD : 20 ≤ D) (hc : cells + 1 ≤ n) (hs : slots + 6 ≤ 6 * n) (hI : gInv σ) (kn : ∀ σ' : gS, gInv σ' → gWX X E (cells + 1) (slots + 6) 2519 (wL b i) [] σ') : gWX X E cells slots 576 (wL b i) [] σ := by
  obtain ⟨Y, pm, P, sv, S9, rs, dt, er, T, l, k, w, hC, hM, hV⟩ := id hI
  have hY := hV.1
  have h6 := hC.1.1
  have h7 := hM.1.1
  have ra := sx_r xs (i + 1)
  have rb := sx_r xs (i + 2)
  have rc := sx_r xs (i + 3)
  have rd := sx_r xs (i + 4)
  have bo := gOb_bd (d := 5) (s := (sx xs (i + 1))) (r := 0) (c := 0) (k := 0) hY (by omega)
  have bo8 := gOb_800 (d := 5) (s := (sx xs (i + 1))) (r := 0) (c := 0) (k := 0) hY (by omega)
  by_cases h0 : gOb 5 Y (sx xs (i + 1)) 0 0 0 = 0
  · have h2 := gCoY_Y h0 hY (by omega)
    exact w_copy K S hi5 hD hc hs (l_copy _ _ 0 (by omega) (c6_copy Y h6 hY _ ra hC.1.2.1 h0)) (c7_copy (σ := (gOl (gShPut (gRem σ Y) 0 (gCoY 5 Y (sx xs (i + 1)) 0 0 0)) (lv (gCoA 5 Y (sx xs (i + 1)) 0 0 0)))) Y (gMs_hi (gHi_o _ (gHi_sh _ _ (gHi_rem _ gHi_rf))) h7) hY (sx xs (i + 1)) 0 0 0 ra pm ((gHi_o _ (gHi_sh _ _ (gHi_rem _ gHi_rf)) _ _ _ (by omega)).trans hM.1.2.1) hV.2.1 h0) (by omega) ((gEn_7 _ _).trans rfl) (fun _ => congrArg (fun x => x.2.1) (gEn_2 _ _)) (kn _ (gInv_ch _ h2 hC hM hV))
  by_cases h1 : gOb 5 Y (sx xs (i + 1)) 0 0 0 = 1
  · exact w_copy K S hi5 hD hc hs (l_copy_1 _ 1 (by omega) (c6_copy_1 Y h6 hY _ ra h1)) (c7_copy_x (σ := σ) Y h7 hY (sx xs (i + 1)) 0 0 0 ra h0) (by omega) (by rw [gMO_t h0 hY (by omega), if_pos (by omega)]; exact h1) (fun h => absurd h (by omega)) (kn _ (by rw [gMO_f1 h0 (by omega)]; exact gInv_fl _ (gInv_kp hI)))
  have hn2 := gOb_no2 (d := 5) (s := (sx xs (i + 1))) (r := 0) (c := 0) (k := 0) hY (by omega) (by omega)
  have h3 : 100 ≤ gOb 5 Y (sx xs (i + 1)) 0 0 0 := by omega
  exact w_copy K S hi5 hD hc hs (l_copy_2 _ 1 (by omega) (c6_copy_3 Y h6 hY _ ra h3)) (c7_copy_x (σ := gRf σ (gOb 5 Y (sx xs (i + 1)) 0 0 0)) Y (gMs_hi (gHi_u _ _ _ _ (by omega) (gHi_u _ _ _ _ (by omega) gHi_rf)) h7) hY (sx xs (i + 1)) 0 0 0 ra h0) (by omega) (by rw [gMO_t h0 hY (by omega), if_neg (by omega)]; rfl) (fun h => absurd h (by omega)) (kn _ (by rw [gMO_r1 h0 (by omega)]; exact gInv_ru ⟨h3, bo8⟩ hC hM hV))
theorem v_mend {X : gM} {E : gE} {D n cells slots b L9 i : Nat} {xs : Nat → Int32} {σ : gS} (K : gK X E mL_law D n) (S : hSc X E b L9 xs) (hi5 : i + 5 ≤ L9) (hD : 20 ≤ D) (hc : cells + 1 ≤ n) (hs : slots + 6 ≤ 6 * n) (hI : gInv σ) (kn : ∀ σ' : gS, gInv σ' → gWX X E (cells + 1) (slots + 6) 2519 (wL b i) [] σ') : gWX X E cells slots 1387 (wL b i) [] σ := by
  obtain ⟨Y, pm, P, sv, S9, rs, dt, er, T, l, k, w, hC, hM, hV⟩ := id hI
  have hY := hV.1
  have h6 := hC.1.1
  have h7 := hM.1.1
  have ra := sx_r xs (i + 1)
  have rb := sx_r xs (i + 2)
  have rc := sx_r xs (i + 3)
  have rd := sx_r xs (i + 4)
  have bo := gOb_bd (d := 6) (s := (sx xs (i + 1))) (r := 0) (c := 0) (k := 0) hY (by omega)
  have bo8 := gOb_800 (d := 6) (s := (sx xs (i + 1))) (r := 0) (c := 0) (k := 0) hY (by omega)
  by_cases h0 : gOb 6 Y (sx xs (i + 1)) 0 0 0 = 0
  · have h2 := gCoY_Y h0 hY (by omega)
    exact w_mend K S hi5 hD hc hs (l_mend _ _ 0 (by omega) (c6_mend Y h6 hY _ ra hC.1.2.1 h0)) (c7_mend (σ := (gOl (gShPut (gRem σ Y) 0 (gCoY 6 Y (sx xs (i + 1)) 0 0 0)) (lv (gCoA 6 Y (sx xs (i + 1)) 0 0 0)))) Y (gMs_hi (gHi_o _ (gHi_sh _ _ (gHi_rem _ gHi_rf))) h7) hY (sx xs (i + 1)) 0 0 0 ra pm ((gHi_o _ (gHi_sh _ _ (gHi_rem _ gHi_rf)) _ _ _ (by omega)).trans hM.1.2.1) hV.2.1 h0) (by omega) ((gEn_7 _ _).trans rfl) (fun _ => congrArg (fun x => x.2.1) (gEn_2 _ _)) (kn _ (gInv_ch _ h2 hC hM hV))
  by_cases h1 : gOb 6 Y (sx xs (i + 1)) 0 0 0 = 1
  · exact w_mend K S hi5 hD hc hs (l_mend_1 _ 1 (by omega) (c6_mend_1 Y h6 hY _ ra h1)) (c7_mend_x (σ := σ) Y h7 hY (sx xs (i + 1)) 0 0 0 ra h0) (by omega) (by rw [gMO_t h0 hY (by omega), if_pos (by omega)]; exact h1) (fun h => absurd h (by omega)) (kn _ (by rw [gMO_f1 h0 (by omega)]; exact gInv_fl _ (gInv_kp hI)))
  have hn2 := gOb_no2 (d := 6) (s := (sx xs (i + 1))) (r := 0) (c := 0) (k := 0) hY (by omega) (by omega)
  have h3 : 100 ≤ gOb 6 Y (sx xs (i + 1)) 0 0 0 := by omega
  exact w_mend K S hi5 hD hc hs (l_mend_2 _ 1 (by omega) (c6_mend_3 Y h6 hY _ ra h3)) (c7_mend_x (σ := gRf σ (gOb 6 Y (sx xs (i + 1)) 0 0 0)) Y (gMs_hi (gHi_u _ _ _ _ (by omega) (gHi_u _ _ _ _ (by omega) gHi_rf)) h7) hY (sx xs (i + 1)) 0 0 0 ra h0) (by omega) (by rw [gMO_t h0 hY (by omega), if_neg (by omega)]; rfl) (fun h => absurd h (by omega)) (kn _ (by rw [gMO_r1 h0 (by omega)]; exact gInv_ru ⟨h3, bo8⟩ hC hM hV))
theorem v_fill {X : gM} {E : gE} {D n cells slots b L9 i : Nat} {xs : Nat → Int32} {σ : gS} (K : gK X E mL_law D n) (S : hSc X E b L9 xs) (hi5 : i + 5 ≤ L9) (hD : 20 ≤ D) (hc : cells + 1 ≤ n) (hs : slots + 6 ≤ 6 * n) (hI : gInv σ) (kn : ∀ σ' : gS, gInv σ' → gWX X E (cells + 1) (slots + 6) 2519 (wL b i) [] σ') : gWX X E cells slots 1555 (wL b i) [] σ := by
  obtain ⟨Y, pm, P, sv, S9, rs, dt, er, T, l, k, w, hC, hM, hV⟩ := id hI
  have hY := hV.1
  have h6 := hC.1.1
  have h7 := hM.1.1
  have ra := sx_r xs (i + 1)
  have rb := sx_r xs (i + 2)
  have rc := sx_r xs (i + 3)
  have rd := sx_r xs (i + 4)
  have bo := gOb_bd (d := 7) (s := (sx xs (i + 1))) (r := 0) (c := 0) (k := 0) hY (by omega)
  have bo8 := gOb_800 (d := 7) (s := (sx xs (i + 1))) (r := 0) (c := 0) (k := 0) hY (by omega)
  by_cases h0 : gOb 7 Y (sx xs (i + 1)) 0 0 0 = 0
  · have h2 := gCoY_Y h0 hY (by omega)
    exact w_fill K S hi5 hD hc hs (l_fill _ _ 0 (by omega) (c6_fill Y h6 hY _ ra hC.1.2.1 h0)) (c7_fill (σ := (gOl (gShPut (gRem σ Y) 0 (gCoY 7 Y (sx xs (i + 1)) 0 0 0)) (lv (gCoA 7 Y (sx xs (i + 1)) 0 0 0)))) Y (gMs_hi (gHi_o _ (gHi_sh _ _ (gHi_rem _ gHi_rf))) h7) hY (sx xs (i + 1)) 0 0 0 ra pm ((gHi_o _ (gHi_sh _ _ (gHi_rem _ gHi_rf)) _ _ _ (by omega)).trans hM.1.2.1) hV.2.1 h0) (by omega) ((gEn_7 _ _).trans rfl) (fun _ => congrArg (fun x => x.2.1) (gEn_2 _ _)) (kn _ (gInv_ch _ h2 hC hM hV))
  by_cases h1 : gOb 7 Y (sx xs (i + 1)) 0 0 0 = 1
  · exact w_fill K S hi5 hD hc hs (l_fill_1 _ 1 (by omega) (c6_fill_1 Y h6 hY _ ra h1)) (c7_fill_x (σ := σ) Y h7 hY (sx xs (i + 1)) 0 0 0 ra h0) (by omega) (by rw [gMO_t h0 hY (by omega), if_pos (by omega)]; exact h1) (fun h => absurd h (by omega)) (kn _ (by rw [gMO_f1 h0 (by omega)]; exact gInv_fl _ (gInv_kp hI)))
  have hn2 := gOb_no2 (d := 7) (s := (sx xs (i + 1))) (r := 0) (c := 0) (k := 0) hY (by omega) (by omega)
  have h3 : 100 ≤ gOb 7 Y (sx xs (i + 1)) 0 0 0 := by omega
  exact w_fill K S hi5 hD hc hs (l_fill_2 _ 1 (by omega) (c6_fill_3 Y h6 hY _ ra h3)) (c7_fill_x (σ := gRf σ (gOb 7 Y (sx xs (i + 1)) 0 0 0)) Y (gMs_hi (gHi_u _ _ _ _ (by omega) (gHi_u _ _ _ _ (by omega) gHi_rf)) h7) hY (sx xs (i + 1)) 0 0 0 ra h0) (by omega) (by rw [gMO_t h0 hY (by omega), if_neg (by omega)]; rfl) (fun h => absurd h (by omega)) (kn _ (by rw [gMO_r1 h0 (by omega)]; exact gInv_ru ⟨h3, bo8⟩ hC hM hV))
theorem v_scroll {X : gM} {E : gE} {D n cells slots b L9 i : Nat} {xs : Nat → Int32} {σ : gS} (K : gK X E mL_law D n) (S : hSc X E b L9 xs) (hi5 : i + 5 ≤ L9) (hD : 20 ≤ D) (hc : cells + 1 ≤ n) (hs : slots + 6 ≤ 6 * n) (hI : gInv σ) (kn : ∀ σ' : gS, gInv σ' → gWX X E (cells + 1) (slots + 6) 2519 (wL b i) [] σ') : gWX X E cells slots 212 (wL b i) [] σ := by
  obtain ⟨Y, pm, P, sv, S9, rs, dt, er, T, l, k, w, hC, hM, hV⟩ := id hI
  have hY := hV.1
  have h6 := hC.1.1
  have h7 := hM.1.1
  have ra := sx_r xs (i + 1)
  have rb := sx_r xs (i + 2)
  have rc := sx_r xs (i + 3)
  have rd := sx_r xs (i + 4)
  have bo := gOb_bd (d := 0) (s := -1) (r := (sx xs (i + 1))) (c := (sx xs (i + 2))) (k := 0) hY (by omega)
  by_cases h0 : gOb 0 Y (-1) (sx xs (i + 1)) (sx xs (i + 2)) 0 = 0
  · have h2 := gCoY_Y h0 hY (by omega)
    exact w_scroll K S hi5 hD hc hs (l_scroll _ _ _ 0 (by omega) (c6_scroll Y h6 hY _ _ ra rb hC.1.2.1 h0)) (c7_scroll (σ := (gOl (gShPut (gRem σ Y) 0 (gCoY 0 Y (-1) (sx xs (i + 1)) (sx xs (i + 2)) 0)) (lv (gCoA 0 Y (-1) (sx xs (i + 1)) (sx xs (i + 2)) 0)))) Y (gMs_hi (gHi_o _ (gHi_sh _ _ (gHi_rem _ gHi_rf))) h7) hY _ _ ra rb pm ((gHi_o _ (gHi_sh _ _ (gHi_rem _ gHi_rf)) _ _ _ (by omega)).trans hM.1.2.1) hV.2.1 h0) (by omega) ((gEn_7 _ _).trans rfl) (fun _ => congrArg (fun x => x.2.1) (gEn_2 _ _)) (kn _ (gInv_ch _ h2 hC hM hV))
  have hz1 := gOb_z1 (Y := Y) (s := -1) (r := (sx xs (i + 1))) (c := (sx xs (i + 2))) (k := 0)
  by_cases h2 : gOb 0 Y (-1) (sx xs (i + 1)) (sx xs (i + 2)) 0 = 2
  · exact w_scroll K S hi5 hD hc hs (l_scroll_1 _ _ 1 (by omega) (c6_scroll_2 Y h6 hY _ _ ra rb h2)) (c7_scroll_2 (σ := σ) Y h7 hY _ _ ra rb h2) (by omega) rfl (fun h => absurd h (by omega)) (kn _ (gInv_fl _ (gInv_kp hI)))
  have h3 : 100 ≤ gOb 0 Y (-1) (sx xs (i + 1)) (sx xs (i + 2)) 0 := by omega
  have h105 := (gOb_z3 h3).2.2
  have hcc := c6_scroll_3 (E := E) Y h6 hY _ _ ra rb h3
  rw [h105] at hcc
  exact w_scroll K S hi5 hD hc hs (l_scroll_2 _ _ 1 (by omega) hcc) (c7_scroll_3 (σ := gRf σ 105) Y (gMs_hi (gHi_u _ _ _ _ (by omega) (gHi_u _ _ _ _ (by omega) gHi_rf)) h7) hY _ _ ra rb h3) (by omega) rfl (fun h => absurd h (by omega)) (kn _ (gInv_ru (b := 105) (p := 2) (by omega) hC hM hV))
theorem v_undo {X : gM} {E : gE} {D n cells slots b L9 i : Nat} {xs : Nat → Int32} {σ : gS} (K : gK X E mL_law D n) (S : hSc X E b L9 xs) (hi5 : i + 5 ≤ L9) (hD : 20 ≤ D) (hc : cells + 1 ≤ n) (hs : slots + 6 ≤ 6 * n) (hI : gInv σ) (kn : ∀ σ' : gS, gInv σ' → gWX X E (cells + 1) (slots + 6) 2519 (wL b i) [] σ') : gWX X E cells slots 2418 (wL b i) [] σ := by
  obtain ⟨Y, pm, P, sv, S9, rs, dt, er, T, l, k, w, hC, hM, hV⟩ := id hI
  have hY := hV.1
  have h6 := hC.1.1
  have h7 := hM.1.1
  have ra := sx_r xs (i + 1)
  have rb := sx_r xs (i + 2)
  have rc := sx_r xs (i + 3)
  have rd := sx_r xs (i + 4)
  have p6 := hC.1.2.2.1
  have p7 := hM.1.2.1
  by_cases hp : pm = 0
  · exact w_undo K S hi5 hD hc hs (l_undo_1 1 (by omega) (c6_undo_1 (by omega))) (c7_undo_1 (by omega)) (by omega) rfl (fun h => absurd h (by omega)) (kn _ (gInv_fl 1 hI))
  · obtain ⟨j0, hj⟩ : ∃ j0 : Nat, pm = j0 + 1 := ⟨pm - 1, by omega⟩
    have h8 := hV.2.1
    exact w_undo K S hi5 hD hc hs (l_undo _ 0 (by omega) (c6_undo (P j0) (hV.2.2.1 j0 (by omega)) hC.1.2.1 j0 (by omega) (by omega) (hC.1.2.2.2 j0 (by omega)))) (c7_undo (σ := gOl (gShPut (gU σ 8 0 1 (j0 : Int)) 0 (P j0)) (lv (j0 : Int))) j0 (by rw [gHi_o (σ := σ) _ (gHi_sh _ _ (gHi_u _ _ _ _ (by omega) gHi_rf)) _ _ _ (by omega)]; omega) (by omega)) (by omega) rfl (fun _ => rfl) (kn _ ⟨P j0, j0, P, sv, S9, rs, dt, er, T, l, k, w, CI_lo (VI_un hj hV) (gLow_cp _ _ _ _ _ _ _ (by omega) (gLow_u _ _ _ _ (by omega) (gLow_fl 0 gLow_rf))) (CI_lo (VI_un hj hV) (gLow_o _) (CI_un hj hV hC)), MI_un hj hV (MI_hi (gHi_o _ (gHi_sh _ _ (gHi_u _ _ _ _ (by omega) gHi_rf))) hM), VI_un hj hV⟩)
theorem v_save {X : gM} {E : gE} {D n cells slots b L9 i : Nat} {xs : Nat → Int32} {σ : gS} (K : gK X E mL_law D n) (S : hSc X E b L9 xs) (hi5 : i + 5 ≤ L9) (hD : 20 ≤ D) (hc : cells + 1 ≤ n) (hs : slots + 6 ≤ 6 * n) (hI : gInv σ) (kn : ∀ σ' : gS, gInv σ' → gWX X E (cells + 1) (slots + 6) 2519 (wL b i) [] σ') : gWX X E cells slots 2462 (wL b i) [] σ := by
  obtain ⟨Y, pm, P, sv, S9, rs, dt, er, T, l, k, w, hC, hM, hV⟩ := id hI
  have hY := hV.1
  have h6 := hC.1.1
  have h7 := hM.1.1
  have ra := sx_r xs (i + 1)
  have rb := sx_r xs (i + 2)
  have rc := sx_r xs (i + 3)
  have rd := sx_r xs (i + 4)
  have hY0 := hY.1
  exact w_save K S hi5 hD hc hs (v := Y 0) (by omega) (c6_save Y h6 hY) (c7_save (σ := gSv σ Y) Y (gMs_hi (gHi_u _ _ _ _ (by omega) (gHi_sh _ _ gHi_rf)) h7) hY) (kn _ ⟨Y, pm, P, 1, Y, rs, dt, er, T, l, k, w, CI_lo (VI_sv hV) (gLow_u _ _ _ _ (by omega) (gLow_cp _ _ _ _ _ _ _ (by omega) (gLow_fl 0 gLow_rf))) (CI_sv hV hC), MI_sv (MI_hi (gHi_u _ _ _ _ (by omega) (gHi_sh _ _ gHi_rf)) hM), VI_sv hV⟩)
theorem v_restore {X : gM} {E : gE} {D n cells slots b L9 i : Nat} {xs : Nat → Int32} {σ : gS} (K : gK X E mL_law D n) (S : hSc X E b L9 xs) (hi5 : i + 5 ≤ L9) (hD : 20 ≤ D) (hc : cells + 1 ≤ n) (hs : slots + 6 ≤ 6 * n) (hI : gInv σ) (kn : ∀ σ' : gS, gInv σ' → gWX X E (cells + 1) (slots + 6) 2519 (wL b i) [] σ') : gWX X E cells slots 2475 (wL b i) [] σ := by
  obtain ⟨Y, pm, P, sv, S9, rs, dt, er, T, l, k, w, hC, hM, hV⟩ := id hI
  have hY := hV.1
  have h6 := hC.1.1
  have h7 := hM.1.1
  have ra := sx_r xs (i + 1)
  have rb := sx_r xs (i + 2)
  have rc := sx_r xs (i + 3)
  have rd := sx_r xs (i + 4)
  have s6 := hC.2.1.1
  have s7 := hM.2.1.1
  have hsv := hV.2.2.2.1
  have hHi : gHi σ (gRs σ S9) := gHi_u _ _ _ _ (by omega) (gHi_sh _ _ gHi_rf)
  by_cases h1 : sv = 1
  · exact w_restore K S hi5 hD hc hs (l_restore _ 0 (by omega) (c6_restore S9 (hV.2.2.2.2.1 h1) (hC.2.1.2 h1) (by omega))) (c7_restore (σ := gOl (gRs σ S9) (lv (S9 0))) ((hHi 14 0 4 (by omega)).trans (by omega))) (by omega) rfl (fun _ => congrArg lv ((hHi 18 0 0 (by omega)).trans (hM.2.1.2 h1 0 (by omega))).symm) (kn _ ⟨S9, 0, P, sv, S9, rs, dt, er, T, l, k, w, CI_lo (VI_rst h1 hV) (gLow_u _ _ _ _ (by omega) (gLow_cp _ _ _ _ _ _ _ (by omega) (gLow_fl 0 gLow_rf))) (CI_lo (VI_rst h1 hV) (gLow_o _) (CI_rs h1 hV hC)), MI_rs h1 (MI_hi (gHi_o _ (gHi_u _ _ _ _ (by omega) (gHi_sh _ _ gHi_rf))) hM), VI_rst h1 hV⟩)
  · exact w_restore K S hi5 hD hc hs (l_restore_1 1 (by omega) (c6_restore_1 (by omega))) (c7_restore_1 (by omega)) (by omega) rfl (fun h => absurd h (by omega)) (kn _ (gInv_fl 1 hI))
theorem g_run_800 {T : Nat → Int} {l : Nat} : ∀ (n : Nat) (s : Int) {Y : Nat → Int}, gY Y → (g_run T l n s Y).2.1 < 800
  | 0, s, Y, hY => by show (0 : Int) < 800; omega
  | n + 1, s, Y, hY => by
    have hsp := t_dd_spec T l s
    rw [g_run_1]
    split
    · show (0 : Int) < 800; omega
    · split
      · exact gOb_800 hY hsp.1
      · rename_i h0 h1
        exact g_run_800 n _ (gCoY_Y (Classical.byContradiction h1) hY hsp.1)
theorem v_read {X : gM} {E : gE} {D n cells slots b L9 i : Nat} {xs : Nat → Int32} {σ : gS} (K : gK X E mL_law D n) (S : hSc X E b L9 xs) (hi5 : i + 5 ≤ L9) (hD : 20 ≤ D) (hc : cells + 1 ≤ n) (hs : slots + 6 ≤ 6 * n) (hI : gInv σ) (kn : ∀ σ' : gS, gInv σ' → gWX X E (cells + 1) (slots + 6) 2519 (wL b i) [] σ') : gWX X E cells slots 2065 (wL b i) [] σ := by
  obtain ⟨Y, pm, P, sv, S9, rs, dt, er, T, l, k, w, hC, hM, hV⟩ := id hI
  have hY := hV.1
  have h6 := hC.1.1
  have h7 := hM.1.1
  have ra := sx_r xs (i + 1)
  have rb := sx_r xs (i + 2)
  have rc := sx_r xs (i + 3)
  have rd := sx_r xs (i + 4)
  have hin := hC.2.2.2.1
  have h17 := hM.2.2.2.1
  by_cases he : t_err T l 60 0 = -1
  · have hr := g_run_Y (T := T) (l := l) 60 0 hY
    have hc6 := c6_read (E := E) Y h6 hY T l hin hC.1.2.1 he
    have hm1 : ∀ x, MI (gOl (rdS σ Y (g_run T l 60 0 Y)) x) Y pm P sv S9 rs dt er T l k w := fun x => MI_hi (gHi_o x gHi_rdS) hM
    have hm2 : MI (rdS σ Y (g_run T l 60 0 Y)) Y pm P sv S9 rs dt er T l k w := MI_hi gHi_rdS hM
    by_cases h0 : (g_run T l 60 0 Y).2.1 = 0
    · rw [show rdO (g_run T l 60 0 Y) = .inl (some (iv (g_run T l 60 0 Y).1)) from if_pos h0] at hc6
      have es : rdS σ Y (g_run T l 60 0 Y) = gRem (rd3 σ Y (g_run T l 60 0 Y).2.2) Y := if_pos h0
      have hc7 := c7_read (E := E) (σ := gOl (rdS σ Y (g_run T l 60 0 Y)) (lv (g_run T l 60 0 Y).1)) T l (hm1 _).2.2.2.1 Y (hm1 _).1.1 hY pm (hm1 _).1.2.1 hV.2.1 he
      rw [if_pos h0, show rdS7 (rd7 (gOl (rdS σ Y (g_run T l 60 0 Y)) (lv (g_run T l 60 0 Y).1)) (m_R (gOl (rdS σ Y (g_run T l 60 0 Y)) (lv (g_run T l 60 0 Y).1)) T l) 0 (-1)) pm (g_run T l 60 0 Y) = gEn (gMp (rdK (rd7 (gOl (rdS σ Y (g_run T l 60 0 Y)) (lv (g_run T l 60 0 Y).1)) (m_R (gOl (rdS σ Y (g_run T l 60 0 Y)) (lv (g_run T l 60 0 Y).1)) T l) 0 (-1))) (g_run T l 60 0 Y).2.2) pm from if_pos h0] at hc7
      have hV3 := VI_y hr.1 (VI_er (e9 := -1) (by omega) hV)
      have hV2 := VI_pu (g_run T l 60 0 Y).2.2 hr.1 (VI_er (e9 := -1) (by omega) hV)
      have hCi : CI (rdS σ Y (g_run T l 60 0 Y)) (g_run T l 60 0 Y).2.2 (gPn pm) (gPu P pm Y) sv S9 rs dt (-1) T 0 k w := by rw [es]; exact CI_remg hY hV3 (CI_rd3 hr.1 hV hC)
      exact w_read K S hi5 hD hc hs (l_read _ 1 (by omega) hc6) hc7 (by omega) ((gEn_7 _ _).trans rfl) (fun _ => congrArg (fun x => x.2.1) (gEn_2 _ _)) (kn _ ⟨(g_run T l 60 0 Y).2.2, gPn pm, gPu P pm Y, sv, S9, rs, dt, -1, T, 0, k, w, CI_lo hV2 (gLow_en _ (gLow_mp _ (gLow_rdK gLow_r7))) (CI_lo hV2 (gLow_o _) hCi), MI_rdE (VI_er (e9 := -1) (by omega) hV) (MI_r7 (hm1 _)), hV2⟩)
    · have hc7 := c7_read (E := E) (σ := rdS σ Y (g_run T l 60 0 Y)) T l hm2.2.2.2.1 Y hm2.1.1 hY pm hm2.1.2.1 hV.2.1 he
      rw [if_neg h0] at hc7
      have hV1 := VI_er (e9 := -1) (by omega) hV
      by_cases h1 : (g_run T l 60 0 Y).2.1 < 100
      · rw [show rdO (g_run T l 60 0 Y) = .inr "java/lang/IllegalArgumentException" from (if_neg h0).trans (if_pos h1)] at hc6
        have es : rdS σ Y (g_run T l 60 0 Y) = rd4 σ Y (g_run T l 60 0 Y).2.2 := (if_neg h0).trans (if_pos h1)
        rw [show rdS7 (rd7 (rdS σ Y (g_run T l 60 0 Y)) (m_R (rdS σ Y (g_run T l 60 0 Y)) T l) 0 (-1)) pm (g_run T l 60 0 Y) = gFl (rdK (rd7 (rdS σ Y (g_run T l 60 0 Y)) (m_R (rdS σ Y (g_run T l 60 0 Y)) T l) 0 (-1))) 1 from (if_neg h0).trans (if_pos h1)] at hc7
        have hCi : CI (rdS σ Y (g_run T l 60 0 Y)) Y pm P sv S9 rs dt (-1) T 0 k w := by rw [es]; exact CI_rd4 hr.1 hV hC
        exact w_read K S hi5 hD hc hs (l_read_1 1 (by omega) hc6) hc7 (by omega) rfl (fun h => absurd h (by omega)) (kn _ ⟨Y, pm, P, sv, S9, rs, dt, -1, T, 0, k, w, CI_lo hV1 (gLow_fl 1 (gLow_rdK gLow_r7)) hCi, MI_fl 1 (MI_rdK (MI_r7 hm2)), hV1⟩)
      · rw [show rdO (g_run T l 60 0 Y) = .inr "java/lang/UnsupportedOperationException" from (if_neg h0).trans (if_neg h1)] at hc6
        have es : rdS σ Y (g_run T l 60 0 Y) = gRf (rd4 σ Y (g_run T l 60 0 Y).2.2) (g_run T l 60 0 Y).2.1 := (if_neg h0).trans (if_neg h1)
        rw [show rdS7 (rd7 (rdS σ Y (g_run T l 60 0 Y)) (m_R (rdS σ Y (g_run T l 60 0 Y)) T l) 0 (-1)) pm (g_run T l 60 0 Y) = gRu (rdK (rd7 (rdS σ Y (g_run T l 60 0 Y)) (m_R (rdS σ Y (g_run T l 60 0 Y)) T l) 0 (-1))) 2 ((g_run T l 60 0 Y).2.1 / 100) ((g_run T l 60 0 Y).2.1 % 100) from (if_neg h0).trans (if_neg h1)] at hc7
        have h8 : (g_run T l 60 0 Y).2.1 < 800 := g_run_800 60 0 hY
        have hV2 := VI_rs (r9 := (g_run T l 60 0 Y).2.1 / 100) (by omega) hV1
        have hCi : CI (rdS σ Y (g_run T l 60 0 Y)) Y pm P sv S9 ((g_run T l 60 0 Y).2.1 / 100) ((g_run T l 60 0 Y).2.1 % 100) (-1) T 0 k w := by rw [es]; exact CI_rf _ hV1 (CI_rd4 hr.1 hV hC)
        exact w_read K S hi5 hD hc hs (l_read_2 1 (by omega) hc6) hc7 (by omega) rfl (fun h => absurd h (by omega)) (kn _ ⟨Y, pm, P, sv, S9, _, _, -1, T, 0, k, w, CI_lo hV2 (gLow_ru _ _ _ (gLow_rdK gLow_r7)) hCi, MI_ru 2 _ _ (MI_rdK (MI_r7 hm2)), hV2⟩)
  · have hb := t_err_bd (T := T) (l := l) 60 (s := 0) (by omega)
    have hV1 := VI_er (e9 := t_err T l 60 0) (by omega) hV
    have hHi : gHi σ (rdE σ (t_err T l 60 0)) := gHi_u _ _ _ _ (by omega) (gHi_u _ _ _ _ (by omega) gHi_rf)
    have hm2 : MI (rdE σ (t_err T l 60 0)) Y pm P sv S9 rs dt er T l k w := MI_hi hHi hM
    have hCi : CI (rdE σ (t_err T l 60 0)) Y pm P sv S9 rs dt (t_err T l 60 0) T 0 k w := CI_er hV hC rfl rfl (fun a b c q1 q2 _ _ => by unfold rdE; rw [gU_at, if_neg (by omega), gU_at, if_neg (by omega)]) rfl
    exact w_read K S hi5 hD hc hs (l_read_1 1 (by omega) (c6_read_e T l hin he)) (c7_read_e (σ := rdE σ (t_err T l 60 0)) T l hm2.2.2.2.1 he) (by omega) rfl (fun h => absurd h (by omega)) (kn _ ⟨Y, pm, P, sv, S9, rs, dt, t_err T l 60 0, T, 0, k, w, CI_lo hV1 (gLow_fl 1 gLow_r7) hCi, MI_fl 1 (MI_r7 hm2), hV1⟩)
