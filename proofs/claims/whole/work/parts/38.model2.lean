/-! ===== ScrollChecksModel: mending, filling ===== -/
theorem s_sm_zc {z y : Nat → Int} (hz : gZ z) (h : ∀ j, j < 68 → z j = y j) : s_sm z = s_sm y := by
  have h0 := hz.1
  unfold s_sm
  rw [h 0 (by omega)] at h0 ⊢
  exact gSum_cong _ (fun k hk => s_m_cong (fun j _ h2 => h j h2) (by omega))
theorem s_f_zc {z y : Nat → Int} (h : ∀ j, j < 68 → z j = y j) {b : Nat} (hb : b < 14) : s_f z b = s_f y b := by
  unfold s_f
  rw [h _ (by omega), s_b_cong (fun j _ h2 => h j h2) hb]
theorem s_bf_zc {z y : Nat → Int} (h : ∀ j, j < 68 → z j = y j) : s_bf z = s_bf y :=
  gFst_cong 14 0 (fun k _ hk => by rw [s_m_cong (fun j _ h2 => h j h2) (by omega)])
theorem zFp_zc {z y : Nat → Int} (h : ∀ j, j < 68 → z j = y j) {b : Nat} (hb : b < 14) (m : Nat) {j : Nat} (hj : j < 68) : zFp z b m j = zFp y b m j := by
  rw [zFp_at, zFp_at, h j hj, s_f_zc h hb]
theorem s_bf_nat {z : Nat → Int} (h : s_bf z ≠ -1) : ∃ x : Nat, s_bf z = (x : Int) ∧ x < 14 ∧ s_m z x = 1 := by
  obtain ⟨x, ex, px, _, hx, _⟩ := gFst_yes (p := fun b => decide (s_m z b = 1)) (n := 14) (a := 0) h
  exact ⟨x, ex, by omega, of_decide_eq_true px⟩
theorem zF1_zc {z y : Nat → Int} (h : ∀ j, j < 68 → z j = y j) (hb : s_bf z ≠ -1) {j : Nat} (hj : j < 68) : zF1 z j = zF1 y j := by
  obtain ⟨x, ex, hx, _⟩ := s_bf_nat hb
  unfold zF1
  rw [← s_bf_zc h, ex]
  exact zFp_zc h hx 48 hj
theorem s_fill_zc : ∀ (n : Nat) {z y : Nat → Int}, (∀ j, j < 68 → z j = y j) → (s_fill n z).1 = (s_fill n y).1 ∧ ∀ j, j < 68 → (s_fill n z).2 j = (s_fill n y).2 j
  | 0, z, y, h => ⟨rfl, h⟩
  | n + 1, z, y, h => by
    unfold s_fill
    rw [← s_bf_zc h]
    by_cases q : s_bf z = -1
    · rw [if_pos q, if_pos q]; exact ⟨rfl, h⟩
    · rw [if_neg q, if_neg q]
      have ih := s_fill_zc n (z := zF1 z) (y := zF1 y) (fun j hj => zF1_zc h q hj)
      exact ⟨by show (s_fill n (zF1 z)).1 + 1 = (s_fill n (zF1 y)).1 + 1; rw [ih.1], ih.2⟩
/-- how many signs are smudged -/
def s_mu (z : Nat → Int) : Int := gSum (fun j => gB1 (z (20 + j) = -1)) 48
theorem s_mu_bd (z : Nat → Int) : 0 ≤ s_mu z ∧ s_mu z ≤ 48 := by
  have := gSum_le (f := fun j => gB1 (z (20 + j) = -1)) (c := 1) (fun k => gB1_bd _) 48
  unfold s_mu; omega
theorem s_mu_zc {z y : Nat → Int} (h : ∀ j, j < 68 → z j = y j) : s_mu z = s_mu y := gSum_cong 48 (fun k hk => by rw [h _ (by omega)])
theorem s_mu_set {z : Nat → Int} {r c : Nat} (hr : r < 6) (hc : c < 8) {v : Int} (hv : v ≠ -1) (h : z (20 + (8 * r + c)) = -1) : s_mu (zset z r c v) = s_mu z - 1 := by
  unfold s_mu
  rw [gSum_cong 48 (g := fun k => if k = 8 * r + c then 0 else gB1 (z (20 + k) = -1)) (fun k hk => ?_), gSum_upd 48 (by omega), gB1_t h]
  · omega
  · try dsimp only
    rw [zset_at]
    by_cases q : k = 8 * r + c
    · rw [if_pos q]
      exact gB1_f (by rw [if_pos (by omega)]; exact hv)
    · rw [if_neg q]
      exact gB1_iff (by rw [if_neg (by omega)])
/-- the one smudged cell of a band -/
theorem s_one_r {z : Nat → Int} {r c c2 : Nat} (hr : r < 6) (h1 : s_m z r = 1) (hc : c < 8) (hc2 : c2 < 8) (e1 : z (20 + (8 * r + c)) = -1) (e2 : z (20 + (8 * r + c2)) = -1) : c = c2 := by
  apply Classical.byContradiction
  intro q
  have h2 := gB1s_two (p := fun c => decide (z (20 + (8 * r + c)) = -1)) q hc hc2 (decide_eq_true e1) (decide_eq_true e2)
  rw [s_m_r z hr] at h1
  unfold s_rm at h1
  rw [gSum_cong 8 (g := fun c => gB1 (z (20 + (8 * r + c)) = -1)) (fun k hk => gB1_iff decide_eq_true_iff)] at h2
  omega
theorem s_one_c {z : Nat → Int} {c r r2 : Nat} (h1 : s_m z (6 + c) = 1) (hr : r < 6) (hr2 : r2 < 6) (e1 : z (20 + (8 * r + c)) = -1) (e2 : z (20 + (8 * r2 + c)) = -1) : r = r2 := by
  apply Classical.byContradiction
  intro q
  have h2 := gB1s_two (p := fun r => decide (z (20 + (8 * r + c)) = -1)) q hr hr2 (decide_eq_true e1) (decide_eq_true e2)
  rw [s_m_c z c] at h1
  unfold s_cm at h1
  rw [gSum_cong 6 (g := fun r => gB1 (z (20 + (8 * r + c)) = -1)) (fun k hk => gB1_iff decide_eq_true_iff)] at h2
  omega
theorem zF_r {z : Nat → Int} {r c : Nat} (hr : r < 6) (hc : c < 8) (h1 : s_m z r = 1) (e : z (20 + (8 * r + c)) = -1) {j : Nat} (hj : j < 68) : zset z r c (s_f z r) j = zFp z r 48 j := by
  rw [zset_at, zFp_at]
  by_cases q : j = 20 + (8 * r + c)
  · rw [if_pos q, if_pos ⟨by omega, by omega, by rw [q]; exact e, Or.inl (by omega)⟩]
  · rw [if_neg q, if_neg (fun y => by
      rcases y.2.2.2 with hb | hb
      · have := s_one_r hr h1 (c := c) (c2 := (j - 20) % 8) hc (by omega) e (by rw [show 20 + (8 * r + (j - 20) % 8) = j by omega]; exact y.2.2.1)
        omega
      · omega)]
theorem zF_c {z : Nat → Int} {r c : Nat} (hr : r < 6) (hc : c < 8) (h1 : s_m z (6 + c) = 1) (e : z (20 + (8 * r + c)) = -1) {j : Nat} (hj : j < 68) : zset z r c (s_f z (6 + c)) j = zFp z (6 + c) 48 j := by
  rw [zset_at, zFp_at]
  by_cases q : j = 20 + (8 * r + c)
  · rw [if_pos q, if_pos ⟨by omega, by omega, by rw [q]; exact e, Or.inr (by omega)⟩]
  · rw [if_neg q, if_neg (fun y => by
      rcases y.2.2.2 with hb | hb
      · omega
      · have := s_one_c (c := c) h1 (r := r) (r2 := (j - 20) / 8) hr (by omega) e (by rw [show 20 + (8 * ((j - 20) / 8) + c) = j by omega]; exact y.2.2.1)
        omega)]
theorem gFst_1 (p : Nat → Bool) (a n : Nat) : gFst p a (n + 1) = if p a = true then (a : Int) else gFst p (a + 1) n := rfl
theorem gFst_add {p : Nat → Bool} : ∀ (n m a : Nat), gFst p a (n + m) = if gFst p a n = -1 then gFst p (a + n) m else gFst p a n
  | 0, m, a => by rw [Nat.zero_add]; rfl
  | n + 1, m, a => by
    rw [show n + 1 + m = (n + m) + 1 by omega, gFst_1 p a (n + m), gFst_1 p a n]
    by_cases q : p a = true
    · rw [if_pos q, if_pos q, if_neg (by omega)]
    · rw [if_neg q, if_neg q, gFst_add n m (a + 1), show a + 1 + n = a + (n + 1) by omega]
theorem gFst_sh {p : Nat → Bool} (d : Nat) : ∀ (n a : Nat), gFst p (d + a) n = if gFst (fun k => p (d + k)) a n = -1 then -1 else (d : Int) + gFst (fun k => p (d + k)) a n
  | 0, a => rfl
  | n + 1, a => by
    unfold gFst
    by_cases q : p (d + a) = true
    · rw [if_pos q, if_pos q, if_neg (by omega)]; omega
    · rw [if_neg q, if_neg q]
      exact gFst_sh d n (a + 1)
def s_o1 (z : Nat → Int) : Int := gFst (fun b => decide (s_m z b = 1)) 0 6
def s_o2 (z : Nat → Int) : Int := gFst (fun b => decide (s_m z (6 + b) = 1)) 0 8
theorem s_bf_o (z : Nat → Int) : s_bf z = if s_o1 z = -1 then (if s_o2 z = -1 then -1 else 6 + s_o2 z) else s_o1 z := by
  have e := gFst_add (p := fun b => decide (s_m z b = 1)) 6 8 0
  have e2 := gFst_sh (p := fun b => decide (s_m z b = 1)) 6 8 0
  unfold s_bf s_o1 s_o2
  rw [show (14 : Nat) = 6 + 8 from rfl, e, show 0 + 6 = 6 + 0 from rfl, e2]
  rfl
theorem s_om_cases (z : Nat → Int) (n : Int) : s_om z n = 0 ∨ s_om z n = 400 + n ∨ (0 < s_sm z ∧ s_om z n = 200 + s_sm z) ∨ s_om z n = 500 ∨ s_om z n = 600 + (10 * s_wr z + s_wc z) ∨ ((s_wr z = 1 ∧ s_wc z = 1) ∧ s_om z n = 700 + (10 * s_f z (s_r1 z) + s_f z (6 + s_c1 z))) := by
  unfold s_om
  split
  · exact Or.inr (Or.inl rfl)
  split
  · exact Or.inr (Or.inr (Or.inl ⟨by assumption, rfl⟩))
  split
  · exact Or.inr (Or.inr (Or.inr (Or.inl rfl)))
  split
  · exact Or.inr (Or.inr (Or.inr (Or.inr (Or.inl rfl))))
  split
  · exact Or.inl rfl
  · exact Or.inr (Or.inr (Or.inr (Or.inr (Or.inr ⟨by omega, rfl⟩))))
theorem c7_mendBar {E : gE} {σ : gS} (Y : Nat → Int) (h : gMs σ Y) (hY : gY Y) (n : Nat) (hn : (n : Int) < Y 0) : gCt E mX7_mendBar 9 0 [rf 14 0, iv (n : Int)] σ (.inl (some (iv (s_om (zb Y n) (n : Int) / 100)))) σ := by
  refine gCt_of (L := [some (rf 14 0), some (iv (n : Int)), none, none]) (by decide +kernel) rfl rfl (Nat.le_of_ble_eq_true rfl) (fun X K hE => ?_)
  have hY0 := hY.1
  have hz := hY.2 n hn
  have ⟨q0, q1, q2, q3, q4, q5, q6, q7, q8⟩ := hz
  have b1 := s_sm_bd hz
  have b2 := s_wr_bd (zb Y n)
  have b3 := s_wc_bd (zb Y n)
  have b4 := gB1_bd (zb Y n 2 = 1)
  have b5 : gB1 (zb Y n 2 = 1) = zb Y n 2 := by unfold gB1; split <;> omega
  refine x_aload_0 K dX7_mendBar_0 ?_
  refine x_iload_1 K dX7_mendBar_1 ?_
  refine x_callV1 K (c7_isSealed Y h hY n hn) mtX7_isSealed miX7_isSealed rc14 ⟨by decide, (by decide)⟩ lkRX7_111 ⟨by decide, by decide, by decide⟩ rfl (Nat.le_of_ble_eq_true rfl) dX7_mendBar_2 ?_
  refine x_if_ne (tgt := 10) K (by omega) dX7_mendBar_5 (by decide) (fun h5 => ?_) (fun h5 => ?_)
  · refine x_aload_0 K dX7_mendBar_10 ?_
    refine x_iload_1 K dX7_mendBar_11 ?_
    refine x_callV1 K (c7_smudged Y h hY n hn) mtX7_smudged miX7_smudged rc14 ⟨by decide, (by decide)⟩ lkRX7_134 ⟨by decide, by decide, by decide⟩ rfl (Nat.le_of_ble_eq_true rfl) dX7_mendBar_12 ?_
    refine x_if_le (tgt := 20) K (by omega) dX7_mendBar_15 (by decide) (fun h15 => ?_) (fun h15 => ?_)
    · refine x_aload_0 K dX7_mendBar_20 ?_
      refine x_iload_1 K dX7_mendBar_21 ?_
      refine x_iconst K dX7_mendBar_22 ?_
      refine x_callV2 K (c7_wrongMany_r Y h hY n hn) mtX7_wrongMany miX7_wrongMany rc14 ⟨by decide, (by decide)⟩ lkRX7_160 ⟨by decide, by decide, by decide⟩ rfl (Nat.le_of_ble_eq_true rfl) dX7_mendBar_23 ?_
      refine x_istore_2 K dX7_mendBar_26 rfl ?_
      refine x_aload_0 K dX7_mendBar_27 ?_
      refine x_iload_1 K dX7_mendBar_28 ?_
      refine x_iconst K dX7_mendBar_29 ?_
      refine x_callV2 K (c7_wrongMany_c Y h hY n hn) mtX7_wrongMany miX7_wrongMany rc14 ⟨by decide, (by decide)⟩ lkRX7_160 ⟨by decide, by decide, by decide⟩ rfl (Nat.le_of_ble_eq_true rfl) dX7_mendBar_30 ?_
      refine x_istore_3 K dX7_mendBar_33 rfl ?_
      refine x_iload_2 K dX7_mendBar_34 ?_
      refine x_if_ne (tgt := 44) K (by omega) dX7_mendBar_35 (by decide) (fun h35 => ?_) (fun h35 => ?_)
      · refine x_iload_2 K dX7_mendBar_44 ?_
        refine x_iconst K dX7_mendBar_45 ?_
        refine x_icmp_ne (tgt := 54) K (by omega) dX7_mendBar_46 (by decide) (fun h46 => ?_) (fun h46 => ?_)
        · refine x_bipush K dX7_mendBar_54 rfl ?_
          exact x_iret K hE rfl dX7_mendBar_56 (by decide) (by decide) (by unfold s_om; (repeat' split) <;> omega) rfl
        · refine x_iload_3 K dX7_mendBar_49 ?_
          refine x_iconst K dX7_mendBar_50 ?_
          refine x_icmp_eq (tgt := 57) K (by omega) dX7_mendBar_51 (by decide) (fun h51 => ?_) (fun h51 => ?_)
          · have f1 := s_fw_row (z := zb Y n) (by omega)
            have f2 := s_fw_col (z := zb Y n) (by omega)
            have g1 := s_f_bd hz (b := s_r1 (zb Y n)) (by omega)
            have g2 := s_f_bd hz (b := 6 + s_c1 (zb Y n)) (by omega)
            refine x_aload_0 K dX7_mendBar_57 ?_
            refine x_iload_1 K dX7_mendBar_58 ?_
            refine x_iconst K dX7_mendBar_59 ?_
            refine x_aload_0 K dX7_mendBar_60 ?_
            refine x_iload_1 K dX7_mendBar_61 ?_
            refine x_iconst K dX7_mendBar_62 ?_
            refine x_callV2 K (c7_wrongFirst_r Y h hY n hn (by omega)) mtX7_wrongFirst miX7_wrongFirst rc14 ⟨by decide, (by decide)⟩ lkRX7_172 ⟨by decide, by decide, by decide⟩ rfl (Nat.le_of_ble_eq_true rfl) dX7_mendBar_63 ?_
            refine x_callV3 K (c7_faultOf_r Y h hY n hn (s_r1 (zb Y n)) (by omega)) mtX7_faultOf miX7_faultOf rc14 ⟨by decide, (by decide)⟩ lkRX7_114 ⟨by decide, by decide, by decide⟩ rfl (Nat.le_of_ble_eq_true rfl) dX7_mendBar_66 ?_
            refine x_aload_0 K dX7_mendBar_69 ?_
            refine x_iload_1 K dX7_mendBar_70 ?_
            refine x_iconst K dX7_mendBar_71 ?_
            refine x_aload_0 K dX7_mendBar_72 ?_
            refine x_iload_1 K dX7_mendBar_73 ?_
            refine x_iconst K dX7_mendBar_74 ?_
            refine x_callV2 K (c7_wrongFirst_c Y h hY n hn (by omega)) mtX7_wrongFirst miX7_wrongFirst rc14 ⟨by decide, (by decide)⟩ lkRX7_172 ⟨by decide, by decide, by decide⟩ rfl (Nat.le_of_ble_eq_true rfl) dX7_mendBar_75 ?_
            refine x_callV3 K (c7_faultOf_c Y h hY n hn (s_c1 (zb Y n)) (by omega)) mtX7_faultOf miX7_faultOf rc14 ⟨by decide, (by decide)⟩ lkRX7_114 ⟨by decide, by decide, by decide⟩ rfl (Nat.le_of_ble_eq_true rfl) dX7_mendBar_78 ?_
            refine x_icmp_ne (tgt := 88) K (by omega) dX7_mendBar_81 (by decide) (fun h81 => ?_) (fun h81 => ?_)
            · refine x_bipush K dX7_mendBar_88 rfl ?_
              exact x_iret K hE rfl dX7_mendBar_90 (by decide) (by decide) (by unfold s_om; (repeat' split) <;> omega) rfl
            · refine x_iconst K dX7_mendBar_84 ?_
              refine x_goto (tgt := 90) K dX7_mendBar_85 (by decide) ?_
              exact x_iret K hE rfl dX7_mendBar_90 (by decide) (by decide) (by unfold s_om; (repeat' split) <;> omega) rfl
          · refine x_bipush K dX7_mendBar_54 rfl ?_
            exact x_iret K hE rfl dX7_mendBar_56 (by decide) (by decide) (by unfold s_om; (repeat' split) <;> omega) rfl
      · refine x_iload_3 K dX7_mendBar_38 ?_
        refine x_if_ne (tgt := 44) K (by omega) dX7_mendBar_39 (by decide) (fun h39 => ?_) (fun h39 => ?_)
        · refine x_iload_2 K dX7_mendBar_44 ?_
          refine x_iconst K dX7_mendBar_45 ?_
          refine x_icmp_ne (tgt := 54) K (by omega) dX7_mendBar_46 (by decide) (fun h46 => ?_) (fun h46 => ?_)
          · refine x_bipush K dX7_mendBar_54 rfl ?_
            exact x_iret K hE rfl dX7_mendBar_56 (by decide) (by decide) (by unfold s_om; (repeat' split) <;> omega) rfl
          · refine x_iload_3 K dX7_mendBar_49 ?_
            refine x_iconst K dX7_mendBar_50 ?_
            refine x_icmp_eq (tgt := 57) K (by omega) dX7_mendBar_51 (by decide) (fun h51 => ?_) (fun h51 => ?_)
            · have f1 := s_fw_row (z := zb Y n) (by omega)
              have f2 := s_fw_col (z := zb Y n) (by omega)
              have g1 := s_f_bd hz (b := s_r1 (zb Y n)) (by omega)
              have g2 := s_f_bd hz (b := 6 + s_c1 (zb Y n)) (by omega)
              refine x_aload_0 K dX7_mendBar_57 ?_
              refine x_iload_1 K dX7_mendBar_58 ?_
              refine x_iconst K dX7_mendBar_59 ?_
              refine x_aload_0 K dX7_mendBar_60 ?_
              refine x_iload_1 K dX7_mendBar_61 ?_
              refine x_iconst K dX7_mendBar_62 ?_
              refine x_callV2 K (c7_wrongFirst_r Y h hY n hn (by omega)) mtX7_wrongFirst miX7_wrongFirst rc14 ⟨by decide, (by decide)⟩ lkRX7_172 ⟨by decide, by decide, by decide⟩ rfl (Nat.le_of_ble_eq_true rfl) dX7_mendBar_63 ?_
              refine x_callV3 K (c7_faultOf_r Y h hY n hn (s_r1 (zb Y n)) (by omega)) mtX7_faultOf miX7_faultOf rc14 ⟨by decide, (by decide)⟩ lkRX7_114 ⟨by decide, by decide, by decide⟩ rfl (Nat.le_of_ble_eq_true rfl) dX7_mendBar_66 ?_
              refine x_aload_0 K dX7_mendBar_69 ?_
              refine x_iload_1 K dX7_mendBar_70 ?_
              refine x_iconst K dX7_mendBar_71 ?_
              refine x_aload_0 K dX7_mendBar_72 ?_
              refine x_iload_1 K dX7_mendBar_73 ?_
              refine x_iconst K dX7_mendBar_74 ?_
              refine x_callV2 K (c7_wrongFirst_c Y h hY n hn (by omega)) mtX7_wrongFirst miX7_wrongFirst rc14 ⟨by decide, (by decide)⟩ lkRX7_172 ⟨by decide, by decide, by decide⟩ rfl (Nat.le_of_ble_eq_true rfl) dX7_mendBar_75 ?_
              refine x_callV3 K (c7_faultOf_c Y h hY n hn (s_c1 (zb Y n)) (by omega)) mtX7_faultOf miX7_faultOf rc14 ⟨by decide, (by decide)⟩ lkRX7_114 ⟨by decide, by decide, by decide⟩ rfl (Nat.le_of_ble_eq_true rfl) dX7_mendBar_78 ?_
              refine x_icmp_ne (tgt := 88) K (by omega) dX7_mendBar_81 (by decide) (fun h81 => ?_) (fun h81 => ?_)
              · refine x_bipush K dX7_mendBar_88 rfl ?_
                exact x_iret K hE rfl dX7_mendBar_90 (by decide) (by decide) (by unfold s_om; (repeat' split) <;> omega) rfl
              · refine x_iconst K dX7_mendBar_84 ?_
                refine x_goto (tgt := 90) K dX7_mendBar_85 (by decide) ?_
                exact x_iret K hE rfl dX7_mendBar_90 (by decide) (by decide) (by unfold s_om; (repeat' split) <;> omega) rfl
            · refine x_bipush K dX7_mendBar_54 rfl ?_
              exact x_iret K hE rfl dX7_mendBar_56 (by decide) (by decide) (by unfold s_om; (repeat' split) <;> omega) rfl
        · refine x_iconst K dX7_mendBar_42 ?_
          exact x_iret K hE rfl dX7_mendBar_43 (by decide) (by decide) (by unfold s_om; (repeat' split) <;> omega) rfl
    · refine x_iconst K dX7_mendBar_18 ?_
      exact x_iret K hE rfl dX7_mendBar_19 (by decide) (by decide) (by unfold s_om; (repeat' split) <;> omega) rfl
  · refine x_iconst K dX7_mendBar_8 ?_
    exact x_iret K hE rfl dX7_mendBar_9 (by decide) (by decide) (by unfold s_om; (repeat' split) <;> omega) rfl
theorem c7_mendDetail {E : gE} {σ : gS} (Y : Nat → Int) (h : gMs σ Y) (hY : gY Y) (n : Nat) (hn : (n : Int) < Y 0) (hne : s_om (zb Y n) (n : Int) ≠ 0) : gCt E mX7_mendDetail 9 0 [rf 14 0, iv (n : Int), iv (s_om (zb Y n) (n : Int) / 100)] σ (.inl (some (iv (s_om (zb Y n) (n : Int) % 100)))) σ := by
  refine gCt_of (L := [some (rf 14 0), some (iv (n : Int)), some (iv (s_om (zb Y n) (n : Int) / 100))]) (by decide +kernel) rfl rfl (Nat.le_of_ble_eq_true rfl) (fun X K hE => ?_)
  have hY0 := hY.1
  have hz := hY.2 n hn
  have ⟨q0, q1, q2, q3, q4, q5, q6, q7, q8⟩ := hz
  have b1 := s_sm_bd hz
  have b2 := s_wr_bd (zb Y n)
  have b3 := s_wc_bd (zb Y n)
  have b4 := gB1_bd (zb Y n 2 = 1)
  have b5 : gB1 (zb Y n 2 = 1) = zb Y n 2 := by unfold gB1; split <;> omega
  have hca := s_om_cases (zb Y n) (n : Int)
  have bom := s_om_bd hz (n := (n : Int)) (by omega)
  refine x_iload_2 K dX7_mendDetail_0 ?_
  rcases hca with hca | hca | ⟨hca0, hca⟩ | hca | hca | ⟨hca0, hca⟩
  · exact absurd hca hne
  · refine x_tblIn (tgt := 36) K 2 (by omega) (by omega) (by omega) rfl dX7_mendDetail_1 (by decide) ?_
    refine x_iload_1 K dX7_mendDetail_36 ?_
    exact x_iret K hE rfl dX7_mendDetail_37 (by decide) (by decide) (by omega) rfl
  · refine x_tblIn (tgt := 38) K 0 (by omega) (by omega) (by omega) rfl dX7_mendDetail_1 (by decide) ?_
    refine x_aload_0 K dX7_mendDetail_38 ?_
    refine x_iload_1 K dX7_mendDetail_39 ?_
    refine x_callV1 K (c7_smudged Y h hY n hn) mtX7_smudged miX7_smudged rc14 ⟨by decide, (by decide)⟩ lkRX7_134 ⟨by decide, by decide, by decide⟩ rfl (Nat.le_of_ble_eq_true rfl) dX7_mendDetail_40 ?_
    exact x_iret K hE rfl dX7_mendDetail_43 (by decide) (by decide) (by omega) rfl
  · refine x_tblIn (tgt := 44) K 3 (by omega) (by omega) (by omega) rfl dX7_mendDetail_1 (by decide) ?_
    refine x_iconst K dX7_mendDetail_44 ?_
    exact x_iret K hE rfl dX7_mendDetail_45 (by decide) (by decide) (by omega) rfl
  · refine x_tblIn (tgt := 46) K 4 (by omega) (by omega) (by omega) rfl dX7_mendDetail_1 (by decide) ?_
    refine x_bipush K dX7_mendDetail_46 rfl ?_
    refine x_aload_0 K dX7_mendDetail_48 ?_
    refine x_iload_1 K dX7_mendDetail_49 ?_
    refine x_iconst K dX7_mendDetail_50 ?_
    refine x_callV2 K (c7_wrongMany_r Y h hY n hn) mtX7_wrongMany miX7_wrongMany rc14 ⟨by decide, (by decide)⟩ lkRX7_160 ⟨by decide, by decide, by decide⟩ rfl (Nat.le_of_ble_eq_true rfl) dX7_mendDetail_51 ?_
    refine x_imul K dX7_mendDetail_54 ?_
    refine x_aload_0 K dX7_mendDetail_55 ?_
    refine x_iload_1 K dX7_mendDetail_56 ?_
    refine x_iconst K dX7_mendDetail_57 ?_
    refine x_callV2 K (c7_wrongMany_c Y h hY n hn) mtX7_wrongMany miX7_wrongMany rc14 ⟨by decide, (by decide)⟩ lkRX7_160 ⟨by decide, by decide, by decide⟩ rfl (Nat.le_of_ble_eq_true rfl) dX7_mendDetail_58 ?_
    refine x_iadd K dX7_mendDetail_61 ?_
    exact x_iret K hE rfl dX7_mendDetail_62 (by decide) (by decide) (by omega) rfl
  · have f1 := s_fw_row (z := zb Y n) (by omega)
    have f2 := s_fw_col (z := zb Y n) (by omega)
    have g1 := s_f_bd hz (b := s_r1 (zb Y n)) (by omega)
    have g2 := s_f_bd hz (b := 6 + s_c1 (zb Y n)) (by omega)
    refine x_tblOut (tgt := 63) K (by omega) (by omega) dX7_mendDetail_1 (by decide) ?_
    refine x_bipush K dX7_mendDetail_63 rfl ?_
    refine x_aload_0 K dX7_mendDetail_65 ?_
    refine x_iload_1 K dX7_mendDetail_66 ?_
    refine x_iconst K dX7_mendDetail_67 ?_
    refine x_aload_0 K dX7_mendDetail_68 ?_
    refine x_iload_1 K dX7_mendDetail_69 ?_
    refine x_iconst K dX7_mendDetail_70 ?_
    refine x_callV2 K (c7_wrongFirst_r Y h hY n hn (by omega)) mtX7_wrongFirst miX7_wrongFirst rc14 ⟨by decide, (by decide)⟩ lkRX7_172 ⟨by decide, by decide, by decide⟩ rfl (Nat.le_of_ble_eq_true rfl) dX7_mendDetail_71 ?_
    refine x_callV3 K (c7_faultOf_r Y h hY n hn (s_r1 (zb Y n)) (by omega)) mtX7_faultOf miX7_faultOf rc14 ⟨by decide, (by decide)⟩ lkRX7_114 ⟨by decide, by decide, by decide⟩ rfl (Nat.le_of_ble_eq_true rfl) dX7_mendDetail_74 ?_
    refine x_imul K dX7_mendDetail_77 ?_
    refine x_aload_0 K dX7_mendDetail_78 ?_
    refine x_iload_1 K dX7_mendDetail_79 ?_
    refine x_iconst K dX7_mendDetail_80 ?_
    refine x_aload_0 K dX7_mendDetail_81 ?_
    refine x_iload_1 K dX7_mendDetail_82 ?_
    refine x_iconst K dX7_mendDetail_83 ?_
    refine x_callV2 K (c7_wrongFirst_c Y h hY n hn (by omega)) mtX7_wrongFirst miX7_wrongFirst rc14 ⟨by decide, (by decide)⟩ lkRX7_172 ⟨by decide, by decide, by decide⟩ rfl (Nat.le_of_ble_eq_true rfl) dX7_mendDetail_84 ?_
    refine x_callV3 K (c7_faultOf_c Y h hY n hn (s_c1 (zb Y n)) (by omega)) mtX7_faultOf miX7_faultOf rc14 ⟨by decide, (by decide)⟩ lkRX7_114 ⟨by decide, by decide, by decide⟩ rfl (Nat.le_of_ble_eq_true rfl) dX7_mendDetail_87 ?_
    refine x_iadd K dX7_mendDetail_90 ?_
    exact x_iret K hE rfl dX7_mendDetail_91 (by decide) (by decide) (by omega) rfl
theorem c7_oneIn_r {E : gE} {σ : gS} (Y : Nat → Int) (h : gMs σ Y) (hY : gY Y) (n : Nat) (hn : (n : Int) < Y 0) : gCt E mX7_oneIn 6 0 [rf 14 0, iv (n : Int), iv 1] σ (.inl (some (iv (s_o1 (zb Y n))))) σ := by
  refine gCt_of (L := [some (rf 14 0), some (iv (n : Int)), some (iv 1), none]) (by decide +kernel) rfl rfl (Nat.le_of_ble_eq_true rfl) (fun X K hE => ?_)
  have hY0 := hY.1
  have hz := hY.2 n hn
  have ⟨q0, q1, q2, q3, q4, q5, q6, q7, q8⟩ := hz
  have hall : s_o1 (zb Y n) = gFst (fun k => decide (s_m (zb Y n) k = 1)) 0 (zb Y n 0).toNat := by
    have e := gFst_add (p := fun k => decide (s_m (zb Y n) k = 1)) (zb Y n 0).toNat (6 - (zb Y n 0).toNat) 0
    rw [show (zb Y n 0).toNat + (6 - (zb Y n 0).toNat) = 6 by omega] at e
    have e0 : gFst (fun k => decide (s_m (zb Y n) k = 1)) (0 + (zb Y n 0).toNat) (6 - (zb Y n 0).toNat) = -1 := Classical.byContradiction (fun q => by
      obtain ⟨x, _, px, hx1, hx2, _⟩ := gFst_yes q
      have hx3 := of_decide_eq_true px
      rw [s_m_off hz (by omega) (Or.inl ⟨by omega, by omega⟩)] at hx3
      omega)
    rw [e0] at e
    show gFst (fun k => decide (s_m (zb Y n) k = 1)) 0 6 = _
    rw [e]
    split <;> simp_all
  refine x_iconst K dX7_oneIn_0 ?_
  refine x_istore_3 K dX7_oneIn_1 rfl ?_
  refine gLp (P := fun k : Nat => (s_o1 (zb Y n) = gFst (fun k => decide (s_m (zb Y n) k = 1)) k ((zb Y n 0).toNat - k)) → gWX X E 0 0 2 [some (rf 14 0), some (iv (n : Int)), some (iv 1), some (iv (k : Int))] [] (σ)) ((zb Y n 0).toNat) (fun k0 => ?_) (fun k hk ih => ?_) ?_
  · exact gWX.to rfl rfl (k0 hall)
  · intro hy
    rw [show (zb Y n 0).toNat - k = ((zb Y n 0).toNat - (k + 1)) + 1 by omega] at hy
    unfold gFst at hy
    refine x_iload_3 K dX7_oneIn_2 ?_
    refine x_aload_0 K dX7_oneIn_3 ?_
    refine x_iload_1 K dX7_oneIn_4 ?_
    refine x_iload_2 K dX7_oneIn_5 ?_
    refine x_if_ne (tgt := 13) K (by omega) dX7_oneIn_6 (by decide) (fun h6 => ?_) (fun h6 => absurd h6 (by omega))
    refine x_iconst K dX7_oneIn_13 ?_
    refine x_callV2 K (c7_length_c Y h n (by omega)) mtX7_length miX7_length rc14 ⟨by decide, (by decide)⟩ lkRX7_92 ⟨by decide, by decide, by decide⟩ rfl (Nat.le_of_ble_eq_true rfl) dX7_oneIn_14 ?_
    refine x_icmp_ge (tgt := 39) K (by omega) dX7_oneIn_17 (by decide) (fun h17 => absurd h17 (by omega)) (fun h17 => ?_)
    refine x_aload_0 K dX7_oneIn_20 ?_
    refine x_iload_1 K dX7_oneIn_21 ?_
    refine x_iload_2 K dX7_oneIn_22 ?_
    refine x_iload_3 K dX7_oneIn_23 ?_
    refine x_callV3 K (c7_smudgedIn_r Y h hY n hn k (by omega)) mtX7_smudgedIn miX7_smudgedIn rc14 ⟨by decide, (by decide)⟩ lkRX7_84 ⟨by decide, by decide, by decide⟩ rfl (Nat.le_of_ble_eq_true rfl) dX7_oneIn_24 ?_
    have bm := s_m_bd (zb Y n) k
    refine x_iconst K dX7_oneIn_27 ?_
    refine x_icmp_ne (tgt := 33) K (by omega) dX7_oneIn_28 (by decide) (fun h28 => ?_) (fun h28 => ?_)
    · have hw : ¬ decide (s_m (zb Y n) k = 1) = true := fun q => h28 (of_decide_eq_true q)
      rw [if_neg hw] at hy
      have hy2 : s_o1 (zb Y n) = gFst (fun k => decide (s_m (zb Y n) k = 1)) (k + 1) ((zb Y n 0).toNat - (k + 1)) := hy
      refine x_iinc_3 K dX7_oneIn_33 rfl ?_
      refine x_goto (tgt := 2) K dX7_oneIn_36 (by decide) ?_
      exact gWX.to rfl rfl (ih hy2)
    · have hw : decide (s_m (zb Y n) k = 1) = true := decide_eq_true h28
      rw [if_pos hw] at hy
      refine x_iload_3 K dX7_oneIn_31 ?_
      exact x_iret K hE rfl dX7_oneIn_32 (by decide) (by decide) hy.symm rfl
  · intro hy
    rw [Nat.sub_self] at hy
    refine x_iload_3 K dX7_oneIn_2 ?_
    refine x_aload_0 K dX7_oneIn_3 ?_
    refine x_iload_1 K dX7_oneIn_4 ?_
    refine x_iload_2 K dX7_oneIn_5 ?_
    refine x_if_ne (tgt := 13) K (by omega) dX7_oneIn_6 (by decide) (fun h6 => ?_) (fun h6 => absurd h6 (by omega))
    refine x_iconst K dX7_oneIn_13 ?_
    refine x_callV2 K (c7_length_c Y h n (by omega)) mtX7_length miX7_length rc14 ⟨by decide, (by decide)⟩ lkRX7_92 ⟨by decide, by decide, by decide⟩ rfl (Nat.le_of_ble_eq_true rfl) dX7_oneIn_14 ?_
    refine x_icmp_ge (tgt := 39) K (by omega) dX7_oneIn_17 (by decide) (fun h17 => ?_) (fun h17 => absurd h17 (by omega))
    refine x_iconst K dX7_oneIn_39 ?_
    exact x_iret K hE rfl dX7_oneIn_40 (by decide) (by decide) hy.symm rfl
theorem c7_oneIn_c {E : gE} {σ : gS} (Y : Nat → Int) (h : gMs σ Y) (hY : gY Y) (n : Nat) (hn : (n : Int) < Y 0) : gCt E mX7_oneIn 6 0 [rf 14 0, iv (n : Int), iv 0] σ (.inl (some (iv (s_o2 (zb Y n))))) σ := by
  refine gCt_of (L := [some (rf 14 0), some (iv (n : Int)), some (iv 0), none]) (by decide +kernel) rfl rfl (Nat.le_of_ble_eq_true rfl) (fun X K hE => ?_)
  have hY0 := hY.1
  have hz := hY.2 n hn
  have ⟨q0, q1, q2, q3, q4, q5, q6, q7, q8⟩ := hz
  have hall : s_o2 (zb Y n) = gFst (fun k => decide (s_m (zb Y n) (6 + k) = 1)) 0 (zb Y n 1).toNat := by
    have e := gFst_add (p := fun k => decide (s_m (zb Y n) (6 + k) = 1)) (zb Y n 1).toNat (8 - (zb Y n 1).toNat) 0
    rw [show (zb Y n 1).toNat + (8 - (zb Y n 1).toNat) = 8 by omega] at e
    have e0 : gFst (fun k => decide (s_m (zb Y n) (6 + k) = 1)) (0 + (zb Y n 1).toNat) (8 - (zb Y n 1).toNat) = -1 := Classical.byContradiction (fun q => by
      obtain ⟨x, _, px, hx1, hx2, _⟩ := gFst_yes q
      have hx3 := of_decide_eq_true px
      rw [s_m_off hz (by omega) (Or.inr ⟨by omega, by omega⟩)] at hx3
      omega)
    rw [e0] at e
    show gFst (fun k => decide (s_m (zb Y n) (6 + k) = 1)) 0 8 = _
    rw [e]
    split <;> simp_all
  refine x_iconst K dX7_oneIn_0 ?_
  refine x_istore_3 K dX7_oneIn_1 rfl ?_
  refine gLp (P := fun k : Nat => (s_o2 (zb Y n) = gFst (fun k => decide (s_m (zb Y n) (6 + k) = 1)) k ((zb Y n 1).toNat - k)) → gWX X E 0 0 2 [some (rf 14 0), some (iv (n : Int)), some (iv 0), some (iv (k : Int))] [] (σ)) ((zb Y n 1).toNat) (fun k0 => ?_) (fun k hk ih => ?_) ?_
  · exact gWX.to rfl rfl (k0 hall)
  · intro hy
    rw [show (zb Y n 1).toNat - k = ((zb Y n 1).toNat - (k + 1)) + 1 by omega] at hy
    unfold gFst at hy
    refine x_iload_3 K dX7_oneIn_2 ?_
    refine x_aload_0 K dX7_oneIn_3 ?_
    refine x_iload_1 K dX7_oneIn_4 ?_
    refine x_iload_2 K dX7_oneIn_5 ?_
    refine x_if_ne (tgt := 13) K (by omega) dX7_oneIn_6 (by decide) (fun h6 => absurd rfl h6) (fun h6 => ?_)
    refine x_iconst K dX7_oneIn_9 ?_
    refine x_goto (tgt := 14) K dX7_oneIn_10 (by decide) ?_
    refine x_callV2 K (c7_length_r Y h n (by omega)) mtX7_length miX7_length rc14 ⟨by decide, (by decide)⟩ lkRX7_92 ⟨by decide, by decide, by decide⟩ rfl (Nat.le_of_ble_eq_true rfl) dX7_oneIn_14 ?_
    refine x_icmp_ge (tgt := 39) K (by omega) dX7_oneIn_17 (by decide) (fun h17 => absurd h17 (by omega)) (fun h17 => ?_)
    refine x_aload_0 K dX7_oneIn_20 ?_
    refine x_iload_1 K dX7_oneIn_21 ?_
    refine x_iload_2 K dX7_oneIn_22 ?_
    refine x_iload_3 K dX7_oneIn_23 ?_
    refine x_callV3 K (c7_smudgedIn_c Y h hY n hn k (by omega)) mtX7_smudgedIn miX7_smudgedIn rc14 ⟨by decide, (by decide)⟩ lkRX7_84 ⟨by decide, by decide, by decide⟩ rfl (Nat.le_of_ble_eq_true rfl) dX7_oneIn_24 ?_
    have bm := s_m_bd (zb Y n) (6 + k)
    refine x_iconst K dX7_oneIn_27 ?_
    refine x_icmp_ne (tgt := 33) K (by omega) dX7_oneIn_28 (by decide) (fun h28 => ?_) (fun h28 => ?_)
    · have hw : ¬ decide (s_m (zb Y n) (6 + k) = 1) = true := fun q => h28 (of_decide_eq_true q)
      rw [if_neg hw] at hy
      have hy2 : s_o2 (zb Y n) = gFst (fun k => decide (s_m (zb Y n) (6 + k) = 1)) (k + 1) ((zb Y n 1).toNat - (k + 1)) := hy
      refine x_iinc_3 K dX7_oneIn_33 rfl ?_
      refine x_goto (tgt := 2) K dX7_oneIn_36 (by decide) ?_
      exact gWX.to rfl rfl (ih hy2)
    · have hw : decide (s_m (zb Y n) (6 + k) = 1) = true := decide_eq_true h28
      rw [if_pos hw] at hy
      refine x_iload_3 K dX7_oneIn_31 ?_
      exact x_iret K hE rfl dX7_oneIn_32 (by decide) (by decide) hy.symm rfl
  · intro hy
    rw [Nat.sub_self] at hy
    refine x_iload_3 K dX7_oneIn_2 ?_
    refine x_aload_0 K dX7_oneIn_3 ?_
    refine x_iload_1 K dX7_oneIn_4 ?_
    refine x_iload_2 K dX7_oneIn_5 ?_
    refine x_if_ne (tgt := 13) K (by omega) dX7_oneIn_6 (by decide) (fun h6 => absurd rfl h6) (fun h6 => ?_)
    refine x_iconst K dX7_oneIn_9 ?_
    refine x_goto (tgt := 14) K dX7_oneIn_10 (by decide) ?_
    refine x_callV2 K (c7_length_r Y h n (by omega)) mtX7_length miX7_length rc14 ⟨by decide, (by decide)⟩ lkRX7_92 ⟨by decide, by decide, by decide⟩ rfl (Nat.le_of_ble_eq_true rfl) dX7_oneIn_14 ?_
    refine x_icmp_ge (tgt := 39) K (by omega) dX7_oneIn_17 (by decide) (fun h17 => ?_) (fun h17 => absurd h17 (by omega))
    refine x_iconst K dX7_oneIn_39 ?_
    exact x_iret K hE rfl dX7_oneIn_40 (by decide) (by decide) hy.symm rfl
