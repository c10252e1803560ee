/-! ===== ScrollChecksModel: orders read and done ===== -/
theorem t_at_nat {T : Nat → Int} {l s : Nat} (h : s < l) : t_at T l (s : Int) = T s := if_pos ⟨by omega, by omega⟩
theorem gD1_v : gD1 1 = 119 ∧ gD1 2 = 101 ∧ gD1 3 = 120 ∧ gD1 4 = 115 ∧ gD1 5 = 99 ∧ gD1 6 = 109 ∧ gD1 7 = 102 := by decide
theorem gD1_r : ∀ d, d < 8 → 1 ≤ d → 33 ≤ gD1 d ∧ gD1 d < 128 := by decide
theorem m_ix_no {c : Int} (hc : 0 ≤ c ∧ c < 65536) (h : ∀ d, d < 8 → 1 ≤ d → c ≠ gD1 d) : gIxr (fun j => gLb.getD j 0) 7 c = -1 := Classical.byContradiction (fun q => by
  obtain ⟨d, h1, h2, h3⟩ := (m_ix c hc).mp q
  exact h d h1 h2 h3)
theorem m_ix_bd (c : Int) : -1 ≤ gIxr (fun j => gLb.getD j 0) 7 c ∧ gIxr (fun j => gLb.getD j 0) 7 c < 7 := by
  have := gIx_bd (fun j => gLb.getD j 0) 7 c
  unfold gIxr
  split <;> omega
theorem gLb_b : ∀ j, j < 7 → 0 ≤ gLb.getD j 0 ∧ gLb.getD j 0 < 128 := by decide
theorem c7_readOrder_0 {E : gE} {σ : gS} (T : Nat → Int) (l : Nat) (hI : gI7 σ T l) (s : Nat) (m : Nat) (O : Nat → Int) (hs : s ≤ l) (hd : t_dd T l (s : Int) = 0) : gCt E mX7_readOrder 6 0 [rf 14 0] (gPz σ (s : Int) 0 (m : Int) O) (.inl none) (gPz σ (s : Int) 1 (m : Int) O) := by
  refine gCt_of (L := [some (rf 14 0), none, none, none]) (by decide +kernel) rfl rfl (Nat.le_of_ble_eq_true rfl) (fun X K hE => ?_)
  have hI2 := hI.2.1
  have hN := K.2.2.2.2.1
  have hno := (t_dd_spec T l (s : Int)).2.2 hd
  refine x_aload_0 K dX7_readOrder_0 ?_
  refine x_getI K gfRX7_211 ⟨by decide, (by decide)⟩ dX7_readOrder_1 ?_
  refine gWX.top (b := 0) rfl ?_
  refine x_if_ne (tgt := 18) K (by omega) dX7_readOrder_4 (by decide) (fun h4 => absurd rfl h4) (fun h4 => ?_)
  refine x_aload_0 K dX7_readOrder_7 ?_
  refine x_getI K gfRX7_214 ⟨by decide, (by decide)⟩ dX7_readOrder_8 ?_
  refine gWX.top (b := (s : Int)) rfl ?_
  refine x_aload_0 K dX7_readOrder_11 ?_
  refine x_getI K gfRX7_209 ⟨by decide, (by decide)⟩ dX7_readOrder_12 ?_
  refine gWX.top (b := (l : Int)) hI.1 ?_
  refine x_icmp_ne (tgt := 23) K (by omega) dX7_readOrder_15 (by decide) (fun h15 => ?_) (fun h15 => ?_)
  · have hsl : s < l := by omega
    have hT := hI.2.2 s (by omega)
    refine x_aload_0 K dX7_readOrder_23 ?_
    refine x_getC K gfRX7_29 ⟨by decide, (by decide)⟩ dX7_readOrder_24 ?_
    refine x_aload_0 K dX7_readOrder_27 ?_
    refine x_getI K gfRX7_214 ⟨by decide, (by decide)⟩ dX7_readOrder_28 ?_
    refine gWX.top (b := (s : Int)) rfl ?_
    refine x_cald K s rfl rfl ⟨by decide, by decide⟩ (by omega) dX7_readOrder_31 ?_
    refine gWX.top (b := T s) hT.1 ?_
    refine x_istore_1 K dX7_readOrder_32 rfl ?_
    refine x_aload_0 K dX7_readOrder_33 ?_
    refine x_ldcS K (own := "ScrollChecksModel") (tx := "wexscmf") rfl (g_mem 1731 (by decide +kernel)) gLt_w.1 dX7_readOrder_34 ?_
    refine x_iload_1 K dX7_readOrder_36 ?_
    refine x_callK1 K (cJ0_indexOf (gTa E gLt) 7 (fun j => gLb.getD j 0) (gL_str hN).2 ⟨by omega, by omega⟩ gLb_b (T s) hT.2) mtJ0_indexOf_0f7a4 miJ0_indexOf_0f7a4 (gStr_O (gL_str hN).2) lkRX7_231 ⟨by decide, by decide, by decide⟩ rfl (Nat.le_of_ble_eq_true rfl) dX7_readOrder_37 ?_
    have bix := m_ix_bd (T s)
    have hix := m_ix_no hT.2 (fun d h1 h2 e => hno d h1 h2 ⟨by omega, (t_at_nat hsl).trans e⟩)
    refine x_if_ge (tgt := 47) K (by omega) dX7_readOrder_40 (by decide) (fun h40 => absurd h40 (by omega)) (fun h40 => ?_)
    refine x_iconst K dX7_readOrder_43 ?_
    refine x_goto (tgt := 48) K dX7_readOrder_44 (by decide) ?_
    refine x_putZ K gpRX7_211 ⟨by decide, (by decide)⟩ (by omega) dX7_readOrder_48 ?_
    refine gWX.eq (σ' := gPz σ (s : Int) 1 (m : Int) O) (gPz_b _ _ _ _ _ _) ?_
    refine x_aload_0 K dX7_readOrder_51 ?_
    refine x_getI K gfRX7_211 ⟨by decide, (by decide)⟩ dX7_readOrder_52 ?_
    refine gWX.top (b := 1) rfl ?_
    refine x_if_eq (tgt := 59) K (by omega) dX7_readOrder_55 (by decide) (fun h55 => absurd h55 (by omega)) (fun h55 => ?_)
    exact x_vret K hE rfl dX7_readOrder_58 (by decide) (by decide) rfl
  · refine x_bipush K dX7_readOrder_18 rfl ?_
    refine x_goto (tgt := 32) K dX7_readOrder_20 (by decide) ?_
    refine x_istore_1 K dX7_readOrder_32 rfl ?_
    refine x_aload_0 K dX7_readOrder_33 ?_
    refine x_ldcS K (own := "ScrollChecksModel") (tx := "wexscmf") rfl (g_mem 1731 (by decide +kernel)) gLt_w.1 dX7_readOrder_34 ?_
    refine x_iload_1 K dX7_readOrder_36 ?_
    refine x_callK1 K (cJ0_indexOf (gTa E gLt) 7 (fun j => gLb.getD j 0) (gL_str hN).2 ⟨by omega, by omega⟩ gLb_b (32) (by omega)) mtJ0_indexOf_0f7a4 miJ0_indexOf_0f7a4 (gStr_O (gL_str hN).2) lkRX7_231 ⟨by decide, by decide, by decide⟩ rfl (Nat.le_of_ble_eq_true rfl) dX7_readOrder_37 ?_
    have bix := m_ix_bd (32)
    have hix := m_ix_no (c := 32) (by omega) (fun d h1 h2 e => by have := gD1_r d h1 h2; omega)
    refine x_if_ge (tgt := 47) K (by omega) dX7_readOrder_40 (by decide) (fun h40 => absurd h40 (by omega)) (fun h40 => ?_)
    refine x_iconst K dX7_readOrder_43 ?_
    refine x_goto (tgt := 48) K dX7_readOrder_44 (by decide) ?_
    refine x_putZ K gpRX7_211 ⟨by decide, (by decide)⟩ (by omega) dX7_readOrder_48 ?_
    refine gWX.eq (σ' := gPz σ (s : Int) 1 (m : Int) O) (gPz_b _ _ _ _ _ _) ?_
    refine x_aload_0 K dX7_readOrder_51 ?_
    refine x_getI K gfRX7_211 ⟨by decide, (by decide)⟩ dX7_readOrder_52 ?_
    refine gWX.top (b := 1) rfl ?_
    refine x_if_eq (tgt := 59) K (by omega) dX7_readOrder_55 (by decide) (fun h55 => absurd h55 (by omega)) (fun h55 => ?_)
    exact x_vret K hE rfl dX7_readOrder_58 (by decide) (by decide) rfl
theorem c7_readOrder_1 {E : gE} {σ : gS} (T : Nat → Int) (l : Nat) (hI : gI7 σ T l) (s : Nat) (m : Nat) (O : Nat → Int) (hs : s < l) (hm : m < 50) (hc : T s = 119) : gCt E mX7_readOrder 6 0 [rf 14 0] (gPz σ (s : Int) 0 (m : Int) O) (.inl none) (gPz σ ((m_fin T l s 1).1 : Int) (m_fin T l s 1).2 ((m : Int) + 1) (m_O T l s 1 m O)) := by
  refine gCt_of (L := [some (rf 14 0), none, none, none]) (by decide +kernel) rfl rfl (Nat.le_of_ble_eq_true rfl) (fun X K hE => ?_)
  have hI2 := hI.2.1
  have hN := K.2.2.2.2.1
  have hT := hI.2.2 s (by omega)
  have hq0 : m_q l (s + 1, 0) := ⟨by show s + 1 ≤ l; omega, Or.inl rfl⟩
  refine x_aload_0 K dX7_readOrder_0 ?_
  refine x_getI K gfRX7_211 ⟨by decide, (by decide)⟩ dX7_readOrder_1 ?_
  refine gWX.top (b := 0) rfl ?_
  refine x_if_ne (tgt := 18) K (by omega) dX7_readOrder_4 (by decide) (fun h4 => absurd rfl h4) (fun h4 => ?_)
  refine x_aload_0 K dX7_readOrder_7 ?_
  refine x_getI K gfRX7_214 ⟨by decide, (by decide)⟩ dX7_readOrder_8 ?_
  refine gWX.top (b := (s : Int)) rfl ?_
  refine x_aload_0 K dX7_readOrder_11 ?_
  refine x_getI K gfRX7_209 ⟨by decide, (by decide)⟩ dX7_readOrder_12 ?_
  refine gWX.top (b := (l : Int)) hI.1 ?_
  refine x_icmp_ne (tgt := 23) K (by omega) dX7_readOrder_15 (by decide) (fun h15 => ?_) (fun h15 => absurd h15 (by omega))
  refine x_aload_0 K dX7_readOrder_23 ?_
  refine x_getC K gfRX7_29 ⟨by decide, (by decide)⟩ dX7_readOrder_24 ?_
  refine x_aload_0 K dX7_readOrder_27 ?_
  refine x_getI K gfRX7_214 ⟨by decide, (by decide)⟩ dX7_readOrder_28 ?_
  refine gWX.top (b := (s : Int)) rfl ?_
  refine x_cald K s rfl rfl ⟨by decide, by decide⟩ (by omega) dX7_readOrder_31 ?_
  refine gWX.top (b := 119) (hT.1.trans hc) ?_
  refine x_istore_1 K dX7_readOrder_32 rfl ?_
  refine x_aload_0 K dX7_readOrder_33 ?_
  refine x_ldcS K (own := "ScrollChecksModel") (tx := "wexscmf") rfl (g_mem 1731 (by decide +kernel)) gLt_w.1 dX7_readOrder_34 ?_
  refine x_iload_1 K dX7_readOrder_36 ?_
  refine x_callK1 K (cJ0_indexOf (gTa E gLt) 7 (fun j => gLb.getD j 0) (gL_str hN).2 ⟨by omega, by omega⟩ gLb_b (119) (by omega)) mtJ0_indexOf_0f7a4 miJ0_indexOf_0f7a4 (gStr_O (gL_str hN).2) lkRX7_231 ⟨by decide, by decide, by decide⟩ rfl (Nat.le_of_ble_eq_true rfl) dX7_readOrder_37 ?_
  have bix := m_ix_bd (119)
  have hix := (m_ix 119 (by omega)).mpr ⟨1, by omega, by omega, by decide⟩
  refine x_if_ge (tgt := 47) K (by omega) dX7_readOrder_40 (by decide) (fun h40 => ?_) (fun h40 => absurd h40 (by omega))
  refine x_iconst K dX7_readOrder_47 ?_
  refine x_putZ K gpRX7_211 ⟨by decide, (by decide)⟩ (by omega) dX7_readOrder_48 ?_
  refine gWX.eq (σ' := gPz σ (s : Int) 0 (m : Int) O) (gPz_b _ _ _ _ _ _) ?_
  refine x_aload_0 K dX7_readOrder_51 ?_
  refine x_getI K gfRX7_211 ⟨by decide, (by decide)⟩ dX7_readOrder_52 ?_
  refine gWX.top (b := 0) rfl ?_
  refine x_if_eq (tgt := 59) K (by omega) dX7_readOrder_55 (by decide) (fun h55 => ?_) (fun h55 => absurd rfl h55)
  refine x_aload_0 K dX7_readOrder_59 ?_
  refine x_dup K dX7_readOrder_60 rfl ?_
  refine x_getI K gfRX7_214 ⟨by decide, (by decide)⟩ dX7_readOrder_61 ?_
  refine x_iconst K dX7_readOrder_64 ?_
  refine x_iadd K dX7_readOrder_65 ?_
  refine x_putI K gpRX7_214 ⟨by decide, (by decide)⟩ dX7_readOrder_66 ?_
  refine gWX.eq (σ' := gPz σ ((s : Int) + 1) 0 (m : Int) O) (gPz_p _ _ _ _ _ _) ?_
  refine x_iconst K dX7_readOrder_69 ?_
  refine x_aload_0 K dX7_readOrder_70 ?_
  refine x_getI K gfRX7_236 ⟨by decide, (by decide)⟩ dX7_readOrder_71 ?_
  refine gWX.top (b := (m : Int)) rfl ?_
  refine x_imul K dX7_readOrder_74 ?_
  refine x_istore_2 K dX7_readOrder_75 rfl ?_
  refine x_iload_1 K dX7_readOrder_76 ?_
  refine x_bipush K dX7_readOrder_77 rfl ?_
  refine x_icmp_eq (tgt := 94) K (by omega) dX7_readOrder_79 (by decide) (fun h79 => ?_) (fun h79 => absurd h79 (by omega))
  refine x_iconst K dX7_readOrder_94 ?_
  refine x_goto (tgt := 99) K dX7_readOrder_95 (by decide) ?_
  refine x_istore_3 K dX7_readOrder_99 rfl ?_
  refine x_aload_0 K dX7_readOrder_100 ?_
  refine x_getC K gfRX7_36 ⟨by decide, (by decide)⟩ dX7_readOrder_101 ?_
  refine x_iload_2 K dX7_readOrder_104 ?_
  refine x_iload_1 K dX7_readOrder_105 ?_
  refine x_iast K (5 * m) (by omega) rfl ⟨by decide, by decide⟩ (by omega) dX7_readOrder_106 ?_
  refine gWX.eq (gPz_o _ _ _ _ _ _ (by omega)) ?_
  refine x_aload_0 K dX7_readOrder_107 ?_
  refine x_getC K gfRX7_36 ⟨by decide, (by decide)⟩ dX7_readOrder_108 ?_
  refine x_iload_2 K dX7_readOrder_111 ?_
  refine x_iconst K dX7_readOrder_112 ?_
  refine x_iadd K dX7_readOrder_113 ?_
  refine x_aload_0 K dX7_readOrder_114 ?_
  refine x_callV0 K (c7_digit T l hI (s + 1, 0) hq0 (m : Int) _) mtX7_digit miX7_digit rc14 ⟨by decide, (by decide)⟩ lkRX7_225 ⟨by decide, by decide, by decide⟩ rfl (Nat.le_of_ble_eq_true rfl) dX7_readOrder_115 ?_
  refine x_iast K (5 * m + 1) (by omega) rfl ⟨by decide, by decide⟩ (by omega) dX7_readOrder_118 ?_
  refine gWX.eq (gPz_o _ _ _ _ _ _ (by omega)) ?_
  refine x_aload_0 K dX7_readOrder_119 ?_
  refine x_getC K gfRX7_36 ⟨by decide, (by decide)⟩ dX7_readOrder_120 ?_
  refine x_iload_2 K dX7_readOrder_123 ?_
  refine x_iconst K dX7_readOrder_124 ?_
  refine x_iadd K dX7_readOrder_125 ?_
  refine x_iload_3 K dX7_readOrder_126 ?_
  refine x_if_eq (tgt := 139) K (by omega) dX7_readOrder_127 (by decide) (fun h127 => absurd h127 (by omega)) (fun h127 => ?_)
  refine x_aload_0 K dX7_readOrder_130 ?_
  refine x_bipush K dX7_readOrder_131 rfl ?_
  refine x_callV1 K (c7_digitBehind T l hI _ (m_sg_q hq0) (m : Int) _ 58 (by omega)) mtX7_digitBehind miX7_digitBehind rc14 ⟨by decide, (by decide)⟩ lkRX7_239 ⟨by decide, by decide, by decide⟩ rfl (Nat.le_of_ble_eq_true rfl) dX7_readOrder_133 ?_
  refine x_goto (tgt := 140) K dX7_readOrder_136 (by decide) ?_
  refine x_iast K (5 * m + 2) (by omega) rfl ⟨by decide, by decide⟩ (by omega) dX7_readOrder_140 ?_
  refine gWX.eq (gPz_o _ _ _ _ _ _ (by omega)) ?_
  refine x_aload_0 K dX7_readOrder_141 ?_
  refine x_getC K gfRX7_36 ⟨by decide, (by decide)⟩ dX7_readOrder_142 ?_
  refine x_iload_2 K dX7_readOrder_145 ?_
  refine x_iconst K dX7_readOrder_146 ?_
  refine x_iadd K dX7_readOrder_147 ?_
  refine x_iload_3 K dX7_readOrder_148 ?_
  refine x_if_eq (tgt := 161) K (by omega) dX7_readOrder_149 (by decide) (fun h149 => absurd h149 (by omega)) (fun h149 => ?_)
  refine x_aload_0 K dX7_readOrder_152 ?_
  refine x_bipush K dX7_readOrder_153 rfl ?_
  refine x_callV1 K (c7_digitBehind T l hI _ (m_sg_q (m_sg_q (m_sg_q hq0))) (m : Int) _ 44 (by omega)) mtX7_digitBehind miX7_digitBehind rc14 ⟨by decide, (by decide)⟩ lkRX7_239 ⟨by decide, by decide, by decide⟩ rfl (Nat.le_of_ble_eq_true rfl) dX7_readOrder_155 ?_
  refine x_goto (tgt := 162) K dX7_readOrder_158 (by decide) ?_
  refine x_iast K (5 * m + 3) (by omega) rfl ⟨by decide, by decide⟩ (by omega) dX7_readOrder_162 ?_
  refine gWX.eq (gPz_o _ _ _ _ _ _ (by omega)) ?_
  refine x_aload_0 K dX7_readOrder_163 ?_
  refine x_getC K gfRX7_36 ⟨by decide, (by decide)⟩ dX7_readOrder_164 ?_
  refine x_iload_2 K dX7_readOrder_167 ?_
  refine x_iconst K dX7_readOrder_168 ?_
  refine x_iadd K dX7_readOrder_169 ?_
  refine x_iload_1 K dX7_readOrder_170 ?_
  refine x_bipush K dX7_readOrder_171 rfl ?_
  refine x_icmp_ne (tgt := 185) K (by omega) dX7_readOrder_173 (by decide) (fun h173 => absurd h173 (by omega)) (fun h173 => ?_)
  refine x_aload_0 K dX7_readOrder_176 ?_
  refine x_bipush K dX7_readOrder_177 rfl ?_
  refine x_callV1 K (c7_digitBehind T l hI _ (m_sg_q (m_sg_q (m_sg_q (m_sg_q (m_sg_q hq0))))) (m : Int) _ 61 (by omega)) mtX7_digitBehind miX7_digitBehind rc14 ⟨by decide, (by decide)⟩ lkRX7_239 ⟨by decide, by decide, by decide⟩ rfl (Nat.le_of_ble_eq_true rfl) dX7_readOrder_179 ?_
  refine x_goto (tgt := 201) K dX7_readOrder_182 (by decide) ?_
  refine x_iast K (5 * m + 4) (by omega) rfl ⟨by decide, by decide⟩ (by omega) dX7_readOrder_201 ?_
  refine gWX.eq (gPz_o _ _ _ _ _ _ (by omega)) ?_
  refine x_aload_0 K dX7_readOrder_202 ?_
  refine x_dup K dX7_readOrder_203 rfl ?_
  refine x_getI K gfRX7_236 ⟨by decide, (by decide)⟩ dX7_readOrder_204 ?_
  refine gWX.top (b := (m : Int)) rfl ?_
  refine x_iconst K dX7_readOrder_207 ?_
  refine x_iadd K dX7_readOrder_208 ?_
  refine x_putI K gpRX7_236 ⟨by decide, (by decide)⟩ dX7_readOrder_209 ?_
  exact x_vret K hE rfl dX7_readOrder_212 (by decide) (by decide) ((gPz_m _ _ _ _ _ _).trans rfl)
theorem c7_readOrder_2 {E : gE} {σ : gS} (T : Nat → Int) (l : Nat) (hI : gI7 σ T l) (s : Nat) (m : Nat) (O : Nat → Int) (hs : s < l) (hm : m < 50) (hc : T s = 101) : gCt E mX7_readOrder 6 0 [rf 14 0] (gPz σ (s : Int) 0 (m : Int) O) (.inl none) (gPz σ ((m_fin T l s 2).1 : Int) (m_fin T l s 2).2 ((m : Int) + 1) (m_O T l s 2 m O)) := by
  refine gCt_of (L := [some (rf 14 0), none, none, none]) (by decide +kernel) rfl rfl (Nat.le_of_ble_eq_true rfl) (fun X K hE => ?_)
  have hI2 := hI.2.1
  have hN := K.2.2.2.2.1
  have hT := hI.2.2 s (by omega)
  have hq0 : m_q l (s + 1, 0) := ⟨by show s + 1 ≤ l; omega, Or.inl rfl⟩
  refine x_aload_0 K dX7_readOrder_0 ?_
  refine x_getI K gfRX7_211 ⟨by decide, (by decide)⟩ dX7_readOrder_1 ?_
  refine gWX.top (b := 0) rfl ?_
  refine x_if_ne (tgt := 18) K (by omega) dX7_readOrder_4 (by decide) (fun h4 => absurd rfl h4) (fun h4 => ?_)
  refine x_aload_0 K dX7_readOrder_7 ?_
  refine x_getI K gfRX7_214 ⟨by decide, (by decide)⟩ dX7_readOrder_8 ?_
  refine gWX.top (b := (s : Int)) rfl ?_
  refine x_aload_0 K dX7_readOrder_11 ?_
  refine x_getI K gfRX7_209 ⟨by decide, (by decide)⟩ dX7_readOrder_12 ?_
  refine gWX.top (b := (l : Int)) hI.1 ?_
  refine x_icmp_ne (tgt := 23) K (by omega) dX7_readOrder_15 (by decide) (fun h15 => ?_) (fun h15 => absurd h15 (by omega))
  refine x_aload_0 K dX7_readOrder_23 ?_
  refine x_getC K gfRX7_29 ⟨by decide, (by decide)⟩ dX7_readOrder_24 ?_
  refine x_aload_0 K dX7_readOrder_27 ?_
  refine x_getI K gfRX7_214 ⟨by decide, (by decide)⟩ dX7_readOrder_28 ?_
  refine gWX.top (b := (s : Int)) rfl ?_
  refine x_cald K s rfl rfl ⟨by decide, by decide⟩ (by omega) dX7_readOrder_31 ?_
  refine gWX.top (b := 101) (hT.1.trans hc) ?_
  refine x_istore_1 K dX7_readOrder_32 rfl ?_
  refine x_aload_0 K dX7_readOrder_33 ?_
  refine x_ldcS K (own := "ScrollChecksModel") (tx := "wexscmf") rfl (g_mem 1731 (by decide +kernel)) gLt_w.1 dX7_readOrder_34 ?_
  refine x_iload_1 K dX7_readOrder_36 ?_
  refine x_callK1 K (cJ0_indexOf (gTa E gLt) 7 (fun j => gLb.getD j 0) (gL_str hN).2 ⟨by omega, by omega⟩ gLb_b (101) (by omega)) mtJ0_indexOf_0f7a4 miJ0_indexOf_0f7a4 (gStr_O (gL_str hN).2) lkRX7_231 ⟨by decide, by decide, by decide⟩ rfl (Nat.le_of_ble_eq_true rfl) dX7_readOrder_37 ?_
  have bix := m_ix_bd (101)
  have hix := (m_ix 101 (by omega)).mpr ⟨2, by omega, by omega, by decide⟩
  refine x_if_ge (tgt := 47) K (by omega) dX7_readOrder_40 (by decide) (fun h40 => ?_) (fun h40 => absurd h40 (by omega))
  refine x_iconst K dX7_readOrder_47 ?_
  refine x_putZ K gpRX7_211 ⟨by decide, (by decide)⟩ (by omega) dX7_readOrder_48 ?_
  refine gWX.eq (σ' := gPz σ (s : Int) 0 (m : Int) O) (gPz_b _ _ _ _ _ _) ?_
  refine x_aload_0 K dX7_readOrder_51 ?_
  refine x_getI K gfRX7_211 ⟨by decide, (by decide)⟩ dX7_readOrder_52 ?_
  refine gWX.top (b := 0) rfl ?_
  refine x_if_eq (tgt := 59) K (by omega) dX7_readOrder_55 (by decide) (fun h55 => ?_) (fun h55 => absurd rfl h55)
  refine x_aload_0 K dX7_readOrder_59 ?_
  refine x_dup K dX7_readOrder_60 rfl ?_
  refine x_getI K gfRX7_214 ⟨by decide, (by decide)⟩ dX7_readOrder_61 ?_
  refine x_iconst K dX7_readOrder_64 ?_
  refine x_iadd K dX7_readOrder_65 ?_
  refine x_putI K gpRX7_214 ⟨by decide, (by decide)⟩ dX7_readOrder_66 ?_
  refine gWX.eq (σ' := gPz σ ((s : Int) + 1) 0 (m : Int) O) (gPz_p _ _ _ _ _ _) ?_
  refine x_iconst K dX7_readOrder_69 ?_
  refine x_aload_0 K dX7_readOrder_70 ?_
  refine x_getI K gfRX7_236 ⟨by decide, (by decide)⟩ dX7_readOrder_71 ?_
  refine gWX.top (b := (m : Int)) rfl ?_
  refine x_imul K dX7_readOrder_74 ?_
  refine x_istore_2 K dX7_readOrder_75 rfl ?_
  refine x_iload_1 K dX7_readOrder_76 ?_
  refine x_bipush K dX7_readOrder_77 rfl ?_
  refine x_icmp_eq (tgt := 94) K (by omega) dX7_readOrder_79 (by decide) (fun h79 => absurd h79 (by omega)) (fun h79 => ?_)
  refine x_iload_1 K dX7_readOrder_82 ?_
  refine x_bipush K dX7_readOrder_83 rfl ?_
  refine x_icmp_eq (tgt := 94) K (by omega) dX7_readOrder_85 (by decide) (fun h85 => ?_) (fun h85 => absurd h85 (by omega))
  refine x_iconst K dX7_readOrder_94 ?_
  refine x_goto (tgt := 99) K dX7_readOrder_95 (by decide) ?_
  refine x_istore_3 K dX7_readOrder_99 rfl ?_
  refine x_aload_0 K dX7_readOrder_100 ?_
  refine x_getC K gfRX7_36 ⟨by decide, (by decide)⟩ dX7_readOrder_101 ?_
  refine x_iload_2 K dX7_readOrder_104 ?_
  refine x_iload_1 K dX7_readOrder_105 ?_
  refine x_iast K (5 * m) (by omega) rfl ⟨by decide, by decide⟩ (by omega) dX7_readOrder_106 ?_
  refine gWX.eq (gPz_o _ _ _ _ _ _ (by omega)) ?_
  refine x_aload_0 K dX7_readOrder_107 ?_
  refine x_getC K gfRX7_36 ⟨by decide, (by decide)⟩ dX7_readOrder_108 ?_
  refine x_iload_2 K dX7_readOrder_111 ?_
  refine x_iconst K dX7_readOrder_112 ?_
  refine x_iadd K dX7_readOrder_113 ?_
  refine x_aload_0 K dX7_readOrder_114 ?_
  refine x_callV0 K (c7_digit T l hI (s + 1, 0) hq0 (m : Int) _) mtX7_digit miX7_digit rc14 ⟨by decide, (by decide)⟩ lkRX7_225 ⟨by decide, by decide, by decide⟩ rfl (Nat.le_of_ble_eq_true rfl) dX7_readOrder_115 ?_
  refine x_iast K (5 * m + 1) (by omega) rfl ⟨by decide, by decide⟩ (by omega) dX7_readOrder_118 ?_
  refine gWX.eq (gPz_o _ _ _ _ _ _ (by omega)) ?_
  refine x_aload_0 K dX7_readOrder_119 ?_
  refine x_getC K gfRX7_36 ⟨by decide, (by decide)⟩ dX7_readOrder_120 ?_
  refine x_iload_2 K dX7_readOrder_123 ?_
  refine x_iconst K dX7_readOrder_124 ?_
  refine x_iadd K dX7_readOrder_125 ?_
  refine x_iload_3 K dX7_readOrder_126 ?_
  refine x_if_eq (tgt := 139) K (by omega) dX7_readOrder_127 (by decide) (fun h127 => absurd h127 (by omega)) (fun h127 => ?_)
  refine x_aload_0 K dX7_readOrder_130 ?_
  refine x_bipush K dX7_readOrder_131 rfl ?_
  refine x_callV1 K (c7_digitBehind T l hI _ (m_sg_q hq0) (m : Int) _ 58 (by omega)) mtX7_digitBehind miX7_digitBehind rc14 ⟨by decide, (by decide)⟩ lkRX7_239 ⟨by decide, by decide, by decide⟩ rfl (Nat.le_of_ble_eq_true rfl) dX7_readOrder_133 ?_
  refine x_goto (tgt := 140) K dX7_readOrder_136 (by decide) ?_
  refine x_iast K (5 * m + 2) (by omega) rfl ⟨by decide, by decide⟩ (by omega) dX7_readOrder_140 ?_
  refine gWX.eq (gPz_o _ _ _ _ _ _ (by omega)) ?_
  refine x_aload_0 K dX7_readOrder_141 ?_
  refine x_getC K gfRX7_36 ⟨by decide, (by decide)⟩ dX7_readOrder_142 ?_
  refine x_iload_2 K dX7_readOrder_145 ?_
  refine x_iconst K dX7_readOrder_146 ?_
  refine x_iadd K dX7_readOrder_147 ?_
  refine x_iload_3 K dX7_readOrder_148 ?_
  refine x_if_eq (tgt := 161) K (by omega) dX7_readOrder_149 (by decide) (fun h149 => absurd h149 (by omega)) (fun h149 => ?_)
  refine x_aload_0 K dX7_readOrder_152 ?_
  refine x_bipush K dX7_readOrder_153 rfl ?_
  refine x_callV1 K (c7_digitBehind T l hI _ (m_sg_q (m_sg_q (m_sg_q hq0))) (m : Int) _ 44 (by omega)) mtX7_digitBehind miX7_digitBehind rc14 ⟨by decide, (by decide)⟩ lkRX7_239 ⟨by decide, by decide, by decide⟩ rfl (Nat.le_of_ble_eq_true rfl) dX7_readOrder_155 ?_
  refine x_goto (tgt := 162) K dX7_readOrder_158 (by decide) ?_
  refine x_iast K (5 * m + 3) (by omega) rfl ⟨by decide, by decide⟩ (by omega) dX7_readOrder_162 ?_
  refine gWX.eq (gPz_o _ _ _ _ _ _ (by omega)) ?_
  refine x_aload_0 K dX7_readOrder_163 ?_
  refine x_getC K gfRX7_36 ⟨by decide, (by decide)⟩ dX7_readOrder_164 ?_
  refine x_iload_2 K dX7_readOrder_167 ?_
  refine x_iconst K dX7_readOrder_168 ?_
  refine x_iadd K dX7_readOrder_169 ?_
  refine x_iload_1 K dX7_readOrder_170 ?_
  refine x_bipush K dX7_readOrder_171 rfl ?_
  refine x_icmp_ne (tgt := 185) K (by omega) dX7_readOrder_173 (by decide) (fun h173 => ?_) (fun h173 => absurd h173 (by omega))
  refine x_iload_1 K dX7_readOrder_185 ?_
  refine x_bipush K dX7_readOrder_186 rfl ?_
  refine x_icmp_ne (tgt := 200) K (by omega) dX7_readOrder_188 (by decide) (fun h188 => absurd h188 (by omega)) (fun h188 => ?_)
  refine x_aload_0 K dX7_readOrder_191 ?_
  refine x_bipush K dX7_readOrder_192 rfl ?_
  refine x_callV1 K (c7_digitBehind T l hI _ (m_sg_q (m_sg_q (m_sg_q (m_sg_q (m_sg_q hq0))))) (m : Int) _ 43 (by omega)) mtX7_digitBehind miX7_digitBehind rc14 ⟨by decide, (by decide)⟩ lkRX7_239 ⟨by decide, by decide, by decide⟩ rfl (Nat.le_of_ble_eq_true rfl) dX7_readOrder_194 ?_
  refine x_goto (tgt := 201) K dX7_readOrder_197 (by decide) ?_
  refine x_iast K (5 * m + 4) (by omega) rfl ⟨by decide, by decide⟩ (by omega) dX7_readOrder_201 ?_
  refine gWX.eq (gPz_o _ _ _ _ _ _ (by omega)) ?_
  refine x_aload_0 K dX7_readOrder_202 ?_
  refine x_dup K dX7_readOrder_203 rfl ?_
  refine x_getI K gfRX7_236 ⟨by decide, (by decide)⟩ dX7_readOrder_204 ?_
  refine gWX.top (b := (m : Int)) rfl ?_
  refine x_iconst K dX7_readOrder_207 ?_
  refine x_iadd K dX7_readOrder_208 ?_
  refine x_putI K gpRX7_236 ⟨by decide, (by decide)⟩ dX7_readOrder_209 ?_
  exact x_vret K hE rfl dX7_readOrder_212 (by decide) (by decide) ((gPz_m _ _ _ _ _ _).trans rfl)
theorem c7_readOrder_3 {E : gE} {σ : gS} (T : Nat → Int) (l : Nat) (hI : gI7 σ T l) (s : Nat) (m : Nat) (O : Nat → Int) (hs : s < l) (hm : m < 50) (hc : T s = 120) : gCt E mX7_readOrder 6 0 [rf 14 0] (gPz σ (s : Int) 0 (m : Int) O) (.inl none) (gPz σ ((m_fin T l s 3).1 : Int) (m_fin T l s 3).2 ((m : Int) + 1) (m_O T l s 3 m O)) := by
  refine gCt_of (L := [some (rf 14 0), none, none, none]) (by decide +kernel) rfl rfl (Nat.le_of_ble_eq_true rfl) (fun X K hE => ?_)
  have hI2 := hI.2.1
  have hN := K.2.2.2.2.1
  have hT := hI.2.2 s (by omega)
  have hq0 : m_q l (s + 1, 0) := ⟨by show s + 1 ≤ l; omega, Or.inl rfl⟩
  refine x_aload_0 K dX7_readOrder_0 ?_
  refine x_getI K gfRX7_211 ⟨by decide, (by decide)⟩ dX7_readOrder_1 ?_
  refine gWX.top (b := 0) rfl ?_
  refine x_if_ne (tgt := 18) K (by omega) dX7_readOrder_4 (by decide) (fun h4 => absurd rfl h4) (fun h4 => ?_)
  refine x_aload_0 K dX7_readOrder_7 ?_
  refine x_getI K gfRX7_214 ⟨by decide, (by decide)⟩ dX7_readOrder_8 ?_
  refine gWX.top (b := (s : Int)) rfl ?_
  refine x_aload_0 K dX7_readOrder_11 ?_
  refine x_getI K gfRX7_209 ⟨by decide, (by decide)⟩ dX7_readOrder_12 ?_
  refine gWX.top (b := (l : Int)) hI.1 ?_
  refine x_icmp_ne (tgt := 23) K (by omega) dX7_readOrder_15 (by decide) (fun h15 => ?_) (fun h15 => absurd h15 (by omega))
  refine x_aload_0 K dX7_readOrder_23 ?_
  refine x_getC K gfRX7_29 ⟨by decide, (by decide)⟩ dX7_readOrder_24 ?_
  refine x_aload_0 K dX7_readOrder_27 ?_
  refine x_getI K gfRX7_214 ⟨by decide, (by decide)⟩ dX7_readOrder_28 ?_
  refine gWX.top (b := (s : Int)) rfl ?_
  refine x_cald K s rfl rfl ⟨by decide, by decide⟩ (by omega) dX7_readOrder_31 ?_
  refine gWX.top (b := 120) (hT.1.trans hc) ?_
  refine x_istore_1 K dX7_readOrder_32 rfl ?_
  refine x_aload_0 K dX7_readOrder_33 ?_
  refine x_ldcS K (own := "ScrollChecksModel") (tx := "wexscmf") rfl (g_mem 1731 (by decide +kernel)) gLt_w.1 dX7_readOrder_34 ?_
  refine x_iload_1 K dX7_readOrder_36 ?_
  refine x_callK1 K (cJ0_indexOf (gTa E gLt) 7 (fun j => gLb.getD j 0) (gL_str hN).2 ⟨by omega, by omega⟩ gLb_b (120) (by omega)) mtJ0_indexOf_0f7a4 miJ0_indexOf_0f7a4 (gStr_O (gL_str hN).2) lkRX7_231 ⟨by decide, by decide, by decide⟩ rfl (Nat.le_of_ble_eq_true rfl) dX7_readOrder_37 ?_
  have bix := m_ix_bd (120)
  have hix := (m_ix 120 (by omega)).mpr ⟨3, by omega, by omega, by decide⟩
  refine x_if_ge (tgt := 47) K (by omega) dX7_readOrder_40 (by decide) (fun h40 => ?_) (fun h40 => absurd h40 (by omega))
  refine x_iconst K dX7_readOrder_47 ?_
  refine x_putZ K gpRX7_211 ⟨by decide, (by decide)⟩ (by omega) dX7_readOrder_48 ?_
  refine gWX.eq (σ' := gPz σ (s : Int) 0 (m : Int) O) (gPz_b _ _ _ _ _ _) ?_
  refine x_aload_0 K dX7_readOrder_51 ?_
  refine x_getI K gfRX7_211 ⟨by decide, (by decide)⟩ dX7_readOrder_52 ?_
  refine gWX.top (b := 0) rfl ?_
  refine x_if_eq (tgt := 59) K (by omega) dX7_readOrder_55 (by decide) (fun h55 => ?_) (fun h55 => absurd rfl h55)
  refine x_aload_0 K dX7_readOrder_59 ?_
  refine x_dup K dX7_readOrder_60 rfl ?_
  refine x_getI K gfRX7_214 ⟨by decide, (by decide)⟩ dX7_readOrder_61 ?_
  refine x_iconst K dX7_readOrder_64 ?_
  refine x_iadd K dX7_readOrder_65 ?_
  refine x_putI K gpRX7_214 ⟨by decide, (by decide)⟩ dX7_readOrder_66 ?_
  refine gWX.eq (σ' := gPz σ ((s : Int) + 1) 0 (m : Int) O) (gPz_p _ _ _ _ _ _) ?_
  refine x_iconst K dX7_readOrder_69 ?_
  refine x_aload_0 K dX7_readOrder_70 ?_
  refine x_getI K gfRX7_236 ⟨by decide, (by decide)⟩ dX7_readOrder_71 ?_
  refine gWX.top (b := (m : Int)) rfl ?_
  refine x_imul K dX7_readOrder_74 ?_
  refine x_istore_2 K dX7_readOrder_75 rfl ?_
  refine x_iload_1 K dX7_readOrder_76 ?_
  refine x_bipush K dX7_readOrder_77 rfl ?_
  refine x_icmp_eq (tgt := 94) K (by omega) dX7_readOrder_79 (by decide) (fun h79 => absurd h79 (by omega)) (fun h79 => ?_)
  refine x_iload_1 K dX7_readOrder_82 ?_
  refine x_bipush K dX7_readOrder_83 rfl ?_
  refine x_icmp_eq (tgt := 94) K (by omega) dX7_readOrder_85 (by decide) (fun h85 => absurd h85 (by omega)) (fun h85 => ?_)
  refine x_iload_1 K dX7_readOrder_88 ?_
  refine x_bipush K dX7_readOrder_89 rfl ?_
  refine x_icmp_ne (tgt := 98) K (by omega) dX7_readOrder_91 (by decide) (fun h91 => absurd h91 (by omega)) (fun h91 => ?_)
  refine x_iconst K dX7_readOrder_94 ?_
  refine x_goto (tgt := 99) K dX7_readOrder_95 (by decide) ?_
  refine x_istore_3 K dX7_readOrder_99 rfl ?_
  refine x_aload_0 K dX7_readOrder_100 ?_
  refine x_getC K gfRX7_36 ⟨by decide, (by decide)⟩ dX7_readOrder_101 ?_
  refine x_iload_2 K dX7_readOrder_104 ?_
  refine x_iload_1 K dX7_readOrder_105 ?_
  refine x_iast K (5 * m) (by omega) rfl ⟨by decide, by decide⟩ (by omega) dX7_readOrder_106 ?_
  refine gWX.eq (gPz_o _ _ _ _ _ _ (by omega)) ?_
  refine x_aload_0 K dX7_readOrder_107 ?_
  refine x_getC K gfRX7_36 ⟨by decide, (by decide)⟩ dX7_readOrder_108 ?_
  refine x_iload_2 K dX7_readOrder_111 ?_
  refine x_iconst K dX7_readOrder_112 ?_
  refine x_iadd K dX7_readOrder_113 ?_
  refine x_aload_0 K dX7_readOrder_114 ?_
  refine x_callV0 K (c7_digit T l hI (s + 1, 0) hq0 (m : Int) _) mtX7_digit miX7_digit rc14 ⟨by decide, (by decide)⟩ lkRX7_225 ⟨by decide, by decide, by decide⟩ rfl (Nat.le_of_ble_eq_true rfl) dX7_readOrder_115 ?_
  refine x_iast K (5 * m + 1) (by omega) rfl ⟨by decide, by decide⟩ (by omega) dX7_readOrder_118 ?_
  refine gWX.eq (gPz_o _ _ _ _ _ _ (by omega)) ?_
  refine x_aload_0 K dX7_readOrder_119 ?_
  refine x_getC K gfRX7_36 ⟨by decide, (by decide)⟩ dX7_readOrder_120 ?_
  refine x_iload_2 K dX7_readOrder_123 ?_
  refine x_iconst K dX7_readOrder_124 ?_
  refine x_iadd K dX7_readOrder_125 ?_
  refine x_iload_3 K dX7_readOrder_126 ?_
  refine x_if_eq (tgt := 139) K (by omega) dX7_readOrder_127 (by decide) (fun h127 => absurd h127 (by omega)) (fun h127 => ?_)
  refine x_aload_0 K dX7_readOrder_130 ?_
  refine x_bipush K dX7_readOrder_131 rfl ?_
  refine x_callV1 K (c7_digitBehind T l hI _ (m_sg_q hq0) (m : Int) _ 58 (by omega)) mtX7_digitBehind miX7_digitBehind rc14 ⟨by decide, (by decide)⟩ lkRX7_239 ⟨by decide, by decide, by decide⟩ rfl (Nat.le_of_ble_eq_true rfl) dX7_readOrder_133 ?_
  refine x_goto (tgt := 140) K dX7_readOrder_136 (by decide) ?_
  refine x_iast K (5 * m + 2) (by omega) rfl ⟨by decide, by decide⟩ (by omega) dX7_readOrder_140 ?_
  refine gWX.eq (gPz_o _ _ _ _ _ _ (by omega)) ?_
  refine x_aload_0 K dX7_readOrder_141 ?_
  refine x_getC K gfRX7_36 ⟨by decide, (by decide)⟩ dX7_readOrder_142 ?_
  refine x_iload_2 K dX7_readOrder_145 ?_
  refine x_iconst K dX7_readOrder_146 ?_
  refine x_iadd K dX7_readOrder_147 ?_
  refine x_iload_3 K dX7_readOrder_148 ?_
  refine x_if_eq (tgt := 161) K (by omega) dX7_readOrder_149 (by decide) (fun h149 => absurd h149 (by omega)) (fun h149 => ?_)
  refine x_aload_0 K dX7_readOrder_152 ?_
  refine x_bipush K dX7_readOrder_153 rfl ?_
  refine x_callV1 K (c7_digitBehind T l hI _ (m_sg_q (m_sg_q (m_sg_q hq0))) (m : Int) _ 44 (by omega)) mtX7_digitBehind miX7_digitBehind rc14 ⟨by decide, (by decide)⟩ lkRX7_239 ⟨by decide, by decide, by decide⟩ rfl (Nat.le_of_ble_eq_true rfl) dX7_readOrder_155 ?_
  refine x_goto (tgt := 162) K dX7_readOrder_158 (by decide) ?_
  refine x_iast K (5 * m + 3) (by omega) rfl ⟨by decide, by decide⟩ (by omega) dX7_readOrder_162 ?_
  refine gWX.eq (gPz_o _ _ _ _ _ _ (by omega)) ?_
  refine x_aload_0 K dX7_readOrder_163 ?_
  refine x_getC K gfRX7_36 ⟨by decide, (by decide)⟩ dX7_readOrder_164 ?_
  refine x_iload_2 K dX7_readOrder_167 ?_
  refine x_iconst K dX7_readOrder_168 ?_
  refine x_iadd K dX7_readOrder_169 ?_
  refine x_iload_1 K dX7_readOrder_170 ?_
  refine x_bipush K dX7_readOrder_171 rfl ?_
  refine x_icmp_ne (tgt := 185) K (by omega) dX7_readOrder_173 (by decide) (fun h173 => ?_) (fun h173 => absurd h173 (by omega))
  refine x_iload_1 K dX7_readOrder_185 ?_
  refine x_bipush K dX7_readOrder_186 rfl ?_
  refine x_icmp_ne (tgt := 200) K (by omega) dX7_readOrder_188 (by decide) (fun h188 => ?_) (fun h188 => absurd h188 (by omega))
  refine x_iconst K dX7_readOrder_200 ?_
  refine x_iast K (5 * m + 4) (by omega) rfl ⟨by decide, by decide⟩ (by omega) dX7_readOrder_201 ?_
  refine gWX.eq (gPz_o _ _ _ _ _ _ (by omega)) ?_
  refine x_aload_0 K dX7_readOrder_202 ?_
  refine x_dup K dX7_readOrder_203 rfl ?_
  refine x_getI K gfRX7_236 ⟨by decide, (by decide)⟩ dX7_readOrder_204 ?_
  refine gWX.top (b := (m : Int)) rfl ?_
  refine x_iconst K dX7_readOrder_207 ?_
  refine x_iadd K dX7_readOrder_208 ?_
  refine x_putI K gpRX7_236 ⟨by decide, (by decide)⟩ dX7_readOrder_209 ?_
  exact x_vret K hE rfl dX7_readOrder_212 (by decide) (by decide) ((gPz_m _ _ _ _ _ _).trans rfl)
theorem c7_readOrder_4 {E : gE} {σ : gS} (T : Nat → Int) (l : Nat) (hI : gI7 σ T l) (s : Nat) (m : Nat) (O : Nat → Int) (hs : s < l) (hm : m < 50) (hc : T s = 115) : gCt E mX7_readOrder 6 0 [rf 14 0] (gPz σ (s : Int) 0 (m : Int) O) (.inl none) (gPz σ ((m_fin T l s 4).1 : Int) (m_fin T l s 4).2 ((m : Int) + 1) (m_O T l s 4 m O)) := by
  refine gCt_of (L := [some (rf 14 0), none, none, none]) (by decide +kernel) rfl rfl (Nat.le_of_ble_eq_true rfl) (fun X K hE => ?_)
  have hI2 := hI.2.1
  have hN := K.2.2.2.2.1
  have hT := hI.2.2 s (by omega)
  have hq0 : m_q l (s + 1, 0) := ⟨by show s + 1 ≤ l; omega, Or.inl rfl⟩
  refine x_aload_0 K dX7_readOrder_0 ?_
  refine x_getI K gfRX7_211 ⟨by decide, (by decide)⟩ dX7_readOrder_1 ?_
  refine gWX.top (b := 0) rfl ?_
  refine x_if_ne (tgt := 18) K (by omega) dX7_readOrder_4 (by decide) (fun h4 => absurd rfl h4) (fun h4 => ?_)
  refine x_aload_0 K dX7_readOrder_7 ?_
  refine x_getI K gfRX7_214 ⟨by decide, (by decide)⟩ dX7_readOrder_8 ?_
  refine gWX.top (b := (s : Int)) rfl ?_
  refine x_aload_0 K dX7_readOrder_11 ?_
  refine x_getI K gfRX7_209 ⟨by decide, (by decide)⟩ dX7_readOrder_12 ?_
  refine gWX.top (b := (l : Int)) hI.1 ?_
  refine x_icmp_ne (tgt := 23) K (by omega) dX7_readOrder_15 (by decide) (fun h15 => ?_) (fun h15 => absurd h15 (by omega))
  refine x_aload_0 K dX7_readOrder_23 ?_
  refine x_getC K gfRX7_29 ⟨by decide, (by decide)⟩ dX7_readOrder_24 ?_
  refine x_aload_0 K dX7_readOrder_27 ?_
  refine x_getI K gfRX7_214 ⟨by decide, (by decide)⟩ dX7_readOrder_28 ?_
  refine gWX.top (b := (s : Int)) rfl ?_
  refine x_cald K s rfl rfl ⟨by decide, by decide⟩ (by omega) dX7_readOrder_31 ?_
  refine gWX.top (b := 115) (hT.1.trans hc) ?_
  refine x_istore_1 K dX7_readOrder_32 rfl ?_
  refine x_aload_0 K dX7_readOrder_33 ?_
  refine x_ldcS K (own := "ScrollChecksModel") (tx := "wexscmf") rfl (g_mem 1731 (by decide +kernel)) gLt_w.1 dX7_readOrder_34 ?_
  refine x_iload_1 K dX7_readOrder_36 ?_
  refine x_callK1 K (cJ0_indexOf (gTa E gLt) 7 (fun j => gLb.getD j 0) (gL_str hN).2 ⟨by omega, by omega⟩ gLb_b (115) (by omega)) mtJ0_indexOf_0f7a4 miJ0_indexOf_0f7a4 (gStr_O (gL_str hN).2) lkRX7_231 ⟨by decide, by decide, by decide⟩ rfl (Nat.le_of_ble_eq_true rfl) dX7_readOrder_37 ?_
  have bix := m_ix_bd (115)
  have hix := (m_ix 115 (by omega)).mpr ⟨4, by omega, by omega, by decide⟩
  refine x_if_ge (tgt := 47) K (by omega) dX7_readOrder_40 (by decide) (fun h40 => ?_) (fun h40 => absurd h40 (by omega))
  refine x_iconst K dX7_readOrder_47 ?_
  refine x_putZ K gpRX7_211 ⟨by decide, (by decide)⟩ (by omega) dX7_readOrder_48 ?_
  refine gWX.eq (σ' := gPz σ (s : Int) 0 (m : Int) O) (gPz_b _ _ _ _ _ _) ?_
  refine x_aload_0 K dX7_readOrder_51 ?_
  refine x_getI K gfRX7_211 ⟨by decide, (by decide)⟩ dX7_readOrder_52 ?_
  refine gWX.top (b := 0) rfl ?_
  refine x_if_eq (tgt := 59) K (by omega) dX7_readOrder_55 (by decide) (fun h55 => ?_) (fun h55 => absurd rfl h55)
  refine x_aload_0 K dX7_readOrder_59 ?_
  refine x_dup K dX7_readOrder_60 rfl ?_
  refine x_getI K gfRX7_214 ⟨by decide, (by decide)⟩ dX7_readOrder_61 ?_
  refine x_iconst K dX7_readOrder_64 ?_
  refine x_iadd K dX7_readOrder_65 ?_
  refine x_putI K gpRX7_214 ⟨by decide, (by decide)⟩ dX7_readOrder_66 ?_
  refine gWX.eq (σ' := gPz σ ((s : Int) + 1) 0 (m : Int) O) (gPz_p _ _ _ _ _ _) ?_
  refine x_iconst K dX7_readOrder_69 ?_
  refine x_aload_0 K dX7_readOrder_70 ?_
  refine x_getI K gfRX7_236 ⟨by decide, (by decide)⟩ dX7_readOrder_71 ?_
  refine gWX.top (b := (m : Int)) rfl ?_
  refine x_imul K dX7_readOrder_74 ?_
  refine x_istore_2 K dX7_readOrder_75 rfl ?_
  refine x_iload_1 K dX7_readOrder_76 ?_
  refine x_bipush K dX7_readOrder_77 rfl ?_
  refine x_icmp_eq (tgt := 94) K (by omega) dX7_readOrder_79 (by decide) (fun h79 => absurd h79 (by omega)) (fun h79 => ?_)
  refine x_iload_1 K dX7_readOrder_82 ?_
  refine x_bipush K dX7_readOrder_83 rfl ?_
  refine x_icmp_eq (tgt := 94) K (by omega) dX7_readOrder_85 (by decide) (fun h85 => absurd h85 (by omega)) (fun h85 => ?_)
  refine x_iload_1 K dX7_readOrder_88 ?_
  refine x_bipush K dX7_readOrder_89 rfl ?_
  refine x_icmp_ne (tgt := 98) K (by omega) dX7_readOrder_91 (by decide) (fun h91 => ?_) (fun h91 => absurd h91 (by omega))
  refine x_iconst K dX7_readOrder_98 ?_
  refine x_istore_3 K dX7_readOrder_99 rfl ?_
  refine x_aload_0 K dX7_readOrder_100 ?_
  refine x_getC K gfRX7_36 ⟨by decide, (by decide)⟩ dX7_readOrder_101 ?_
  refine x_iload_2 K dX7_readOrder_104 ?_
  refine x_iload_1 K dX7_readOrder_105 ?_
  refine x_iast K (5 * m) (by omega) rfl ⟨by decide, by decide⟩ (by omega) dX7_readOrder_106 ?_
  refine gWX.eq (gPz_o _ _ _ _ _ _ (by omega)) ?_
  refine x_aload_0 K dX7_readOrder_107 ?_
  refine x_getC K gfRX7_36 ⟨by decide, (by decide)⟩ dX7_readOrder_108 ?_
  refine x_iload_2 K dX7_readOrder_111 ?_
  refine x_iconst K dX7_readOrder_112 ?_
  refine x_iadd K dX7_readOrder_113 ?_
  refine x_aload_0 K dX7_readOrder_114 ?_
  refine x_callV0 K (c7_digit T l hI (s + 1, 0) hq0 (m : Int) _) mtX7_digit miX7_digit rc14 ⟨by decide, (by decide)⟩ lkRX7_225 ⟨by decide, by decide, by decide⟩ rfl (Nat.le_of_ble_eq_true rfl) dX7_readOrder_115 ?_
  refine x_iast K (5 * m + 1) (by omega) rfl ⟨by decide, by decide⟩ (by omega) dX7_readOrder_118 ?_
  refine gWX.eq (gPz_o _ _ _ _ _ _ (by omega)) ?_
  refine x_aload_0 K dX7_readOrder_119 ?_
  refine x_getC K gfRX7_36 ⟨by decide, (by decide)⟩ dX7_readOrder_120 ?_
  refine x_iload_2 K dX7_readOrder_123 ?_
  refine x_iconst K dX7_readOrder_124 ?_
  refine x_iadd K dX7_readOrder_125 ?_
  refine x_iload_3 K dX7_readOrder_126 ?_
  refine x_if_eq (tgt := 139) K (by omega) dX7_readOrder_127 (by decide) (fun h127 => ?_) (fun h127 => absurd rfl h127)
  refine x_iconst K dX7_readOrder_139 ?_
  refine x_iast K (5 * m + 2) (by omega) rfl ⟨by decide, by decide⟩ (by omega) dX7_readOrder_140 ?_
  refine gWX.eq (gPz_o _ _ _ _ _ _ (by omega)) ?_
  refine x_aload_0 K dX7_readOrder_141 ?_
  refine x_getC K gfRX7_36 ⟨by decide, (by decide)⟩ dX7_readOrder_142 ?_
  refine x_iload_2 K dX7_readOrder_145 ?_
  refine x_iconst K dX7_readOrder_146 ?_
  refine x_iadd K dX7_readOrder_147 ?_
  refine x_iload_3 K dX7_readOrder_148 ?_
  refine x_if_eq (tgt := 161) K (by omega) dX7_readOrder_149 (by decide) (fun h149 => ?_) (fun h149 => absurd rfl h149)
  refine x_iconst K dX7_readOrder_161 ?_
  refine x_iast K (5 * m + 3) (by omega) rfl ⟨by decide, by decide⟩ (by omega) dX7_readOrder_162 ?_
  refine gWX.eq (gPz_o _ _ _ _ _ _ (by omega)) ?_
  refine x_aload_0 K dX7_readOrder_163 ?_
  refine x_getC K gfRX7_36 ⟨by decide, (by decide)⟩ dX7_readOrder_164 ?_
  refine x_iload_2 K dX7_readOrder_167 ?_
  refine x_iconst K dX7_readOrder_168 ?_
  refine x_iadd K dX7_readOrder_169 ?_
  refine x_iload_1 K dX7_readOrder_170 ?_
  refine x_bipush K dX7_readOrder_171 rfl ?_
  refine x_icmp_ne (tgt := 185) K (by omega) dX7_readOrder_173 (by decide) (fun h173 => ?_) (fun h173 => absurd h173 (by omega))
  refine x_iload_1 K dX7_readOrder_185 ?_
  refine x_bipush K dX7_readOrder_186 rfl ?_
  refine x_icmp_ne (tgt := 200) K (by omega) dX7_readOrder_188 (by decide) (fun h188 => ?_) (fun h188 => absurd h188 (by omega))
  refine x_iconst K dX7_readOrder_200 ?_
  refine x_iast K (5 * m + 4) (by omega) rfl ⟨by decide, by decide⟩ (by omega) dX7_readOrder_201 ?_
  refine gWX.eq (gPz_o _ _ _ _ _ _ (by omega)) ?_
  refine x_aload_0 K dX7_readOrder_202 ?_
  refine x_dup K dX7_readOrder_203 rfl ?_
  refine x_getI K gfRX7_236 ⟨by decide, (by decide)⟩ dX7_readOrder_204 ?_
  refine gWX.top (b := (m : Int)) rfl ?_
  refine x_iconst K dX7_readOrder_207 ?_
  refine x_iadd K dX7_readOrder_208 ?_
  refine x_putI K gpRX7_236 ⟨by decide, (by decide)⟩ dX7_readOrder_209 ?_
  exact x_vret K hE rfl dX7_readOrder_212 (by decide) (by decide) ((gPz_m _ _ _ _ _ _).trans rfl)
theorem c7_readOrder_5 {E : gE} {σ : gS} (T : Nat → Int) (l : Nat) (hI : gI7 σ T l) (s : Nat) (m : Nat) (O : Nat → Int) (hs : s < l) (hm : m < 50) (hc : T s = 99) : gCt E mX7_readOrder 6 0 [rf 14 0] (gPz σ (s : Int) 0 (m : Int) O) (.inl none) (gPz σ ((m_fin T l s 5).1 : Int) (m_fin T l s 5).2 ((m : Int) + 1) (m_O T l s 5 m O)) := by
  refine gCt_of (L := [some (rf 14 0), none, none, none]) (by decide +kernel) rfl rfl (Nat.le_of_ble_eq_true rfl) (fun X K hE => ?_)
  have hI2 := hI.2.1
  have hN := K.2.2.2.2.1
  have hT := hI.2.2 s (by omega)
  have hq0 : m_q l (s + 1, 0) := ⟨by show s + 1 ≤ l; omega, Or.inl rfl⟩
  refine x_aload_0 K dX7_readOrder_0 ?_
  refine x_getI K gfRX7_211 ⟨by decide, (by decide)⟩ dX7_readOrder_1 ?_
  refine gWX.top (b := 0) rfl ?_
  refine x_if_ne (tgt := 18) K (by omega) dX7_readOrder_4 (by decide) (fun h4 => absurd rfl h4) (fun h4 => ?_)
  refine x_aload_0 K dX7_readOrder_7 ?_
  refine x_getI K gfRX7_214 ⟨by decide, (by decide)⟩ dX7_readOrder_8 ?_
  refine gWX.top (b := (s : Int)) rfl ?_
  refine x_aload_0 K dX7_readOrder_11 ?_
  refine x_getI K gfRX7_209 ⟨by decide, (by decide)⟩ dX7_readOrder_12 ?_
  refine gWX.top (b := (l : Int)) hI.1 ?_
  refine x_icmp_ne (tgt := 23) K (by omega) dX7_readOrder_15 (by decide) (fun h15 => ?_) (fun h15 => absurd h15 (by omega))
  refine x_aload_0 K dX7_readOrder_23 ?_
  refine x_getC K gfRX7_29 ⟨by decide, (by decide)⟩ dX7_readOrder_24 ?_
  refine x_aload_0 K dX7_readOrder_27 ?_
  refine x_getI K gfRX7_214 ⟨by decide, (by decide)⟩ dX7_readOrder_28 ?_
  refine gWX.top (b := (s : Int)) rfl ?_
  refine x_cald K s rfl rfl ⟨by decide, by decide⟩ (by omega) dX7_readOrder_31 ?_
  refine gWX.top (b := 99) (hT.1.trans hc) ?_
  refine x_istore_1 K dX7_readOrder_32 rfl ?_
  refine x_aload_0 K dX7_readOrder_33 ?_
  refine x_ldcS K (own := "ScrollChecksModel") (tx := "wexscmf") rfl (g_mem 1731 (by decide +kernel)) gLt_w.1 dX7_readOrder_34 ?_
  refine x_iload_1 K dX7_readOrder_36 ?_
  refine x_callK1 K (cJ0_indexOf (gTa E gLt) 7 (fun j => gLb.getD j 0) (gL_str hN).2 ⟨by omega, by omega⟩ gLb_b (99) (by omega)) mtJ0_indexOf_0f7a4 miJ0_indexOf_0f7a4 (gStr_O (gL_str hN).2) lkRX7_231 ⟨by decide, by decide, by decide⟩ rfl (Nat.le_of_ble_eq_true rfl) dX7_readOrder_37 ?_
  have bix := m_ix_bd (99)
  have hix := (m_ix 99 (by omega)).mpr ⟨5, by omega, by omega, by decide⟩
  refine x_if_ge (tgt := 47) K (by omega) dX7_readOrder_40 (by decide) (fun h40 => ?_) (fun h40 => absurd h40 (by omega))
  refine x_iconst K dX7_readOrder_47 ?_
  refine x_putZ K gpRX7_211 ⟨by decide, (by decide)⟩ (by omega) dX7_readOrder_48 ?_
  refine gWX.eq (σ' := gPz σ (s : Int) 0 (m : Int) O) (gPz_b _ _ _ _ _ _) ?_
  refine x_aload_0 K dX7_readOrder_51 ?_
  refine x_getI K gfRX7_211 ⟨by decide, (by decide)⟩ dX7_readOrder_52 ?_
  refine gWX.top (b := 0) rfl ?_
  refine x_if_eq (tgt := 59) K (by omega) dX7_readOrder_55 (by decide) (fun h55 => ?_) (fun h55 => absurd rfl h55)
  refine x_aload_0 K dX7_readOrder_59 ?_
  refine x_dup K dX7_readOrder_60 rfl ?_
  refine x_getI K gfRX7_214 ⟨by decide, (by decide)⟩ dX7_readOrder_61 ?_
  refine x_iconst K dX7_readOrder_64 ?_
  refine x_iadd K dX7_readOrder_65 ?_
  refine x_putI K gpRX7_214 ⟨by decide, (by decide)⟩ dX7_readOrder_66 ?_
  refine gWX.eq (σ' := gPz σ ((s : Int) + 1) 0 (m : Int) O) (gPz_p _ _ _ _ _ _) ?_
  refine x_iconst K dX7_readOrder_69 ?_
  refine x_aload_0 K dX7_readOrder_70 ?_
  refine x_getI K gfRX7_236 ⟨by decide, (by decide)⟩ dX7_readOrder_71 ?_
  refine gWX.top (b := (m : Int)) rfl ?_
  refine x_imul K dX7_readOrder_74 ?_
  refine x_istore_2 K dX7_readOrder_75 rfl ?_
  refine x_iload_1 K dX7_readOrder_76 ?_
  refine x_bipush K dX7_readOrder_77 rfl ?_
  refine x_icmp_eq (tgt := 94) K (by omega) dX7_readOrder_79 (by decide) (fun h79 => absurd h79 (by omega)) (fun h79 => ?_)
  refine x_iload_1 K dX7_readOrder_82 ?_
  refine x_bipush K dX7_readOrder_83 rfl ?_
  refine x_icmp_eq (tgt := 94) K (by omega) dX7_readOrder_85 (by decide) (fun h85 => absurd h85 (by omega)) (fun h85 => ?_)
  refine x_iload_1 K dX7_readOrder_88 ?_
  refine x_bipush K dX7_readOrder_89 rfl ?_
  refine x_icmp_ne (tgt := 98) K (by omega) dX7_readOrder_91 (by decide) (fun h91 => ?_) (fun h91 => absurd h91 (by omega))
  refine x_iconst K dX7_readOrder_98 ?_
  refine x_istore_3 K dX7_readOrder_99 rfl ?_
  refine x_aload_0 K dX7_readOrder_100 ?_
  refine x_getC K gfRX7_36 ⟨by decide, (by decide)⟩ dX7_readOrder_101 ?_
  refine x_iload_2 K dX7_readOrder_104 ?_
  refine x_iload_1 K dX7_readOrder_105 ?_
  refine x_iast K (5 * m) (by omega) rfl ⟨by decide, by decide⟩ (by omega) dX7_readOrder_106 ?_
  refine gWX.eq (gPz_o _ _ _ _ _ _ (by omega)) ?_
  refine x_aload_0 K dX7_readOrder_107 ?_
  refine x_getC K gfRX7_36 ⟨by decide, (by decide)⟩ dX7_readOrder_108 ?_
  refine x_iload_2 K dX7_readOrder_111 ?_
  refine x_iconst K dX7_readOrder_112 ?_
  refine x_iadd K dX7_readOrder_113 ?_
  refine x_aload_0 K dX7_readOrder_114 ?_
  refine x_callV0 K (c7_digit T l hI (s + 1, 0) hq0 (m : Int) _) mtX7_digit miX7_digit rc14 ⟨by decide, (by decide)⟩ lkRX7_225 ⟨by decide, by decide, by decide⟩ rfl (Nat.le_of_ble_eq_true rfl) dX7_readOrder_115 ?_
  refine x_iast K (5 * m + 1) (by omega) rfl ⟨by decide, by decide⟩ (by omega) dX7_readOrder_118 ?_
  refine gWX.eq (gPz_o _ _ _ _ _ _ (by omega)) ?_
  refine x_aload_0 K dX7_readOrder_119 ?_
  refine x_getC K gfRX7_36 ⟨by decide, (by decide)⟩ dX7_readOrder_120 ?_
  refine x_iload_2 K dX7_readOrder_123 ?_
  refine x_iconst K dX7_readOrder_124 ?_
  refine x_iadd K dX7_readOrder_125 ?_
  refine x_iload_3 K dX7_readOrder_126 ?_
  refine x_if_eq (tgt := 139) K (by omega) dX7_readOrder_127 (by decide) (fun h127 => ?_) (fun h127 => absurd rfl h127)
  refine x_iconst K dX7_readOrder_139 ?_
  refine x_iast K (5 * m + 2) (by omega) rfl ⟨by decide, by decide⟩ (by omega) dX7_readOrder_140 ?_
  refine gWX.eq (gPz_o _ _ _ _ _ _ (by omega)) ?_
  refine x_aload_0 K dX7_readOrder_141 ?_
  refine x_getC K gfRX7_36 ⟨by decide, (by decide)⟩ dX7_readOrder_142 ?_
  refine x_iload_2 K dX7_readOrder_145 ?_
  refine x_iconst K dX7_readOrder_146 ?_
  refine x_iadd K dX7_readOrder_147 ?_
  refine x_iload_3 K dX7_readOrder_148 ?_
  refine x_if_eq (tgt := 161) K (by omega) dX7_readOrder_149 (by decide) (fun h149 => ?_) (fun h149 => absurd rfl h149)
  refine x_iconst K dX7_readOrder_161 ?_
  refine x_iast K (5 * m + 3) (by omega) rfl ⟨by decide, by decide⟩ (by omega) dX7_readOrder_162 ?_
  refine gWX.eq (gPz_o _ _ _ _ _ _ (by omega)) ?_
  refine x_aload_0 K dX7_readOrder_163 ?_
  refine x_getC K gfRX7_36 ⟨by decide, (by decide)⟩ dX7_readOrder_164 ?_
  refine x_iload_2 K dX7_readOrder_167 ?_
  refine x_iconst K dX7_readOrder_168 ?_
  refine x_iadd K dX7_readOrder_169 ?_
  refine x_iload_1 K dX7_readOrder_170 ?_
  refine x_bipush K dX7_readOrder_171 rfl ?_
  refine x_icmp_ne (tgt := 185) K (by omega) dX7_readOrder_173 (by decide) (fun h173 => ?_) (fun h173 => absurd h173 (by omega))
  refine x_iload_1 K dX7_readOrder_185 ?_
  refine x_bipush K dX7_readOrder_186 rfl ?_
  refine x_icmp_ne (tgt := 200) K (by omega) dX7_readOrder_188 (by decide) (fun h188 => ?_) (fun h188 => absurd h188 (by omega))
  refine x_iconst K dX7_readOrder_200 ?_
  refine x_iast K (5 * m + 4) (by omega) rfl ⟨by decide, by decide⟩ (by omega) dX7_readOrder_201 ?_
  refine gWX.eq (gPz_o _ _ _ _ _ _ (by omega)) ?_
  refine x_aload_0 K dX7_readOrder_202 ?_
  refine x_dup K dX7_readOrder_203 rfl ?_
  refine x_getI K gfRX7_236 ⟨by decide, (by decide)⟩ dX7_readOrder_204 ?_
  refine gWX.top (b := (m : Int)) rfl ?_
  refine x_iconst K dX7_readOrder_207 ?_
  refine x_iadd K dX7_readOrder_208 ?_
  refine x_putI K gpRX7_236 ⟨by decide, (by decide)⟩ dX7_readOrder_209 ?_
  exact x_vret K hE rfl dX7_readOrder_212 (by decide) (by decide) ((gPz_m _ _ _ _ _ _).trans rfl)
theorem c7_readOrder_6 {E : gE} {σ : gS} (T : Nat → Int) (l : Nat) (hI : gI7 σ T l) (s : Nat) (m : Nat) (O : Nat → Int) (hs : s < l) (hm : m < 50) (hc : T s = 109) : gCt E mX7_readOrder 6 0 [rf 14 0] (gPz σ (s : Int) 0 (m : Int) O) (.inl none) (gPz σ ((m_fin T l s 6).1 : Int) (m_fin T l s 6).2 ((m : Int) + 1) (m_O T l s 6 m O)) := by
  refine gCt_of (L := [some (rf 14 0), none, none, none]) (by decide +kernel) rfl rfl (Nat.le_of_ble_eq_true rfl) (fun X K hE => ?_)
  have hI2 := hI.2.1
  have hN := K.2.2.2.2.1
  have hT := hI.2.2 s (by omega)
  have hq0 : m_q l (s + 1, 0) := ⟨by show s + 1 ≤ l; omega, Or.inl rfl⟩
  refine x_aload_0 K dX7_readOrder_0 ?_
  refine x_getI K gfRX7_211 ⟨by decide, (by decide)⟩ dX7_readOrder_1 ?_
  refine gWX.top (b := 0) rfl ?_
  refine x_if_ne (tgt := 18) K (by omega) dX7_readOrder_4 (by decide) (fun h4 => absurd rfl h4) (fun h4 => ?_)
  refine x_aload_0 K dX7_readOrder_7 ?_
  refine x_getI K gfRX7_214 ⟨by decide, (by decide)⟩ dX7_readOrder_8 ?_
  refine gWX.top (b := (s : Int)) rfl ?_
  refine x_aload_0 K dX7_readOrder_11 ?_
  refine x_getI K gfRX7_209 ⟨by decide, (by decide)⟩ dX7_readOrder_12 ?_
  refine gWX.top (b := (l : Int)) hI.1 ?_
  refine x_icmp_ne (tgt := 23) K (by omega) dX7_readOrder_15 (by decide) (fun h15 => ?_) (fun h15 => absurd h15 (by omega))
  refine x_aload_0 K dX7_readOrder_23 ?_
  refine x_getC K gfRX7_29 ⟨by decide, (by decide)⟩ dX7_readOrder_24 ?_
  refine x_aload_0 K dX7_readOrder_27 ?_
  refine x_getI K gfRX7_214 ⟨by decide, (by decide)⟩ dX7_readOrder_28 ?_
  refine gWX.top (b := (s : Int)) rfl ?_
  refine x_cald K s rfl rfl ⟨by decide, by decide⟩ (by omega) dX7_readOrder_31 ?_
  refine gWX.top (b := 109) (hT.1.trans hc) ?_
  refine x_istore_1 K dX7_readOrder_32 rfl ?_
  refine x_aload_0 K dX7_readOrder_33 ?_
  refine x_ldcS K (own := "ScrollChecksModel") (tx := "wexscmf") rfl (g_mem 1731 (by decide +kernel)) gLt_w.1 dX7_readOrder_34 ?_
  refine x_iload_1 K dX7_readOrder_36 ?_
  refine x_callK1 K (cJ0_indexOf (gTa E gLt) 7 (fun j => gLb.getD j 0) (gL_str hN).2 ⟨by omega, by omega⟩ gLb_b (109) (by omega)) mtJ0_indexOf_0f7a4 miJ0_indexOf_0f7a4 (gStr_O (gL_str hN).2) lkRX7_231 ⟨by decide, by decide, by decide⟩ rfl (Nat.le_of_ble_eq_true rfl) dX7_readOrder_37 ?_
  have bix := m_ix_bd (109)
  have hix := (m_ix 109 (by omega)).mpr ⟨6, by omega, by omega, by decide⟩
  refine x_if_ge (tgt := 47) K (by omega) dX7_readOrder_40 (by decide) (fun h40 => ?_) (fun h40 => absurd h40 (by omega))
  refine x_iconst K dX7_readOrder_47 ?_
  refine x_putZ K gpRX7_211 ⟨by decide, (by decide)⟩ (by omega) dX7_readOrder_48 ?_
  refine gWX.eq (σ' := gPz σ (s : Int) 0 (m : Int) O) (gPz_b _ _ _ _ _ _) ?_
  refine x_aload_0 K dX7_readOrder_51 ?_
  refine x_getI K gfRX7_211 ⟨by decide, (by decide)⟩ dX7_readOrder_52 ?_
  refine gWX.top (b := 0) rfl ?_
  refine x_if_eq (tgt := 59) K (by omega) dX7_readOrder_55 (by decide) (fun h55 => ?_) (fun h55 => absurd rfl h55)
  refine x_aload_0 K dX7_readOrder_59 ?_
  refine x_dup K dX7_readOrder_60 rfl ?_
  refine x_getI K gfRX7_214 ⟨by decide, (by decide)⟩ dX7_readOrder_61 ?_
  refine x_iconst K dX7_readOrder_64 ?_
  refine x_iadd K dX7_readOrder_65 ?_
  refine x_putI K gpRX7_214 ⟨by decide, (by decide)⟩ dX7_readOrder_66 ?_
  refine gWX.eq (σ' := gPz σ ((s : Int) + 1) 0 (m : Int) O) (gPz_p _ _ _ _ _ _) ?_
  refine x_iconst K dX7_readOrder_69 ?_
  refine x_aload_0 K dX7_readOrder_70 ?_
  refine x_getI K gfRX7_236 ⟨by decide, (by decide)⟩ dX7_readOrder_71 ?_
  refine gWX.top (b := (m : Int)) rfl ?_
  refine x_imul K dX7_readOrder_74 ?_
  refine x_istore_2 K dX7_readOrder_75 rfl ?_
  refine x_iload_1 K dX7_readOrder_76 ?_
  refine x_bipush K dX7_readOrder_77 rfl ?_
  refine x_icmp_eq (tgt := 94) K (by omega) dX7_readOrder_79 (by decide) (fun h79 => absurd h79 (by omega)) (fun h79 => ?_)
  refine x_iload_1 K dX7_readOrder_82 ?_
  refine x_bipush K dX7_readOrder_83 rfl ?_
  refine x_icmp_eq (tgt := 94) K (by omega) dX7_readOrder_85 (by decide) (fun h85 => absurd h85 (by omega)) (fun h85 => ?_)
  refine x_iload_1 K dX7_readOrder_88 ?_
  refine x_bipush K dX7_readOrder_89 rfl ?_
  refine x_icmp_ne (tgt := 98) K (by omega) dX7_readOrder_91 (by decide) (fun h91 => ?_) (fun h91 => absurd h91 (by omega))
  refine x_iconst K dX7_readOrder_98 ?_
  refine x_istore_3 K dX7_readOrder_99 rfl ?_
  refine x_aload_0 K dX7_readOrder_100 ?_
  refine x_getC K gfRX7_36 ⟨by decide, (by decide)⟩ dX7_readOrder_101 ?_
  refine x_iload_2 K dX7_readOrder_104 ?_
  refine x_iload_1 K dX7_readOrder_105 ?_
  refine x_iast K (5 * m) (by omega) rfl ⟨by decide, by decide⟩ (by omega) dX7_readOrder_106 ?_
  refine gWX.eq (gPz_o _ _ _ _ _ _ (by omega)) ?_
  refine x_aload_0 K dX7_readOrder_107 ?_
  refine x_getC K gfRX7_36 ⟨by decide, (by decide)⟩ dX7_readOrder_108 ?_
  refine x_iload_2 K dX7_readOrder_111 ?_
  refine x_iconst K dX7_readOrder_112 ?_
  refine x_iadd K dX7_readOrder_113 ?_
  refine x_aload_0 K dX7_readOrder_114 ?_
  refine x_callV0 K (c7_digit T l hI (s + 1, 0) hq0 (m : Int) _) mtX7_digit miX7_digit rc14 ⟨by decide, (by decide)⟩ lkRX7_225 ⟨by decide, by decide, by decide⟩ rfl (Nat.le_of_ble_eq_true rfl) dX7_readOrder_115 ?_
  refine x_iast K (5 * m + 1) (by omega) rfl ⟨by decide, by decide⟩ (by omega) dX7_readOrder_118 ?_
  refine gWX.eq (gPz_o _ _ _ _ _ _ (by omega)) ?_
  refine x_aload_0 K dX7_readOrder_119 ?_
  refine x_getC K gfRX7_36 ⟨by decide, (by decide)⟩ dX7_readOrder_120 ?_
  refine x_iload_2 K dX7_readOrder_123 ?_
  refine x_iconst K dX7_readOrder_124 ?_
  refine x_iadd K dX7_readOrder_125 ?_
  refine x_iload_3 K dX7_readOrder_126 ?_
  refine x_if_eq (tgt := 139) K (by omega) dX7_readOrder_127 (by decide) (fun h127 => ?_) (fun h127 => absurd rfl h127)
  refine x_iconst K dX7_readOrder_139 ?_
  refine x_iast K (5 * m + 2) (by omega) rfl ⟨by decide, by decide⟩ (by omega) dX7_readOrder_140 ?_
  refine gWX.eq (gPz_o _ _ _ _ _ _ (by omega)) ?_
  refine x_aload_0 K dX7_readOrder_141 ?_
  refine x_getC K gfRX7_36 ⟨by decide, (by decide)⟩ dX7_readOrder_142 ?_
  refine x_iload_2 K dX7_readOrder_145 ?_
  refine x_iconst K dX7_readOrder_146 ?_
  refine x_iadd K dX7_readOrder_147 ?_
  refine x_iload_3 K dX7_readOrder_148 ?_
  refine x_if_eq (tgt := 161) K (by omega) dX7_readOrder_149 (by decide) (fun h149 => ?_) (fun h149 => absurd rfl h149)
  refine x_iconst K dX7_readOrder_161 ?_
  refine x_iast K (5 * m + 3) (by omega) rfl ⟨by decide, by decide⟩ (by omega) dX7_readOrder_162 ?_
  refine gWX.eq (gPz_o _ _ _ _ _ _ (by omega)) ?_
  refine x_aload_0 K dX7_readOrder_163 ?_
  refine x_getC K gfRX7_36 ⟨by decide, (by decide)⟩ dX7_readOrder_164 ?_
  refine x_iload_2 K dX7_readOrder_167 ?_
  refine x_iconst K dX7_readOrder_168 ?_
  refine x_iadd K dX7_readOrder_169 ?_
  refine x_iload_1 K dX7_readOrder_170 ?_
  refine x_bipush K dX7_readOrder_171 rfl ?_
  refine x_icmp_ne (tgt := 185) K (by omega) dX7_readOrder_173 (by decide) (fun h173 => ?_) (fun h173 => absurd h173 (by omega))
  refine x_iload_1 K dX7_readOrder_185 ?_
  refine x_bipush K dX7_readOrder_186 rfl ?_
  refine x_icmp_ne (tgt := 200) K (by omega) dX7_readOrder_188 (by decide) (fun h188 => ?_) (fun h188 => absurd h188 (by omega))
  refine x_iconst K dX7_readOrder_200 ?_
  refine x_iast K (5 * m + 4) (by omega) rfl ⟨by decide, by decide⟩ (by omega) dX7_readOrder_201 ?_
  refine gWX.eq (gPz_o _ _ _ _ _ _ (by omega)) ?_
  refine x_aload_0 K dX7_readOrder_202 ?_
  refine x_dup K dX7_readOrder_203 rfl ?_
  refine x_getI K gfRX7_236 ⟨by decide, (by decide)⟩ dX7_readOrder_204 ?_
  refine gWX.top (b := (m : Int)) rfl ?_
  refine x_iconst K dX7_readOrder_207 ?_
  refine x_iadd K dX7_readOrder_208 ?_
  refine x_putI K gpRX7_236 ⟨by decide, (by decide)⟩ dX7_readOrder_209 ?_
  exact x_vret K hE rfl dX7_readOrder_212 (by decide) (by decide) ((gPz_m _ _ _ _ _ _).trans rfl)
theorem c7_readOrder_7 {E : gE} {σ : gS} (T : Nat → Int) (l : Nat) (hI : gI7 σ T l) (s : Nat) (m : Nat) (O : Nat → Int) (hs : s < l) (hm : m < 50) (hc : T s = 102) : gCt E mX7_readOrder 6 0 [rf 14 0] (gPz σ (s : Int) 0 (m : Int) O) (.inl none) (gPz σ ((m_fin T l s 7).1 : Int) (m_fin T l s 7).2 ((m : Int) + 1) (m_O T l s 7 m O)) := by
  refine gCt_of (L := [some (rf 14 0), none, none, none]) (by decide +kernel) rfl rfl (Nat.le_of_ble_eq_true rfl) (fun X K hE => ?_)
  have hI2 := hI.2.1
  have hN := K.2.2.2.2.1
  have hT := hI.2.2 s (by omega)
  have hq0 : m_q l (s + 1, 0) := ⟨by show s + 1 ≤ l; omega, Or.inl rfl⟩
  refine x_aload_0 K dX7_readOrder_0 ?_
  refine x_getI K gfRX7_211 ⟨by decide, (by decide)⟩ dX7_readOrder_1 ?_
  refine gWX.top (b := 0) rfl ?_
  refine x_if_ne (tgt := 18) K (by omega) dX7_readOrder_4 (by decide) (fun h4 => absurd rfl h4) (fun h4 => ?_)
  refine x_aload_0 K dX7_readOrder_7 ?_
  refine x_getI K gfRX7_214 ⟨by decide, (by decide)⟩ dX7_readOrder_8 ?_
  refine gWX.top (b := (s : Int)) rfl ?_
  refine x_aload_0 K dX7_readOrder_11 ?_
  refine x_getI K gfRX7_209 ⟨by decide, (by decide)⟩ dX7_readOrder_12 ?_
  refine gWX.top (b := (l : Int)) hI.1 ?_
  refine x_icmp_ne (tgt := 23) K (by omega) dX7_readOrder_15 (by decide) (fun h15 => ?_) (fun h15 => absurd h15 (by omega))
  refine x_aload_0 K dX7_readOrder_23 ?_
  refine x_getC K gfRX7_29 ⟨by decide, (by decide)⟩ dX7_readOrder_24 ?_
  refine x_aload_0 K dX7_readOrder_27 ?_
  refine x_getI K gfRX7_214 ⟨by decide, (by decide)⟩ dX7_readOrder_28 ?_
  refine gWX.top (b := (s : Int)) rfl ?_
  refine x_cald K s rfl rfl ⟨by decide, by decide⟩ (by omega) dX7_readOrder_31 ?_
  refine gWX.top (b := 102) (hT.1.trans hc) ?_
  refine x_istore_1 K dX7_readOrder_32 rfl ?_
  refine x_aload_0 K dX7_readOrder_33 ?_
  refine x_ldcS K (own := "ScrollChecksModel") (tx := "wexscmf") rfl (g_mem 1731 (by decide +kernel)) gLt_w.1 dX7_readOrder_34 ?_
  refine x_iload_1 K dX7_readOrder_36 ?_
  refine x_callK1 K (cJ0_indexOf (gTa E gLt) 7 (fun j => gLb.getD j 0) (gL_str hN).2 ⟨by omega, by omega⟩ gLb_b (102) (by omega)) mtJ0_indexOf_0f7a4 miJ0_indexOf_0f7a4 (gStr_O (gL_str hN).2) lkRX7_231 ⟨by decide, by decide, by decide⟩ rfl (Nat.le_of_ble_eq_true rfl) dX7_readOrder_37 ?_
  have bix := m_ix_bd (102)
  have hix := (m_ix 102 (by omega)).mpr ⟨7, by omega, by omega, by decide⟩
  refine x_if_ge (tgt := 47) K (by omega) dX7_readOrder_40 (by decide) (fun h40 => ?_) (fun h40 => absurd h40 (by omega))
  refine x_iconst K dX7_readOrder_47 ?_
  refine x_putZ K gpRX7_211 ⟨by decide, (by decide)⟩ (by omega) dX7_readOrder_48 ?_
  refine gWX.eq (σ' := gPz σ (s : Int) 0 (m : Int) O) (gPz_b _ _ _ _ _ _) ?_
  refine x_aload_0 K dX7_readOrder_51 ?_
  refine x_getI K gfRX7_211 ⟨by decide, (by decide)⟩ dX7_readOrder_52 ?_
  refine gWX.top (b := 0) rfl ?_
  refine x_if_eq (tgt := 59) K (by omega) dX7_readOrder_55 (by decide) (fun h55 => ?_) (fun h55 => absurd rfl h55)
  refine x_aload_0 K dX7_readOrder_59 ?_
  refine x_dup K dX7_readOrder_60 rfl ?_
  refine x_getI K gfRX7_214 ⟨by decide, (by decide)⟩ dX7_readOrder_61 ?_
  refine x_iconst K dX7_readOrder_64 ?_
  refine x_iadd K dX7_readOrder_65 ?_
  refine x_putI K gpRX7_214 ⟨by decide, (by decide)⟩ dX7_readOrder_66 ?_
  refine gWX.eq (σ' := gPz σ ((s : Int) + 1) 0 (m : Int) O) (gPz_p _ _ _ _ _ _) ?_
  refine x_iconst K dX7_readOrder_69 ?_
  refine x_aload_0 K dX7_readOrder_70 ?_
  refine x_getI K gfRX7_236 ⟨by decide, (by decide)⟩ dX7_readOrder_71 ?_
  refine gWX.top (b := (m : Int)) rfl ?_
  refine x_imul K dX7_readOrder_74 ?_
  refine x_istore_2 K dX7_readOrder_75 rfl ?_
  refine x_iload_1 K dX7_readOrder_76 ?_
  refine x_bipush K dX7_readOrder_77 rfl ?_
  refine x_icmp_eq (tgt := 94) K (by omega) dX7_readOrder_79 (by decide) (fun h79 => absurd h79 (by omega)) (fun h79 => ?_)
  refine x_iload_1 K dX7_readOrder_82 ?_
  refine x_bipush K dX7_readOrder_83 rfl ?_
  refine x_icmp_eq (tgt := 94) K (by omega) dX7_readOrder_85 (by decide) (fun h85 => absurd h85 (by omega)) (fun h85 => ?_)
  refine x_iload_1 K dX7_readOrder_88 ?_
  refine x_bipush K dX7_readOrder_89 rfl ?_
  refine x_icmp_ne (tgt := 98) K (by omega) dX7_readOrder_91 (by decide) (fun h91 => ?_) (fun h91 => absurd h91 (by omega))
  refine x_iconst K dX7_readOrder_98 ?_
  refine x_istore_3 K dX7_readOrder_99 rfl ?_
  refine x_aload_0 K dX7_readOrder_100 ?_
  refine x_getC K gfRX7_36 ⟨by decide, (by decide)⟩ dX7_readOrder_101 ?_
  refine x_iload_2 K dX7_readOrder_104 ?_
  refine x_iload_1 K dX7_readOrder_105 ?_
  refine x_iast K (5 * m) (by omega) rfl ⟨by decide, by decide⟩ (by omega) dX7_readOrder_106 ?_
  refine gWX.eq (gPz_o _ _ _ _ _ _ (by omega)) ?_
  refine x_aload_0 K dX7_readOrder_107 ?_
  refine x_getC K gfRX7_36 ⟨by decide, (by decide)⟩ dX7_readOrder_108 ?_
  refine x_iload_2 K dX7_readOrder_111 ?_
  refine x_iconst K dX7_readOrder_112 ?_
  refine x_iadd K dX7_readOrder_113 ?_
  refine x_aload_0 K dX7_readOrder_114 ?_
  refine x_callV0 K (c7_digit T l hI (s + 1, 0) hq0 (m : Int) _) mtX7_digit miX7_digit rc14 ⟨by decide, (by decide)⟩ lkRX7_225 ⟨by decide, by decide, by decide⟩ rfl (Nat.le_of_ble_eq_true rfl) dX7_readOrder_115 ?_
  refine x_iast K (5 * m + 1) (by omega) rfl ⟨by decide, by decide⟩ (by omega) dX7_readOrder_118 ?_
  refine gWX.eq (gPz_o _ _ _ _ _ _ (by omega)) ?_
  refine x_aload_0 K dX7_readOrder_119 ?_
  refine x_getC K gfRX7_36 ⟨by decide, (by decide)⟩ dX7_readOrder_120 ?_
  refine x_iload_2 K dX7_readOrder_123 ?_
  refine x_iconst K dX7_readOrder_124 ?_
  refine x_iadd K dX7_readOrder_125 ?_
  refine x_iload_3 K dX7_readOrder_126 ?_
  refine x_if_eq (tgt := 139) K (by omega) dX7_readOrder_127 (by decide) (fun h127 => ?_) (fun h127 => absurd rfl h127)
  refine x_iconst K dX7_readOrder_139 ?_
  refine x_iast K (5 * m + 2) (by omega) rfl ⟨by decide, by decide⟩ (by omega) dX7_readOrder_140 ?_
  refine gWX.eq (gPz_o _ _ _ _ _ _ (by omega)) ?_
  refine x_aload_0 K dX7_readOrder_141 ?_
  refine x_getC K gfRX7_36 ⟨by decide, (by decide)⟩ dX7_readOrder_142 ?_
  refine x_iload_2 K dX7_readOrder_145 ?_
  refine x_iconst K dX7_readOrder_146 ?_
  refine x_iadd K dX7_readOrder_147 ?_
  refine x_iload_3 K dX7_readOrder_148 ?_
  refine x_if_eq (tgt := 161) K (by omega) dX7_readOrder_149 (by decide) (fun h149 => ?_) (fun h149 => absurd rfl h149)
  refine x_iconst K dX7_readOrder_161 ?_
  refine x_iast K (5 * m + 3) (by omega) rfl ⟨by decide, by decide⟩ (by omega) dX7_readOrder_162 ?_
  refine gWX.eq (gPz_o _ _ _ _ _ _ (by omega)) ?_
  refine x_aload_0 K dX7_readOrder_163 ?_
  refine x_getC K gfRX7_36 ⟨by decide, (by decide)⟩ dX7_readOrder_164 ?_
  refine x_iload_2 K dX7_readOrder_167 ?_
  refine x_iconst K dX7_readOrder_168 ?_
  refine x_iadd K dX7_readOrder_169 ?_
  refine x_iload_1 K dX7_readOrder_170 ?_
  refine x_bipush K dX7_readOrder_171 rfl ?_
  refine x_icmp_ne (tgt := 185) K (by omega) dX7_readOrder_173 (by decide) (fun h173 => ?_) (fun h173 => absurd h173 (by omega))
  refine x_iload_1 K dX7_readOrder_185 ?_
  refine x_bipush K dX7_readOrder_186 rfl ?_
  refine x_icmp_ne (tgt := 200) K (by omega) dX7_readOrder_188 (by decide) (fun h188 => ?_) (fun h188 => absurd h188 (by omega))
  refine x_iconst K dX7_readOrder_200 ?_
  refine x_iast K (5 * m + 4) (by omega) rfl ⟨by decide, by decide⟩ (by omega) dX7_readOrder_201 ?_
  refine gWX.eq (gPz_o _ _ _ _ _ _ (by omega)) ?_
  refine x_aload_0 K dX7_readOrder_202 ?_
  refine x_dup K dX7_readOrder_203 rfl ?_
  refine x_getI K gfRX7_236 ⟨by decide, (by decide)⟩ dX7_readOrder_204 ?_
  refine gWX.top (b := (m : Int)) rfl ?_
  refine x_iconst K dX7_readOrder_207 ?_
  refine x_iadd K dX7_readOrder_208 ?_
  refine x_putI K gpRX7_236 ⟨by decide, (by decide)⟩ dX7_readOrder_209 ?_
  exact x_vret K hE rfl dX7_readOrder_212 (by decide) (by decide) ((gPz_m _ _ _ _ _ _).trans rfl)
def m_ro (T : Nat → Int) (l s m : Nat) (O : Nat → Int) : (Nat × Int) × Nat × (Nat → Int) := if t_dd T l (s : Int) = 0 then ((s, 1), m, O) else (m_fin T l s (t_dd T l (s : Int)), m + 1, m_O T l s (t_dd T l (s : Int)) m O)
abbrev gPrs (σ : gS) (r : (Nat × Int) × Nat × (Nat → Int)) : gS := gPz σ (r.1.1 : Int) r.1.2 (r.2.1 : Int) r.2.2
theorem c7_readOrder {E : gE} {σ : gS} (T : Nat → Int) (l : Nat) (hI : gI7 σ T l) (s m : Nat) (O : Nat → Int) (hs : s ≤ l) (hm : m < 50) : gCt E mX7_readOrder 6 0 [rf 14 0] (gPz σ (s : Int) 0 (m : Int) O) (.inl none) (gPrs σ (m_ro T l s m O)) := by
  have hsp := t_dd_spec T l (s : Int)
  by_cases q : t_dd T l (s : Int) = 0
  · have e : m_ro T l s m O = ((s, 1), m, O) := if_pos q
    rw [e]
    exact c7_readOrder_0 T l hI s m O hs q
  · have e : m_ro T l s m O = (m_fin T l s (t_dd T l (s : Int)), m + 1, m_O T l s (t_dd T l (s : Int)) m O) := if_neg q
    rw [e]
    obtain ⟨h8, h1, _⟩ := hsp
    have hi := h1 q
    have hsl : s < l := by have := hi.1; omega
    have hc := (t_at_nat hsl).symm.trans hi.2
    obtain ⟨v1, v2, v3, v4, v5, v6, v7⟩ := gD1_v
    generalize t_dd T l (s : Int) = d at *
    obtain rfl | rfl | rfl | rfl | rfl | rfl | rfl : d = 1 ∨ d = 2 ∨ d = 3 ∨ d = 4 ∨ d = 5 ∨ d = 6 ∨ d = 7 := by omega
    · exact c7_readOrder_1 T l hI s m O hsl hm (hc.trans v1)
    · exact c7_readOrder_2 T l hI s m O hsl hm (hc.trans v2)
    · exact c7_readOrder_3 T l hI s m O hsl hm (hc.trans v3)
    · exact c7_readOrder_4 T l hI s m O hsl hm (hc.trans v4)
    · exact c7_readOrder_5 T l hI s m O hsl hm (hc.trans v5)
    · exact c7_readOrder_6 T l hI s m O hsl hm (hc.trans v6)
    · exact c7_readOrder_7 T l hI s m O hsl hm (hc.trans v7)
theorem c7_does_1 {E : gE} {σ : gS} (Y : Nat → Int) (h : gMs σ Y) (hY : gY Y) (k : Nat) (hk : k < 50) (a b c e : Int) (ha : 0 ≤ a ∧ a ≤ 9) (hb : 0 ≤ b ∧ b ≤ 9) (hc : 0 ≤ c ∧ c ≤ 9) (he : 0 ≤ e ∧ e ≤ 9) (h0 : σ.1 22 0 (5 * k) = 119) (h1 : σ.1 22 0 (5 * k + 1) = a) (h2 : σ.1 22 0 (5 * k + 2) = b) (h3 : σ.1 22 0 (5 * k + 3) = c) (h4 : σ.1 22 0 (5 * k + 4) = e) : gCt E mX7_does 11 0 [rf 14 0, iv (k : Int)] σ (.inl none) (gMO 1 σ Y a b c e) := by
  refine gCt_of (L := [some (rf 14 0), some (iv (k : Int)), none, none, none, none]) (by decide +kernel) rfl rfl (Nat.le_of_ble_eq_true rfl) (fun X K hE => ?_)
  refine x_aload_0 K dX7_does_0 ?_
  refine x_getC K gfRX7_36 ⟨by decide, (by decide)⟩ dX7_does_1 ?_
  refine x_iconst K dX7_does_4 ?_
  refine x_iload_1 K dX7_does_5 ?_
  refine x_imul K dX7_does_6 ?_
  refine x_iconst K dX7_does_7 ?_
  refine x_iadd K dX7_does_8 ?_
  refine x_iald K (5 * k + 1) (by omega) rfl ⟨by decide, by decide⟩ (by omega) dX7_does_9 ?_
  refine gWX.top (b := a) h1 ?_
  refine x_istore_2 K dX7_does_10 rfl ?_
  refine x_aload_0 K dX7_does_11 ?_
  refine x_getC K gfRX7_36 ⟨by decide, (by decide)⟩ dX7_does_12 ?_
  refine x_iconst K dX7_does_15 ?_
  refine x_iload_1 K dX7_does_16 ?_
  refine x_imul K dX7_does_17 ?_
  refine x_iconst K dX7_does_18 ?_
  refine x_iadd K dX7_does_19 ?_
  refine x_iald K (5 * k + 2) (by omega) rfl ⟨by decide, by decide⟩ (by omega) dX7_does_20 ?_
  refine gWX.top (b := b) h2 ?_
  refine x_istore_3 K dX7_does_21 rfl ?_
  refine x_aload_0 K dX7_does_22 ?_
  refine x_getC K gfRX7_36 ⟨by decide, (by decide)⟩ dX7_does_23 ?_
  refine x_iconst K dX7_does_26 ?_
  refine x_iload_1 K dX7_does_27 ?_
  refine x_imul K dX7_does_28 ?_
  refine x_iconst K dX7_does_29 ?_
  refine x_iadd K dX7_does_30 ?_
  refine x_iald K (5 * k + 3) (by omega) rfl ⟨by decide, by decide⟩ (by omega) dX7_does_31 ?_
  refine gWX.top (b := c) h3 ?_
  refine x_istore_4 K dX7_does_32 rfl ?_
  refine x_aload_0 K dX7_does_34 ?_
  refine x_getC K gfRX7_36 ⟨by decide, (by decide)⟩ dX7_does_35 ?_
  refine x_iconst K dX7_does_38 ?_
  refine x_iload_1 K dX7_does_39 ?_
  refine x_imul K dX7_does_40 ?_
  refine x_iald K (5 * k) (by omega) rfl ⟨by decide, by decide⟩ (by omega) dX7_does_41 ?_
  refine gWX.top (b := 119) h0 ?_
  refine x_lookup (tgt := 100) K (by omega) (by decide) rfl dX7_does_42 (by decide) ?_
  refine x_aload_0 K dX7_does_100 ?_
  refine x_iload_2 K dX7_does_101 ?_
  refine x_iload_3 K dX7_does_102 ?_
  refine x_iload_4 K dX7_does_103 ?_
  refine x_aload_0 K dX7_does_105 ?_
  refine x_getC K gfRX7_36 ⟨by decide, (by decide)⟩ dX7_does_106 ?_
  refine x_iconst K dX7_does_109 ?_
  refine x_iload_1 K dX7_does_110 ?_
  refine x_imul K dX7_does_111 ?_
  refine x_iconst K dX7_does_112 ?_
  refine x_iadd K dX7_does_113 ?_
  refine x_iald K (5 * k + 4) (by omega) rfl ⟨by decide, by decide⟩ (by omega) dX7_does_114 ?_
  refine gWX.top (b := e) h4 ?_
  refine x_callV4 K (c7_doWrite Y h hY a b c e (by omega) (by omega) (by omega) (by omega)) mtX7_doWrite miX7_doWrite rc14 ⟨by decide, (by decide)⟩ lkRX7_144 ⟨by decide, by decide, by decide⟩ rfl (Nat.le_of_ble_eq_true rfl) dX7_does_115 ?_
  refine x_istore_5 K dX7_does_118 rfl ?_
  refine x_goto (tgt := 196) K dX7_does_120 (by decide) ?_
  exact x_vret K hE rfl dX7_does_196 (by decide) (by decide) rfl
theorem c7_does_2 {E : gE} {σ : gS} (Y : Nat → Int) (h : gMs σ Y) (hY : gY Y) (k : Nat) (hk : k < 50) (a b c e : Int) (ha : 0 ≤ a ∧ a ≤ 9) (hb : 0 ≤ b ∧ b ≤ 9) (hc : 0 ≤ c ∧ c ≤ 9) (he : 0 ≤ e ∧ e ≤ 9) (h0 : σ.1 22 0 (5 * k) = 101) (h1 : σ.1 22 0 (5 * k + 1) = a) (h2 : σ.1 22 0 (5 * k + 2) = b) (h3 : σ.1 22 0 (5 * k + 3) = c) (h4 : σ.1 22 0 (5 * k + 4) = e) : gCt E mX7_does 11 0 [rf 14 0, iv (k : Int)] σ (.inl none) (gMO 2 σ Y a b c e) := by
  refine gCt_of (L := [some (rf 14 0), some (iv (k : Int)), none, none, none, none]) (by decide +kernel) rfl rfl (Nat.le_of_ble_eq_true rfl) (fun X K hE => ?_)
  refine x_aload_0 K dX7_does_0 ?_
  refine x_getC K gfRX7_36 ⟨by decide, (by decide)⟩ dX7_does_1 ?_
  refine x_iconst K dX7_does_4 ?_
  refine x_iload_1 K dX7_does_5 ?_
  refine x_imul K dX7_does_6 ?_
  refine x_iconst K dX7_does_7 ?_
  refine x_iadd K dX7_does_8 ?_
  refine x_iald K (5 * k + 1) (by omega) rfl ⟨by decide, by decide⟩ (by omega) dX7_does_9 ?_
  refine gWX.top (b := a) h1 ?_
  refine x_istore_2 K dX7_does_10 rfl ?_
  refine x_aload_0 K dX7_does_11 ?_
  refine x_getC K gfRX7_36 ⟨by decide, (by decide)⟩ dX7_does_12 ?_
  refine x_iconst K dX7_does_15 ?_
  refine x_iload_1 K dX7_does_16 ?_
  refine x_imul K dX7_does_17 ?_
  refine x_iconst K dX7_does_18 ?_
  refine x_iadd K dX7_does_19 ?_
  refine x_iald K (5 * k + 2) (by omega) rfl ⟨by decide, by decide⟩ (by omega) dX7_does_20 ?_
  refine gWX.top (b := b) h2 ?_
  refine x_istore_3 K dX7_does_21 rfl ?_
  refine x_aload_0 K dX7_does_22 ?_
  refine x_getC K gfRX7_36 ⟨by decide, (by decide)⟩ dX7_does_23 ?_
  refine x_iconst K dX7_does_26 ?_
  refine x_iload_1 K dX7_does_27 ?_
  refine x_imul K dX7_does_28 ?_
  refine x_iconst K dX7_does_29 ?_
  refine x_iadd K dX7_does_30 ?_
  refine x_iald K (5 * k + 3) (by omega) rfl ⟨by decide, by decide⟩ (by omega) dX7_does_31 ?_
  refine gWX.top (b := c) h3 ?_
  refine x_istore_4 K dX7_does_32 rfl ?_
  refine x_aload_0 K dX7_does_34 ?_
  refine x_getC K gfRX7_36 ⟨by decide, (by decide)⟩ dX7_does_35 ?_
  refine x_iconst K dX7_does_38 ?_
  refine x_iload_1 K dX7_does_39 ?_
  refine x_imul K dX7_does_40 ?_
  refine x_iald K (5 * k) (by omega) rfl ⟨by decide, by decide⟩ (by omega) dX7_does_41 ?_
  refine gWX.top (b := 101) h0 ?_
  refine x_lookup (tgt := 123) K (by omega) (by decide) rfl dX7_does_42 (by decide) ?_
  refine x_aload_0 K dX7_does_123 ?_
  refine x_iload_2 K dX7_does_124 ?_
  refine x_iload_3 K dX7_does_125 ?_
  refine x_iload_4 K dX7_does_126 ?_
  refine x_aload_0 K dX7_does_128 ?_
  refine x_getC K gfRX7_36 ⟨by decide, (by decide)⟩ dX7_does_129 ?_
  refine x_iconst K dX7_does_132 ?_
  refine x_iload_1 K dX7_does_133 ?_
  refine x_imul K dX7_does_134 ?_
  refine x_iconst K dX7_does_135 ?_
  refine x_iadd K dX7_does_136 ?_
  refine x_iald K (5 * k + 4) (by omega) rfl ⟨by decide, by decide⟩ (by omega) dX7_does_137 ?_
  refine gWX.top (b := e) h4 ?_
  refine x_callV4 K (c7_doSlip Y h hY a b c e (by omega) (by omega) (by omega) (by omega)) mtX7_doSlip miX7_doSlip rc14 ⟨by decide, (by decide)⟩ lkRX7_154 ⟨by decide, by decide, by decide⟩ rfl (Nat.le_of_ble_eq_true rfl) dX7_does_138 ?_
  refine x_istore_5 K dX7_does_141 rfl ?_
  refine x_goto (tgt := 196) K dX7_does_143 (by decide) ?_
  exact x_vret K hE rfl dX7_does_196 (by decide) (by decide) rfl
theorem c7_does_3 {E : gE} {σ : gS} (Y : Nat → Int) (h : gMs σ Y) (hY : gY Y) (k : Nat) (hk : k < 50) (a b c e : Int) (ha : 0 ≤ a ∧ a ≤ 9) (hb : 0 ≤ b ∧ b ≤ 9) (hc : 0 ≤ c ∧ c ≤ 9) (he : 0 ≤ e ∧ e ≤ 9) (h0 : σ.1 22 0 (5 * k) = 120) (h1 : σ.1 22 0 (5 * k + 1) = a) (h2 : σ.1 22 0 (5 * k + 2) = b) (h3 : σ.1 22 0 (5 * k + 3) = c) (h4 : σ.1 22 0 (5 * k + 4) = e) : gCt E mX7_does 11 0 [rf 14 0, iv (k : Int)] σ (.inl none) (gMO 3 σ Y a b c e) := by
  refine gCt_of (L := [some (rf 14 0), some (iv (k : Int)), none, none, none, none]) (by decide +kernel) rfl rfl (Nat.le_of_ble_eq_true rfl) (fun X K hE => ?_)
  refine x_aload_0 K dX7_does_0 ?_
  refine x_getC K gfRX7_36 ⟨by decide, (by decide)⟩ dX7_does_1 ?_
  refine x_iconst K dX7_does_4 ?_
  refine x_iload_1 K dX7_does_5 ?_
  refine x_imul K dX7_does_6 ?_
  refine x_iconst K dX7_does_7 ?_
  refine x_iadd K dX7_does_8 ?_
  refine x_iald K (5 * k + 1) (by omega) rfl ⟨by decide, by decide⟩ (by omega) dX7_does_9 ?_
  refine gWX.top (b := a) h1 ?_
  refine x_istore_2 K dX7_does_10 rfl ?_
  refine x_aload_0 K dX7_does_11 ?_
  refine x_getC K gfRX7_36 ⟨by decide, (by decide)⟩ dX7_does_12 ?_
  refine x_iconst K dX7_does_15 ?_
  refine x_iload_1 K dX7_does_16 ?_
  refine x_imul K dX7_does_17 ?_
  refine x_iconst K dX7_does_18 ?_
  refine x_iadd K dX7_does_19 ?_
  refine x_iald K (5 * k + 2) (by omega) rfl ⟨by decide, by decide⟩ (by omega) dX7_does_20 ?_
  refine gWX.top (b := b) h2 ?_
  refine x_istore_3 K dX7_does_21 rfl ?_
  refine x_aload_0 K dX7_does_22 ?_
  refine x_getC K gfRX7_36 ⟨by decide, (by decide)⟩ dX7_does_23 ?_
  refine x_iconst K dX7_does_26 ?_
  refine x_iload_1 K dX7_does_27 ?_
  refine x_imul K dX7_does_28 ?_
  refine x_iconst K dX7_does_29 ?_
  refine x_iadd K dX7_does_30 ?_
  refine x_iald K (5 * k + 3) (by omega) rfl ⟨by decide, by decide⟩ (by omega) dX7_does_31 ?_
  refine gWX.top (b := c) h3 ?_
  refine x_istore_4 K dX7_does_32 rfl ?_
  refine x_aload_0 K dX7_does_34 ?_
  refine x_getC K gfRX7_36 ⟨by decide, (by decide)⟩ dX7_does_35 ?_
  refine x_iconst K dX7_does_38 ?_
  refine x_iload_1 K dX7_does_39 ?_
  refine x_imul K dX7_does_40 ?_
  refine x_iald K (5 * k) (by omega) rfl ⟨by decide, by decide⟩ (by omega) dX7_does_41 ?_
  refine gWX.top (b := 120) h0 ?_
  refine x_lookup (tgt := 146) K (by omega) (by decide) rfl dX7_does_42 (by decide) ?_
  refine x_aload_0 K dX7_does_146 ?_
  refine x_iload_2 K dX7_does_147 ?_
  refine x_iload_3 K dX7_does_148 ?_
  refine x_iload_4 K dX7_does_149 ?_
  refine x_callV3 K (c7_doSmudge Y h hY a b c e (by omega) (by omega) (by omega)) mtX7_doSmudge miX7_doSmudge rc14 ⟨by decide, (by decide)⟩ lkRX7_157 ⟨by decide, by decide, by decide⟩ rfl (Nat.le_of_ble_eq_true rfl) dX7_does_151 ?_
  refine x_istore_5 K dX7_does_154 rfl ?_
  refine x_goto (tgt := 196) K dX7_does_156 (by decide) ?_
  exact x_vret K hE rfl dX7_does_196 (by decide) (by decide) rfl
theorem c7_does_4 {E : gE} {σ : gS} (Y : Nat → Int) (h : gMs σ Y) (hY : gY Y) (k : Nat) (hk : k < 50) (a b c e : Int) (ha : 0 ≤ a ∧ a ≤ 9) (hb : 0 ≤ b ∧ b ≤ 9) (hc : 0 ≤ c ∧ c ≤ 9) (he : 0 ≤ e ∧ e ≤ 9) (h0 : σ.1 22 0 (5 * k) = 115) (h1 : σ.1 22 0 (5 * k + 1) = a) (h2 : σ.1 22 0 (5 * k + 2) = b) (h3 : σ.1 22 0 (5 * k + 3) = c) (h4 : σ.1 22 0 (5 * k + 4) = e) : gCt E mX7_does 11 0 [rf 14 0, iv (k : Int)] σ (.inl none) (gMO 4 σ Y a b c e) := by
  refine gCt_of (L := [some (rf 14 0), some (iv (k : Int)), none, none, none, none]) (by decide +kernel) rfl rfl (Nat.le_of_ble_eq_true rfl) (fun X K hE => ?_)
  refine x_aload_0 K dX7_does_0 ?_
  refine x_getC K gfRX7_36 ⟨by decide, (by decide)⟩ dX7_does_1 ?_
  refine x_iconst K dX7_does_4 ?_
  refine x_iload_1 K dX7_does_5 ?_
  refine x_imul K dX7_does_6 ?_
  refine x_iconst K dX7_does_7 ?_
  refine x_iadd K dX7_does_8 ?_
  refine x_iald K (5 * k + 1) (by omega) rfl ⟨by decide, by decide⟩ (by omega) dX7_does_9 ?_
  refine gWX.top (b := a) h1 ?_
  refine x_istore_2 K dX7_does_10 rfl ?_
  refine x_aload_0 K dX7_does_11 ?_
  refine x_getC K gfRX7_36 ⟨by decide, (by decide)⟩ dX7_does_12 ?_
  refine x_iconst K dX7_does_15 ?_
  refine x_iload_1 K dX7_does_16 ?_
  refine x_imul K dX7_does_17 ?_
  refine x_iconst K dX7_does_18 ?_
  refine x_iadd K dX7_does_19 ?_
  refine x_iald K (5 * k + 2) (by omega) rfl ⟨by decide, by decide⟩ (by omega) dX7_does_20 ?_
  refine gWX.top (b := b) h2 ?_
  refine x_istore_3 K dX7_does_21 rfl ?_
  refine x_aload_0 K dX7_does_22 ?_
  refine x_getC K gfRX7_36 ⟨by decide, (by decide)⟩ dX7_does_23 ?_
  refine x_iconst K dX7_does_26 ?_
  refine x_iload_1 K dX7_does_27 ?_
  refine x_imul K dX7_does_28 ?_
  refine x_iconst K dX7_does_29 ?_
  refine x_iadd K dX7_does_30 ?_
  refine x_iald K (5 * k + 3) (by omega) rfl ⟨by decide, by decide⟩ (by omega) dX7_does_31 ?_
  refine gWX.top (b := c) h3 ?_
  refine x_istore_4 K dX7_does_32 rfl ?_
  refine x_aload_0 K dX7_does_34 ?_
  refine x_getC K gfRX7_36 ⟨by decide, (by decide)⟩ dX7_does_35 ?_
  refine x_iconst K dX7_does_38 ?_
  refine x_iload_1 K dX7_does_39 ?_
  refine x_imul K dX7_does_40 ?_
  refine x_iald K (5 * k) (by omega) rfl ⟨by decide, by decide⟩ (by omega) dX7_does_41 ?_
  refine gWX.top (b := 115) h0 ?_
  refine x_lookup (tgt := 159) K (by omega) (by decide) rfl dX7_does_42 (by decide) ?_
  refine x_aload_0 K dX7_does_159 ?_
  refine x_iload_2 K dX7_does_160 ?_
  refine x_callV1 K (c7_doSeal Y h hY a b c e (by omega)) mtX7_doSeal miX7_doSeal rc14 ⟨by decide, (by decide)⟩ lkRX7_148 ⟨by decide, by decide, by decide⟩ rfl (Nat.le_of_ble_eq_true rfl) dX7_does_161 ?_
  refine x_istore_5 K dX7_does_164 rfl ?_
  refine x_goto (tgt := 196) K dX7_does_166 (by decide) ?_
  exact x_vret K hE rfl dX7_does_196 (by decide) (by decide) rfl
theorem c7_does_5 {E : gE} {σ : gS} (Y : Nat → Int) (h : gMs σ Y) (hY : gY Y) (k : Nat) (hk : k < 50) (a b c e : Int) (ha : 0 ≤ a ∧ a ≤ 9) (hb : 0 ≤ b ∧ b ≤ 9) (hc : 0 ≤ c ∧ c ≤ 9) (he : 0 ≤ e ∧ e ≤ 9) (h0 : σ.1 22 0 (5 * k) = 99) (h1 : σ.1 22 0 (5 * k + 1) = a) (h2 : σ.1 22 0 (5 * k + 2) = b) (h3 : σ.1 22 0 (5 * k + 3) = c) (h4 : σ.1 22 0 (5 * k + 4) = e) : gCt E mX7_does 11 0 [rf 14 0, iv (k : Int)] σ (.inl none) (gMO 5 σ Y a b c e) := by
  refine gCt_of (L := [some (rf 14 0), some (iv (k : Int)), none, none, none, none]) (by decide +kernel) rfl rfl (Nat.le_of_ble_eq_true rfl) (fun X K hE => ?_)
  refine x_aload_0 K dX7_does_0 ?_
  refine x_getC K gfRX7_36 ⟨by decide, (by decide)⟩ dX7_does_1 ?_
  refine x_iconst K dX7_does_4 ?_
  refine x_iload_1 K dX7_does_5 ?_
  refine x_imul K dX7_does_6 ?_
  refine x_iconst K dX7_does_7 ?_
  refine x_iadd K dX7_does_8 ?_
  refine x_iald K (5 * k + 1) (by omega) rfl ⟨by decide, by decide⟩ (by omega) dX7_does_9 ?_
  refine gWX.top (b := a) h1 ?_
  refine x_istore_2 K dX7_does_10 rfl ?_
  refine x_aload_0 K dX7_does_11 ?_
  refine x_getC K gfRX7_36 ⟨by decide, (by decide)⟩ dX7_does_12 ?_
  refine x_iconst K dX7_does_15 ?_
  refine x_iload_1 K dX7_does_16 ?_
  refine x_imul K dX7_does_17 ?_
  refine x_iconst K dX7_does_18 ?_
  refine x_iadd K dX7_does_19 ?_
  refine x_iald K (5 * k + 2) (by omega) rfl ⟨by decide, by decide⟩ (by omega) dX7_does_20 ?_
  refine gWX.top (b := b) h2 ?_
  refine x_istore_3 K dX7_does_21 rfl ?_
  refine x_aload_0 K dX7_does_22 ?_
  refine x_getC K gfRX7_36 ⟨by decide, (by decide)⟩ dX7_does_23 ?_
  refine x_iconst K dX7_does_26 ?_
  refine x_iload_1 K dX7_does_27 ?_
  refine x_imul K dX7_does_28 ?_
  refine x_iconst K dX7_does_29 ?_
  refine x_iadd K dX7_does_30 ?_
  refine x_iald K (5 * k + 3) (by omega) rfl ⟨by decide, by decide⟩ (by omega) dX7_does_31 ?_
  refine gWX.top (b := c) h3 ?_
  refine x_istore_4 K dX7_does_32 rfl ?_
  refine x_aload_0 K dX7_does_34 ?_
  refine x_getC K gfRX7_36 ⟨by decide, (by decide)⟩ dX7_does_35 ?_
  refine x_iconst K dX7_does_38 ?_
  refine x_iload_1 K dX7_does_39 ?_
  refine x_imul K dX7_does_40 ?_
  refine x_iald K (5 * k) (by omega) rfl ⟨by decide, by decide⟩ (by omega) dX7_does_41 ?_
  refine gWX.top (b := 99) h0 ?_
  refine x_lookup (tgt := 169) K (by omega) (by decide) rfl dX7_does_42 (by decide) ?_
  refine x_aload_0 K dX7_does_169 ?_
  refine x_iload_2 K dX7_does_170 ?_
  refine x_callV1 K (c7_doCopy Y h hY a b c e (by omega)) mtX7_doCopy miX7_doCopy rc14 ⟨by decide, (by decide)⟩ lkRX7_151 ⟨by decide, by decide, by decide⟩ rfl (Nat.le_of_ble_eq_true rfl) dX7_does_171 ?_
  refine x_istore_5 K dX7_does_174 rfl ?_
  refine x_goto (tgt := 196) K dX7_does_176 (by decide) ?_
  exact x_vret K hE rfl dX7_does_196 (by decide) (by decide) rfl
theorem c7_does_6 {E : gE} {σ : gS} (Y : Nat → Int) (h : gMs σ Y) (hY : gY Y) (k : Nat) (hk : k < 50) (a b c e : Int) (ha : 0 ≤ a ∧ a ≤ 9) (hb : 0 ≤ b ∧ b ≤ 9) (hc : 0 ≤ c ∧ c ≤ 9) (he : 0 ≤ e ∧ e ≤ 9) (h0 : σ.1 22 0 (5 * k) = 109) (h1 : σ.1 22 0 (5 * k + 1) = a) (h2 : σ.1 22 0 (5 * k + 2) = b) (h3 : σ.1 22 0 (5 * k + 3) = c) (h4 : σ.1 22 0 (5 * k + 4) = e) : gCt E mX7_does 11 0 [rf 14 0, iv (k : Int)] σ (.inl none) (gMO 6 σ Y a b c e) := by
  refine gCt_of (L := [some (rf 14 0), some (iv (k : Int)), none, none, none, none]) (by decide +kernel) rfl rfl (Nat.le_of_ble_eq_true rfl) (fun X K hE => ?_)
  refine x_aload_0 K dX7_does_0 ?_
  refine x_getC K gfRX7_36 ⟨by decide, (by decide)⟩ dX7_does_1 ?_
  refine x_iconst K dX7_does_4 ?_
  refine x_iload_1 K dX7_does_5 ?_
  refine x_imul K dX7_does_6 ?_
  refine x_iconst K dX7_does_7 ?_
  refine x_iadd K dX7_does_8 ?_
  refine x_iald K (5 * k + 1) (by omega) rfl ⟨by decide, by decide⟩ (by omega) dX7_does_9 ?_
  refine gWX.top (b := a) h1 ?_
  refine x_istore_2 K dX7_does_10 rfl ?_
  refine x_aload_0 K dX7_does_11 ?_
  refine x_getC K gfRX7_36 ⟨by decide, (by decide)⟩ dX7_does_12 ?_
  refine x_iconst K dX7_does_15 ?_
  refine x_iload_1 K dX7_does_16 ?_
  refine x_imul K dX7_does_17 ?_
  refine x_iconst K dX7_does_18 ?_
  refine x_iadd K dX7_does_19 ?_
  refine x_iald K (5 * k + 2) (by omega) rfl ⟨by decide, by decide⟩ (by omega) dX7_does_20 ?_
  refine gWX.top (b := b) h2 ?_
  refine x_istore_3 K dX7_does_21 rfl ?_
  refine x_aload_0 K dX7_does_22 ?_
  refine x_getC K gfRX7_36 ⟨by decide, (by decide)⟩ dX7_does_23 ?_
  refine x_iconst K dX7_does_26 ?_
  refine x_iload_1 K dX7_does_27 ?_
  refine x_imul K dX7_does_28 ?_
  refine x_iconst K dX7_does_29 ?_
  refine x_iadd K dX7_does_30 ?_
  refine x_iald K (5 * k + 3) (by omega) rfl ⟨by decide, by decide⟩ (by omega) dX7_does_31 ?_
  refine gWX.top (b := c) h3 ?_
  refine x_istore_4 K dX7_does_32 rfl ?_
  refine x_aload_0 K dX7_does_34 ?_
  refine x_getC K gfRX7_36 ⟨by decide, (by decide)⟩ dX7_does_35 ?_
  refine x_iconst K dX7_does_38 ?_
  refine x_iload_1 K dX7_does_39 ?_
  refine x_imul K dX7_does_40 ?_
  refine x_iald K (5 * k) (by omega) rfl ⟨by decide, by decide⟩ (by omega) dX7_does_41 ?_
  refine gWX.top (b := 109) h0 ?_
  refine x_lookup (tgt := 179) K (by omega) (by decide) rfl dX7_does_42 (by decide) ?_
  refine x_aload_0 K dX7_does_179 ?_
  refine x_iload_2 K dX7_does_180 ?_
  refine x_callV1 K (c7_doMend Y h hY a b c e (by omega)) mtX7_doMend miX7_doMend rc14 ⟨by decide, (by decide)⟩ lkRX7_181 ⟨by decide, by decide, by decide⟩ rfl (Nat.le_of_ble_eq_true rfl) dX7_does_181 ?_
  refine x_istore_5 K dX7_does_184 rfl ?_
  refine x_goto (tgt := 196) K dX7_does_186 (by decide) ?_
  exact x_vret K hE rfl dX7_does_196 (by decide) (by decide) rfl
theorem c7_does_7 {E : gE} {σ : gS} (Y : Nat → Int) (h : gMs σ Y) (hY : gY Y) (k : Nat) (hk : k < 50) (a b c e : Int) (ha : 0 ≤ a ∧ a ≤ 9) (hb : 0 ≤ b ∧ b ≤ 9) (hc : 0 ≤ c ∧ c ≤ 9) (he : 0 ≤ e ∧ e ≤ 9) (h0 : σ.1 22 0 (5 * k) = 102) (h1 : σ.1 22 0 (5 * k + 1) = a) (h2 : σ.1 22 0 (5 * k + 2) = b) (h3 : σ.1 22 0 (5 * k + 3) = c) (h4 : σ.1 22 0 (5 * k + 4) = e) : gCt E mX7_does 11 0 [rf 14 0, iv (k : Int)] σ (.inl none) (gMO 7 σ Y a b c e) := by
  refine gCt_of (L := [some (rf 14 0), some (iv (k : Int)), none, none, none, none]) (by decide +kernel) rfl rfl (Nat.le_of_ble_eq_true rfl) (fun X K hE => ?_)
  refine x_aload_0 K dX7_does_0 ?_
  refine x_getC K gfRX7_36 ⟨by decide, (by decide)⟩ dX7_does_1 ?_
  refine x_iconst K dX7_does_4 ?_
  refine x_iload_1 K dX7_does_5 ?_
  refine x_imul K dX7_does_6 ?_
  refine x_iconst K dX7_does_7 ?_
  refine x_iadd K dX7_does_8 ?_
  refine x_iald K (5 * k + 1) (by omega) rfl ⟨by decide, by decide⟩ (by omega) dX7_does_9 ?_
  refine gWX.top (b := a) h1 ?_
  refine x_istore_2 K dX7_does_10 rfl ?_
  refine x_aload_0 K dX7_does_11 ?_
  refine x_getC K gfRX7_36 ⟨by decide, (by decide)⟩ dX7_does_12 ?_
  refine x_iconst K dX7_does_15 ?_
  refine x_iload_1 K dX7_does_16 ?_
  refine x_imul K dX7_does_17 ?_
  refine x_iconst K dX7_does_18 ?_
  refine x_iadd K dX7_does_19 ?_
  refine x_iald K (5 * k + 2) (by omega) rfl ⟨by decide, by decide⟩ (by omega) dX7_does_20 ?_
  refine gWX.top (b := b) h2 ?_
  refine x_istore_3 K dX7_does_21 rfl ?_
  refine x_aload_0 K dX7_does_22 ?_
  refine x_getC K gfRX7_36 ⟨by decide, (by decide)⟩ dX7_does_23 ?_
  refine x_iconst K dX7_does_26 ?_
  refine x_iload_1 K dX7_does_27 ?_
  refine x_imul K dX7_does_28 ?_
  refine x_iconst K dX7_does_29 ?_
  refine x_iadd K dX7_does_30 ?_
  refine x_iald K (5 * k + 3) (by omega) rfl ⟨by decide, by decide⟩ (by omega) dX7_does_31 ?_
  refine gWX.top (b := c) h3 ?_
  refine x_istore_4 K dX7_does_32 rfl ?_
  refine x_aload_0 K dX7_does_34 ?_
  refine x_getC K gfRX7_36 ⟨by decide, (by decide)⟩ dX7_does_35 ?_
  refine x_iconst K dX7_does_38 ?_
  refine x_iload_1 K dX7_does_39 ?_
  refine x_imul K dX7_does_40 ?_
  refine x_iald K (5 * k) (by omega) rfl ⟨by decide, by decide⟩ (by omega) dX7_does_41 ?_
  refine gWX.top (b := 102) h0 ?_
  refine x_lookup (tgt := 189) K (by omega) (by decide) rfl dX7_does_42 (by decide) ?_
  refine x_aload_0 K dX7_does_189 ?_
  refine x_iload_2 K dX7_does_190 ?_
  refine x_callV1 K (c7_doFill Y h hY a b c e (by omega)) mtX7_doFill miX7_doFill rc14 ⟨by decide, (by decide)⟩ lkRX7_193 ⟨by decide, by decide, by decide⟩ rfl (Nat.le_of_ble_eq_true rfl) dX7_does_191 ?_
  refine x_istore_5 K dX7_does_194 rfl ?_
  exact x_vret K hE rfl dX7_does_196 (by decide) (by decide) rfl
theorem c7_does {E : gE} {σ : gS} (Y : Nat → Int) (h : gMs σ Y) (hY : gY Y) (k : Nat) (hk : k < 50) (a b c e : Int) (ha : 0 ≤ a ∧ a ≤ 9) (hb : 0 ≤ b ∧ b ≤ 9) (hc : 0 ≤ c ∧ c ≤ 9) (he : 0 ≤ e ∧ e ≤ 9) (d : Nat) (hd : d < 8) (hd1 : 1 ≤ d) (h0 : σ.1 22 0 (5 * k) = gD1 d) (h1 : σ.1 22 0 (5 * k + 1) = a) (h2 : σ.1 22 0 (5 * k + 2) = b) (h3 : σ.1 22 0 (5 * k + 3) = c) (h4 : σ.1 22 0 (5 * k + 4) = e) : gCt E mX7_does 11 0 [rf 14 0, iv (k : Int)] σ (.inl none) (gMO d σ Y a b c e) := by
  obtain ⟨v1, v2, v3, v4, v5, v6, v7⟩ := gD1_v
  obtain rfl | rfl | rfl | rfl | rfl | rfl | rfl : d = 1 ∨ d = 2 ∨ d = 3 ∨ d = 4 ∨ d = 5 ∨ d = 6 ∨ d = 7 := by omega
  · exact c7_does_1 Y h hY k hk a b c e ha hb hc he (h0.trans v1) h1 h2 h3 h4
  · exact c7_does_2 Y h hY k hk a b c e ha hb hc he (h0.trans v2) h1 h2 h3 h4
  · exact c7_does_3 Y h hY k hk a b c e ha hb hc he (h0.trans v3) h1 h2 h3 h4
  · exact c7_does_4 Y h hY k hk a b c e ha hb hc he (h0.trans v4) h1 h2 h3 h4
  · exact c7_does_5 Y h hY k hk a b c e ha hb hc he (h0.trans v5) h1 h2 h3 h4
  · exact c7_does_6 Y h hY k hk a b c e ha hb hc he (h0.trans v6) h1 h2 h3 h4
  · exact c7_does_7 Y h hY k hk a b c e ha hb hc he (h0.trans v7) h1 h2 h3 h4
