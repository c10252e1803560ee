/-! ===== ScrollChecks: a text read ===== -/
def rdN (T : Nat → Int) (l : Nat) (s : Int) (k : Nat) : Int := t_num T l s (t_dd T l s) k
def rdB (T : Nat → Int) (l : Nat) (s : Int) (Y : Nat → Int) : Int := gOb (t_dd T l s) Y (rdN T l s 0) (rdN T l s 1) (rdN T l s 2) (rdN T l s 3)
def rdY (T : Nat → Int) (l : Nat) (s : Int) (Y : Nat → Int) : Nat → Int := gCoY (t_dd T l s) Y (rdN T l s 0) (rdN T l s 1) (rdN T l s 2) (rdN T l s 3)
def g_run (T : Nat → Int) (l : Nat) : Nat → Int → (Nat → Int) → Int × Int × (Nat → Int)
  | 0, _, Y => (0, 0, Y)
  | n + 1, s, Y => if (l : Int) ≤ s then (0, 0, Y) else if rdB T l s Y ≠ 0 then (1, rdB T l s Y, Y) else ((g_run T l n (t_nx T l s) (rdY T l s Y)).1 + 1, (g_run T l n (t_nx T l s) (rdY T l s Y)).2)
theorem g_run_1 (T : Nat → Int) (l n : Nat) (s : Int) (Y : Nat → Int) : g_run T l (n + 1) s Y = if (l : Int) ≤ s then (0, 0, Y) else if rdB T l s Y ≠ 0 then (1, rdB T l s Y, Y) else ((g_run T l n (t_nx T l s) (rdY T l s Y)).1 + 1, (g_run T l n (t_nx T l s) (rdY T l s Y)).2) := rfl
theorem t_num_bd {T : Nat → Int} {l : Nat} (s : Int) (d k : Nat) : 0 ≤ t_num T l s d k ∧ t_num T l s d k ≤ 9 := by
  unfold t_num
  split <;> omega
theorem t_err_bd {T : Nat → Int} {l : Nat} : ∀ (n : Nat) {s : Int}, 0 ≤ s → -1 ≤ t_err T l n s ∧ t_err T l n s ≤ s + 10 * (n : Int) + 10
  | 0, s, hs => by show -1 ≤ s ∧ s ≤ s + 10 * ((0 : Nat) : Int) + 10; omega
  | n + 1, s, hs => by
    have hsp := t_dd_spec T l s
    have hlen := gDb_len (t_dd T l s) hsp.1
    have hmb := t_misr_bd (T := T) (l := l) (s := s) (d := t_dd T l s) hs hsp.1
    have ih := t_err_bd (T := T) (l := l) n (s := s + ((gDb (t_dd T l s)).length : Int) + 1) (by omega)
    rw [t_err_1]
    split
    · omega
    split
    · omega
    split
    · omega
    split
    · omega
    split
    · omega
    · omega
theorem gIn_ext {σ σ' : gS} {T : Nat → Int} {l : Nat} (he : σ'.1 10 0 1 = σ.1 10 0 1) (hc : ∀ j, σ'.1 11 0 j = σ.1 11 0 j) (h : gIn σ T l) : gIn σ' T l := ⟨he.trans h.1, h.2.1, fun j hj => by rw [hc]; exact h.2.2 j hj⟩
theorem gIn_sp {σ : gS} {sh : Nat} {Y : Nat → Int} {T : Nat → Int} {l : Nat} (h : gIn σ T l) : gIn (gShPut σ sh Y) T l := gIn_ext (gShPm_off _ _ _ _ (by unfold gShC; omega)) (fun j => gShPm_off _ _ _ _ (by unfold gShC; omega)) h
theorem gCoY_le {d : Nat} {Y : Nat → Int} {s r c k : Int} : Y 0 ≤ gCoY d Y s r c k 0 := by
  unfold gCoY
  split
  · rw [ySet_lo _ _ _ (by omega), yF_at, if_pos rfl]; omega
  split
  · rw [ySet_lo _ _ _ (by omega)]; omega
  split
  · rw [ySet_lo _ _ _ (by omega), yF_at, if_neg (by omega)]; omega
  split
  · rw [ySet_lo _ _ _ (by omega), yF_at, if_neg (by omega)]; omega
  split
  · rw [ySet_lo _ _ _ (by omega)]; omega
  split
  · rw [ySet_lo _ _ _ (by omega), yF_at, if_pos rfl]; omega
  split
  · rw [ySet_lo _ _ _ (by omega), yF_at, if_neg (by omega)]; omega
  · rw [ySet_lo _ _ _ (by omega), yF_at, if_neg (by omega)]; omega
theorem gShPut_sp {σ : gS} {sh : Nat} {Y Y2 : Nat → Int} (h2 : 0 ≤ Y2 0 ∧ Y2 0 ≤ 5) (hle : Y 0 ≤ Y2 0) : gShPut (gShPut σ sh Y) sh Y2 = gShPut σ sh Y2 := by
  refine gShPut_eq h2 (gShPut_sh h2) rfl (fun a b c hc => ?_)
  unfold gShPut
  rw [gShPm_off _ _ _ _ hc, gShPm_off _ _ _ _ (by unfold gShC at hc ⊢; omega)]
/-- what a read leaves -/
def rd1 (σ : gS) (Y : Nat → Int) : gS := gShPut (gU σ 0 0 8 (-1)) 1 Y
def rd3 (σ : gS) (Y Yc : Nat → Int) : gS := gU (gShPut (rd1 σ Y) 0 Yc) 10 0 1 0
def rd4 (σ : gS) (Y Yc : Nat → Int) : gS := gShPut (rd3 σ Y Yc) 0 Y
def rdO (R : Int × Int × (Nat → Int)) : gO := if R.2.1 = 0 then .inl (some (iv R.1)) else if R.2.1 < 100 then .inr "java/lang/IllegalArgumentException" else .inr "java/lang/UnsupportedOperationException"
def rdS (σ : gS) (Y : Nat → Int) (R : Int × Int × (Nat → Int)) : gS := if R.2.1 = 0 then gRem (rd3 σ Y R.2.2) Y else if R.2.1 < 100 then rd4 σ Y R.2.2 else gRf (rd4 σ Y R.2.2) R.2.1
theorem rd1_sh {σ : gS} {Y : Nat → Int} (hY : gY Y) (h : gSh σ 0 Y) : gSh (rd1 σ Y) 0 Y ∧ gSh (rd1 σ Y) 1 Y :=
  ⟨gShPm_sh2 (by omega) hY.1.2 (gSh_ext hY.1.2 (fun c _ _ => by rw [gU_at, if_neg (by omega)]) (fun a b c _ _ _ => by rw [gU_at, if_neg (by omega)]) h), gShPut_sh hY.1⟩
theorem rd3_1 {σ : gS} {Y Yc : Nat → Int} (hY : gY Y) (h : gSh σ 0 Y) : gSh (rd3 σ Y Yc) 1 Y :=
  gSh_ext (σ := gShPut (rd1 σ Y) 0 Yc) hY.1.2 (fun c _ _ => by unfold rd3; rw [gU_at, if_neg (by omega)]) (fun a b c _ _ _ => by unfold rd3; rw [gU_at, if_neg (by omega)]) (gShPm_sh2 (by omega) hY.1.2 (rd1_sh hY h).2)
theorem gHp_ext {σ σ' : gS} (h2 : σ'.2.1 = σ.2.1) (h8 : σ'.1 8 0 1 = σ.1 8 0 1) (h : gHp σ) : gHp σ' := by
  unfold gHp
  rw [h2, h8]
  exact h
theorem rd3_hp {σ : gS} {Y Yc : Nat → Int} (h : gHp σ) : gHp (rd3 σ Y Yc) := gHp_ext (σ := σ) (σ' := rd3 σ Y Yc) rfl (by
  unfold rd3 rd1 gShPut
  rw [gU_at, if_neg (by omega), gShPm_off _ _ _ _ (by unfold gShC; omega), gShPm_off _ _ _ _ (by unfold gShC; omega), gU_at, if_neg (by omega)]) h
theorem c6_carryOutOrder {E : gE} {σ : gS} (Y : Nat → Int) (h : gSh σ 0 Y) (hY : gY Y) (T : Nat → Int) (l : Nat) (hin : gIn σ T l) (s : Int) (hs9 : 0 ≤ s ∧ s ≤ 5000) (hd : t_dd T l s ≠ 0) (hob : rdB T l s Y = 0) : gCt E mX6_carryOutOrder 9 0 [rf 0 0, iv s] σ (.inl (some (iv (rdB T l s Y)))) (gShPut σ 0 (rdY T l s Y)) := by
  refine gCt_of (L := [some (rf 0 0), some (iv s), none, none, none, none, none, none]) (by decide +kernel) rfl rfl (Nat.le_of_ble_eq_true rfl) (fun X K hE => ?_)
  have hsp := t_dd_spec T l s
  have n0 := t_num_bd (T := T) (l := l) s (t_dd T l s) 0
  have n1 := t_num_bd (T := T) (l := l) s (t_dd T l s) 1
  have n2 := t_num_bd (T := T) (l := l) s (t_dd T l s) 2
  have n3 := t_num_bd (T := T) (l := l) s (t_dd T l s) 3
  refine x_aload_0 K dX6_carryOutOrder_0 ?_
  refine x_getC K gfRX6_39 ⟨by decide, (by decide)⟩ dX6_carryOutOrder_1 ?_
  refine x_iload_1 K dX6_carryOutOrder_4 ?_
  refine x_callV1 K (c3_deedAt T l hin s (by omega) (t_dd T l s) hd rfl) mtX3_deedAt miX3_deedAt rc10 ⟨by decide, by decide⟩ lkRX6_358 ⟨by decide, by decide, by decide⟩ rfl (Nat.le_of_ble_eq_true rfl) dX6_carryOutOrder_5 ?_
  refine x_astorec_2 K dX6_carryOutOrder_8 rfl ?_
  refine x_aloadc_2 K dX6_carryOutOrder_9 ?_
  refine x_ifnonnullc (tgt := 15) K dX6_carryOutOrder_10 (by decide) ?_
  refine x_aload_0 K dX6_carryOutOrder_15 ?_
  refine x_getC K gfRX6_39 ⟨by decide, (by decide)⟩ dX6_carryOutOrder_16 ?_
  refine x_iload_1 K dX6_carryOutOrder_19 ?_
  refine x_aloadc_2 K dX6_carryOutOrder_20 ?_
  refine x_iconst K dX6_carryOutOrder_21 ?_
  refine x_callV3 K (c3_numberIn T l hin s hs9 (t_dd T l s) (by omega) hsp.1 0 (by omega)) mtX3_numberIn miX3_numberIn rc10 ⟨by decide, by decide⟩ lkRX6_362 ⟨by decide, by decide, by decide⟩ rfl (Nat.le_of_ble_eq_true rfl) dX6_carryOutOrder_22 ?_
  refine x_istore_3 K dX6_carryOutOrder_25 rfl ?_
  refine x_aload_0 K dX6_carryOutOrder_26 ?_
  refine x_getC K gfRX6_39 ⟨by decide, (by decide)⟩ dX6_carryOutOrder_27 ?_
  refine x_iload_1 K dX6_carryOutOrder_30 ?_
  refine x_aloadc_2 K dX6_carryOutOrder_31 ?_
  refine x_iconst K dX6_carryOutOrder_32 ?_
  refine x_callV3 K (c3_numberIn T l hin s hs9 (t_dd T l s) (by omega) hsp.1 1 (by omega)) mtX3_numberIn miX3_numberIn rc10 ⟨by decide, by decide⟩ lkRX6_362 ⟨by decide, by decide, by decide⟩ rfl (Nat.le_of_ble_eq_true rfl) dX6_carryOutOrder_33 ?_
  refine x_istore_4 K dX6_carryOutOrder_36 rfl ?_
  refine x_aload_0 K dX6_carryOutOrder_38 ?_
  refine x_getC K gfRX6_39 ⟨by decide, (by decide)⟩ dX6_carryOutOrder_39 ?_
  refine x_iload_1 K dX6_carryOutOrder_42 ?_
  refine x_aloadc_2 K dX6_carryOutOrder_43 ?_
  refine x_iconst K dX6_carryOutOrder_44 ?_
  refine x_callV3 K (c3_numberIn T l hin s hs9 (t_dd T l s) (by omega) hsp.1 2 (by omega)) mtX3_numberIn miX3_numberIn rc10 ⟨by decide, by decide⟩ lkRX6_362 ⟨by decide, by decide, by decide⟩ rfl (Nat.le_of_ble_eq_true rfl) dX6_carryOutOrder_45 ?_
  refine x_istore_5 K dX6_carryOutOrder_48 rfl ?_
  refine x_aload_0 K dX6_carryOutOrder_50 ?_
  refine x_getC K gfRX6_39 ⟨by decide, (by decide)⟩ dX6_carryOutOrder_51 ?_
  refine x_iload_1 K dX6_carryOutOrder_54 ?_
  refine x_aloadc_2 K dX6_carryOutOrder_55 ?_
  refine x_iconst K dX6_carryOutOrder_56 ?_
  refine x_callV3 K (c3_numberIn T l hin s hs9 (t_dd T l s) (by omega) hsp.1 3 (by omega)) mtX3_numberIn miX3_numberIn rc10 ⟨by decide, by decide⟩ lkRX6_362 ⟨by decide, by decide, by decide⟩ rfl (Nat.le_of_ble_eq_true rfl) dX6_carryOutOrder_57 ?_
  refine x_istore_6 K dX6_carryOutOrder_60 rfl ?_
  refine x_aload_0 K dX6_carryOutOrder_62 ?_
  refine x_getC K gfRX6_12 ⟨by decide, (by decide)⟩ dX6_carryOutOrder_63 ?_
  refine x_aloadc_2 K dX6_carryOutOrder_66 ?_
  refine x_iload_3 K dX6_carryOutOrder_67 ?_
  refine x_iload_4 K dX6_carryOutOrder_68 ?_
  refine x_iload_5 K dX6_carryOutOrder_70 ?_
  refine x_iload_6 K dX6_carryOutOrder_72 ?_
  refine x_callV5 K (c5_obstacleTo 0 (by omega) Y h hY (t_dd T l s) hsp.1 (rdN T l s 0) (rdN T l s 1) (rdN T l s 2) (rdN T l s 3) (by unfold rdN; omega) (by unfold rdN; omega) (by unfold rdN; omega) (by unfold rdN; omega)) mtX5_obstacleTo miX5_obstacleTo rc1 ⟨by decide, by decide⟩ lkRX6_352 ⟨by decide, by decide, by decide⟩ rfl (Nat.le_of_ble_eq_true rfl) dX6_carryOutOrder_74 ?_
  have bob : 0 ≤ rdB T l s Y ∧ rdB T l s Y < 1000 ∧ (rdB T l s Y ≤ 2 ∨ 100 ≤ rdB T l s Y) := gOb_bd hY hsp.1
  refine gWX.top (b := rdB T l s Y) rfl ?_
  refine x_istore_7 K dX6_carryOutOrder_77 rfl ?_
  refine x_iload_7 K dX6_carryOutOrder_79 ?_
  refine x_if_ne (tgt := 100) K (by omega) dX6_carryOutOrder_81 (by decide) (fun h81 => absurd hob h81) (fun h81 => ?_)
  refine x_aload_0 K dX6_carryOutOrder_84 ?_
  refine x_getC K gfRX6_12 ⟨by decide, (by decide)⟩ dX6_carryOutOrder_85 ?_
  refine x_aloadc_2 K dX6_carryOutOrder_88 ?_
  refine x_iload_3 K dX6_carryOutOrder_89 ?_
  refine x_iload_4 K dX6_carryOutOrder_90 ?_
  refine x_iload_5 K dX6_carryOutOrder_92 ?_
  refine x_iload_6 K dX6_carryOutOrder_94 ?_
  refine x_callV5 K (c5_carryOut 0 (by omega) Y h hY (t_dd T l s) hsp.1 (rdN T l s 0) (rdN T l s 1) (rdN T l s 2) (rdN T l s 3) hob) mtX5_carryOut miX5_carryOut rc1 ⟨by decide, by decide⟩ lkRX6_355 ⟨by decide, by decide, by decide⟩ rfl (Nat.le_of_ble_eq_true rfl) dX6_carryOutOrder_96 ?_
  refine x_pop K dX6_carryOutOrder_99 rfl ?_
  refine x_iload_7 K dX6_carryOutOrder_100 ?_
  exact x_iret K hE rfl dX6_carryOutOrder_102 (by decide) (by decide) rfl rfl
theorem c6_carryOutOrder_x {E : gE} {σ : gS} (Y : Nat → Int) (h : gSh σ 0 Y) (hY : gY Y) (T : Nat → Int) (l : Nat) (hin : gIn σ T l) (s : Int) (hs9 : 0 ≤ s ∧ s ≤ 5000) (hd : t_dd T l s ≠ 0) (hob : rdB T l s Y ≠ 0) : gCt E mX6_carryOutOrder 9 0 [rf 0 0, iv s] σ (.inl (some (iv (rdB T l s Y)))) σ := by
  refine gCt_of (L := [some (rf 0 0), some (iv s), none, none, none, none, none, none]) (by decide +kernel) rfl rfl (Nat.le_of_ble_eq_true rfl) (fun X K hE => ?_)
  have hsp := t_dd_spec T l s
  have n0 := t_num_bd (T := T) (l := l) s (t_dd T l s) 0
  have n1 := t_num_bd (T := T) (l := l) s (t_dd T l s) 1
  have n2 := t_num_bd (T := T) (l := l) s (t_dd T l s) 2
  have n3 := t_num_bd (T := T) (l := l) s (t_dd T l s) 3
  refine x_aload_0 K dX6_carryOutOrder_0 ?_
  refine x_getC K gfRX6_39 ⟨by decide, (by decide)⟩ dX6_carryOutOrder_1 ?_
  refine x_iload_1 K dX6_carryOutOrder_4 ?_
  refine x_callV1 K (c3_deedAt T l hin s (by omega) (t_dd T l s) hd rfl) mtX3_deedAt miX3_deedAt rc10 ⟨by decide, by decide⟩ lkRX6_358 ⟨by decide, by decide, by decide⟩ rfl (Nat.le_of_ble_eq_true rfl) dX6_carryOutOrder_5 ?_
  refine x_astorec_2 K dX6_carryOutOrder_8 rfl ?_
  refine x_aloadc_2 K dX6_carryOutOrder_9 ?_
  refine x_ifnonnullc (tgt := 15) K dX6_carryOutOrder_10 (by decide) ?_
  refine x_aload_0 K dX6_carryOutOrder_15 ?_
  refine x_getC K gfRX6_39 ⟨by decide, (by decide)⟩ dX6_carryOutOrder_16 ?_
  refine x_iload_1 K dX6_carryOutOrder_19 ?_
  refine x_aloadc_2 K dX6_carryOutOrder_20 ?_
  refine x_iconst K dX6_carryOutOrder_21 ?_
  refine x_callV3 K (c3_numberIn T l hin s hs9 (t_dd T l s) (by omega) hsp.1 0 (by omega)) mtX3_numberIn miX3_numberIn rc10 ⟨by decide, by decide⟩ lkRX6_362 ⟨by decide, by decide, by decide⟩ rfl (Nat.le_of_ble_eq_true rfl) dX6_carryOutOrder_22 ?_
  refine x_istore_3 K dX6_carryOutOrder_25 rfl ?_
  refine x_aload_0 K dX6_carryOutOrder_26 ?_
  refine x_getC K gfRX6_39 ⟨by decide, (by decide)⟩ dX6_carryOutOrder_27 ?_
  refine x_iload_1 K dX6_carryOutOrder_30 ?_
  refine x_aloadc_2 K dX6_carryOutOrder_31 ?_
  refine x_iconst K dX6_carryOutOrder_32 ?_
  refine x_callV3 K (c3_numberIn T l hin s hs9 (t_dd T l s) (by omega) hsp.1 1 (by omega)) mtX3_numberIn miX3_numberIn rc10 ⟨by decide, by decide⟩ lkRX6_362 ⟨by decide, by decide, by decide⟩ rfl (Nat.le_of_ble_eq_true rfl) dX6_carryOutOrder_33 ?_
  refine x_istore_4 K dX6_carryOutOrder_36 rfl ?_
  refine x_aload_0 K dX6_carryOutOrder_38 ?_
  refine x_getC K gfRX6_39 ⟨by decide, (by decide)⟩ dX6_carryOutOrder_39 ?_
  refine x_iload_1 K dX6_carryOutOrder_42 ?_
  refine x_aloadc_2 K dX6_carryOutOrder_43 ?_
  refine x_iconst K dX6_carryOutOrder_44 ?_
  refine x_callV3 K (c3_numberIn T l hin s hs9 (t_dd T l s) (by omega) hsp.1 2 (by omega)) mtX3_numberIn miX3_numberIn rc10 ⟨by decide, by decide⟩ lkRX6_362 ⟨by decide, by decide, by decide⟩ rfl (Nat.le_of_ble_eq_true rfl) dX6_carryOutOrder_45 ?_
  refine x_istore_5 K dX6_carryOutOrder_48 rfl ?_
  refine x_aload_0 K dX6_carryOutOrder_50 ?_
  refine x_getC K gfRX6_39 ⟨by decide, (by decide)⟩ dX6_carryOutOrder_51 ?_
  refine x_iload_1 K dX6_carryOutOrder_54 ?_
  refine x_aloadc_2 K dX6_carryOutOrder_55 ?_
  refine x_iconst K dX6_carryOutOrder_56 ?_
  refine x_callV3 K (c3_numberIn T l hin s hs9 (t_dd T l s) (by omega) hsp.1 3 (by omega)) mtX3_numberIn miX3_numberIn rc10 ⟨by decide, by decide⟩ lkRX6_362 ⟨by decide, by decide, by decide⟩ rfl (Nat.le_of_ble_eq_true rfl) dX6_carryOutOrder_57 ?_
  refine x_istore_6 K dX6_carryOutOrder_60 rfl ?_
  refine x_aload_0 K dX6_carryOutOrder_62 ?_
  refine x_getC K gfRX6_12 ⟨by decide, (by decide)⟩ dX6_carryOutOrder_63 ?_
  refine x_aloadc_2 K dX6_carryOutOrder_66 ?_
  refine x_iload_3 K dX6_carryOutOrder_67 ?_
  refine x_iload_4 K dX6_carryOutOrder_68 ?_
  refine x_iload_5 K dX6_carryOutOrder_70 ?_
  refine x_iload_6 K dX6_carryOutOrder_72 ?_
  refine x_callV5 K (c5_obstacleTo 0 (by omega) Y h hY (t_dd T l s) hsp.1 (rdN T l s 0) (rdN T l s 1) (rdN T l s 2) (rdN T l s 3) (by unfold rdN; omega) (by unfold rdN; omega) (by unfold rdN; omega) (by unfold rdN; omega)) mtX5_obstacleTo miX5_obstacleTo rc1 ⟨by decide, by decide⟩ lkRX6_352 ⟨by decide, by decide, by decide⟩ rfl (Nat.le_of_ble_eq_true rfl) dX6_carryOutOrder_74 ?_
  have bob : 0 ≤ rdB T l s Y ∧ rdB T l s Y < 1000 ∧ (rdB T l s Y ≤ 2 ∨ 100 ≤ rdB T l s Y) := gOb_bd hY hsp.1
  refine gWX.top (b := rdB T l s Y) rfl ?_
  refine x_istore_7 K dX6_carryOutOrder_77 rfl ?_
  refine x_iload_7 K dX6_carryOutOrder_79 ?_
  refine x_if_ne (tgt := 100) K (by omega) dX6_carryOutOrder_81 (by decide) (fun h81 => ?_) (fun h81 => absurd h81 hob)
  refine x_iload_7 K dX6_carryOutOrder_100 ?_
  exact x_iret K hE rfl dX6_carryOutOrder_102 (by decide) (by decide) rfl rfl
def rdE (σ : gS) (e : Int) : gS := gU (gU σ 0 0 8 e) 10 0 1 0
theorem c6_read_e {E : gE} {σ : gS} (T : Nat → Int) (l : Nat) (hin : gIn σ T l) (he : t_err T l 60 0 ≠ -1) : gCt E mX6_read 12 1 [rf 0 0] σ (.inr "java/lang/IllegalArgumentException") (rdE σ (t_err T l 60 0)) := by
  refine gCt_of (L := [some (rf 0 0), none, none, none]) (by decide +kernel) rfl rfl (Nat.le_of_ble_eq_true rfl) (fun X K hE => ?_)
  have heb := t_err_bd (T := T) (l := l) 60 (s := 0) (by omega)
  refine x_aload_0 K dX6_read_0 ?_
  refine x_aload_0 K dX6_read_1 ?_
  refine x_getC K gfRX6_39 ⟨by decide, (by decide)⟩ dX6_read_2 ?_
  refine x_callV0 K (c3_firstError T l hin) mtX3_firstError miX3_firstError rc10 ⟨by decide, by decide⟩ lkRX6_251 ⟨by decide, by decide, by decide⟩ rfl (Nat.le_of_ble_eq_true rfl) dX6_read_5 ?_
  refine x_putI K gpRX6_50 ⟨by decide, (by decide)⟩ dX6_read_8 ?_
  refine x_aload_0 K dX6_read_11 ?_
  refine x_getI K gfRX6_50 ⟨by decide, (by decide)⟩ dX6_read_12 ?_
  refine gWX.top (b := t_err T l 60 0) (gU_same _ _ _ _ _) ?_
  refine x_iconst K dX6_read_15 ?_
  refine x_icmp_eq (tgt := 37) K (by omega) dX6_read_16 (by decide) (fun h16 => absurd h16 he) (fun h16 => ?_)
  refine x_aload_0 K dX6_read_19 ?_
  refine x_getC K gfRX6_39 ⟨by decide, (by decide)⟩ dX6_read_20 ?_
  refine x_callV0v K c3_empty mtX3_empty miX3_empty rc10 ⟨by decide, by decide⟩ lkRX6_254 ⟨by decide, by decide, by decide⟩ rfl (Nat.le_of_ble_eq_true rfl) dX6_read_23 ?_
  exact x_throww K gThr_IllegalArgumentException gTxt_257 hE rfl ⟨by decide, (Nat.le_of_ble_eq_true rfl)⟩ (by decide) (by decide) dX6_read_26 dX6_read_29 dX6_read_30 dX6_read_33 dX6_read_36
set_option maxHeartbeats 4000000 in
theorem c6_read {E : gE} {σ : gS} (Y : Nat → Int) (h : gSh σ 0 Y) (hY : gY Y) (T : Nat → Int) (l : Nat) (hin : gIn σ T l) (hp : gHp σ) (he : t_err T l 60 0 = -1) : gCt E mX6_read 12 1 [rf 0 0] σ (rdO (g_run T l 60 0 Y)) (rdS σ Y (g_run T l 60 0 Y)) := by
  refine gCt_of (L := [some (rf 0 0), none, none, none]) (by decide +kernel) rfl rfl (Nat.le_of_ble_eq_true rfl) (fun X K hE => ?_)
  have hp3 := hp
  have heb := t_err_bd (T := T) (l := l) 60 (s := 0) (by omega)
  have hl60 := hin.2.1
  refine x_aload_0 K dX6_read_0 ?_
  refine x_aload_0 K dX6_read_1 ?_
  refine x_getC K gfRX6_39 ⟨by decide, (by decide)⟩ dX6_read_2 ?_
  refine x_callV0 K (c3_firstError T l hin) mtX3_firstError miX3_firstError rc10 ⟨by decide, by decide⟩ lkRX6_251 ⟨by decide, by decide, by decide⟩ rfl (Nat.le_of_ble_eq_true rfl) dX6_read_5 ?_
  refine gWX.top (b := -1) he ?_
  refine x_putI K gpRX6_50 ⟨by decide, (by decide)⟩ dX6_read_8 ?_
  refine x_aload_0 K dX6_read_11 ?_
  refine x_getI K gfRX6_50 ⟨by decide, (by decide)⟩ dX6_read_12 ?_
  refine gWX.top (b := -1) (gU_same _ _ _ _ _) ?_
  refine x_iconst K dX6_read_15 ?_
  refine x_icmp_eq (tgt := 37) K (by omega) dX6_read_16 (by decide) (fun h16 => ?_) (fun h16 => absurd rfl h16)
  refine x_aload_0 K dX6_read_37 ?_
  refine x_getC K gfRX6_16 ⟨by decide, (by decide)⟩ dX6_read_38 ?_
  refine x_aload_0 K dX6_read_41 ?_
  refine x_getC K gfRX6_12 ⟨by decide, (by decide)⟩ dX6_read_42 ?_
  refine x_callV1v K (c5_become (σ := gU σ 0 0 8 (-1)) 1 (by omega) 0 (by omega) (by omega) Y (gSh_ext hY.1.2 (fun c _ _ => by rw [gU_at, if_neg (by omega)]) (fun a b c _ _ _ => by rw [gU_at, if_neg (by omega)]) h) hY) mtX5_become miX5_become rc1 ⟨by decide, by decide⟩ lkRX6_259 ⟨by decide, by decide, by decide⟩ rfl (Nat.le_of_ble_eq_true rfl) dX6_read_45 ?_
  refine x_iconst K dX6_read_48 ?_
  refine x_istore_1 K dX6_read_49 rfl ?_
  refine x_iconst K dX6_read_50 ?_
  refine x_istore_2 K dX6_read_51 rfl ?_
  refine x_iconst K dX6_read_52 ?_
  refine x_istore_3 K dX6_read_53 rfl ?_
  refine gLp (P := fun i : Nat => ∀ (s : Int) (Yc : Nat → Int), ((0 ≤ s ∧ s ≤ 10 * (i : Int)) ∧ (gY Yc ∧ Y 0 ≤ Yc 0) ∧ ((l : Int) ≤ s ∨ t_err T l (60 - i) s = -1) ∧ (g_run T l 60 0 Y).1 = (i : Int) + (g_run T l (60 - i) s Yc).1 ∧ (g_run T l 60 0 Y).2 = (g_run T l (60 - i) s Yc).2) → gWX X E 0 0 54 [some (rf 0 0), some (iv (i : Int)), some (iv 0), some (iv s)] [] (gShPut (rd1 σ Y) 0 Yc)) 60 (fun k0 => ?_) (fun i hi ih => ?_) ?_
  · refine gWX.to rfl ?_ (k0 0 Y ⟨by omega, ⟨hY, by omega⟩, Or.inr he, (Int.zero_add _).symm, rfl⟩)
    exact (gShPut_self hY.1 (rd1_sh hY h).1).symm
  · intro s Yc hy
    obtain ⟨hs, ⟨hYc, hle⟩, hinv, hr1, hr2⟩ := hy
    have hsc : gSh (gShPut (rd1 σ Y) 0 Yc) 0 Yc := gShPut_sh hYc.1
    have hinc : gIn (gShPut (rd1 σ Y) 0 Yc) T l := gIn_sp (gIn_sp (gIn_ext (by rw [gU_at, if_neg (by omega)]) (fun j => by rw [gU_at, if_neg (by omega)]) hin))
    rw [show 60 - i = (60 - (i + 1)) + 1 by omega] at hinv hr1 hr2
    rw [g_run_1 T l (60 - (i + 1)) s Yc] at hr1 hr2
    refine x_iload_1 K dX6_read_54 ?_
    refine x_bipush K dX6_read_55 rfl ?_
    refine x_icmp_ge (tgt := 96) K (by omega) dX6_read_57 (by decide) (fun h57 => absurd h57 (by omega)) (fun h57 => ?_)
    refine x_iload_3 K dX6_read_60 ?_
    refine x_aload_0 K dX6_read_61 ?_
    refine x_getC K gfRX6_39 ⟨by decide, (by decide)⟩ dX6_read_62 ?_
    refine x_getI K gfRX6_249 ⟨by decide, by decide⟩ dX6_read_65 ?_
    refine gWX.top (b := (l : Int)) hinc.1 ?_
    refine x_icmp_ge (tgt := 96) K (by omega) dX6_read_68 (by decide) (fun h68 => ?_) (fun h68 => ?_)
    · rw [if_pos h68] at hr1 hr2
      have hR1 : (g_run T l 60 0 Y).1 = (i : Int) := by rw [hr1]; exact Int.add_zero _
      have hR2 : (g_run T l 60 0 Y).2.1 = 0 := by rw [hr2]
      have hR3 : (g_run T l 60 0 Y).2.2 = Yc := by rw [hr2]
      have eO : rdO (g_run T l 60 0 Y) = .inl (some (iv ((i : Int) : Int))) := by unfold rdO; rw [if_pos hR2, hR1]
      have eS : rdS σ Y (g_run T l 60 0 Y) = gRem (rd3 σ Y Yc) Y := by unfold rdS; rw [if_pos hR2, hR3]
      rw [eO, eS] at hE
      refine x_aload_0 K dX6_read_96 ?_
      refine x_getC K gfRX6_39 ⟨by decide, (by decide)⟩ dX6_read_97 ?_
      refine x_callV0v K c3_empty mtX3_empty miX3_empty rc10 ⟨by decide, by decide⟩ lkRX6_254 ⟨by decide, by decide, by decide⟩ rfl (Nat.le_of_ble_eq_true rfl) dX6_read_100 ?_
      refine x_iload_2 K dX6_read_103 ?_
      refine x_if_eq (tgt := 132) K (by omega) dX6_read_104 (by decide) (fun h104 => ?_) (fun h104 => absurd rfl h104)
      refine x_aload_0 K dX6_read_132 ?_
      refine x_getC K gfRX6_25 ⟨by decide, (by decide)⟩ dX6_read_133 ?_
      refine x_aload_0 K dX6_read_136 ?_
      refine x_getC K gfRX6_16 ⟨by decide, (by decide)⟩ dX6_read_137 ?_
      refine x_callV1v K (c2_remember (σ := rd3 σ Y Yc) (fun j hj => ((rd3_hp hp).1 j hj).2) 1 (by omega) (fun j hj => ((rd3_hp hp).1 j hj).1) Y (rd3_1 hY h) hY (rd3_hp hp).2.2) mtX2_remember miX2_remember rc8 ⟨by decide, by decide⟩ lkRX6_271 ⟨by decide, by decide, by decide⟩ rfl (Nat.le_of_ble_eq_true rfl) dX6_read_140 ?_
      refine x_iload_1 K dX6_read_143 ?_
      exact x_iret K hE rfl dX6_read_144 (by decide) (by decide) rfl rfl
    · have hsl : ¬ (l : Int) ≤ s := h68
      rw [if_neg hsl] at hr1 hr2
      have herr : t_err T l ((60 - (i + 1)) + 1) s = -1 := hinv.elim (fun q => absurd q hsl) (fun q => q)
      rw [t_err_1, if_neg hsl] at herr
      have hd : t_dd T l s ≠ 0 := fun q => by rw [if_pos q] at herr; omega
      rw [if_neg hd] at herr
      have hsp := t_dd_spec T l s
      have hlen := gDb_len (t_dd T l s) hsp.1
      have hnx : t_nx T l s = s + ((gDb (t_dd T l s)).length : Int) + 1 := by unfold t_nx; rw [if_neg hd]
      have bob : 0 ≤ rdB T l s Yc ∧ rdB T l s Yc < 1000 ∧ (rdB T l s Yc ≤ 2 ∨ 100 ≤ rdB T l s Yc) := gOb_bd hYc hsp.1
      by_cases hob0 : rdB T l s Yc = 0
      · rw [if_neg (fun q => q hob0)] at hr1 hr2
        have hY2 : gY (rdY T l s Yc) := gCoY_Y hob0 hYc hsp.1
        have hle2 : Yc 0 ≤ rdY T l s Yc 0 := gCoY_le
        have hinv2 : (l : Int) ≤ t_nx T l s ∨ t_err T l (60 - (i + 1)) (t_nx T l s) = -1 := by
          have hm : t_misr T l s (t_dd T l s) = -1 := Classical.byContradiction (fun q => by rw [if_pos q] at herr; exact q herr)
          rw [if_neg (fun q => q hm)] at herr
          by_cases q1 : s + ((gDb (t_dd T l s)).length : Int) = (l : Int)
          · left; omega
          · rw [if_neg q1] at herr
            by_cases q2 : ¬ t_is T l (s + ((gDb (t_dd T l s)).length : Int)) 59
            · rw [if_pos q2] at herr; omega
            · rw [if_neg q2] at herr
              right
              rw [hnx]; exact herr
        refine x_iload_2 K dX6_read_71 ?_
        refine x_if_ne (tgt := 96) K (by omega) dX6_read_72 (by decide) (fun h72 => absurd rfl h72) (fun h72 => ?_)
        refine x_aload_0 K dX6_read_75 ?_
        refine x_iload_3 K dX6_read_76 ?_
        refine x_callV1 K (c6_carryOutOrder (σ := gShPut (rd1 σ Y) 0 Yc) Yc hsc hYc T l hinc s (by omega) hd hob0) mtX6_carryOutOrder miX6_carryOutOrder rc0 ⟨by decide, (by decide)⟩ lkRX6_262 ⟨by decide, by decide, by decide⟩ rfl (Nat.le_of_ble_eq_true rfl) dX6_read_77 ?_
        refine gWX.top (b := 0) hob0 ?_
        rw [gShPut_sp hY2.1 hle2]
        refine x_istore_2 K dX6_read_80 rfl ?_
        refine x_aload_0 K dX6_read_81 ?_
        refine x_getC K gfRX6_39 ⟨by decide, (by decide)⟩ dX6_read_82 ?_
        refine x_iload_3 K dX6_read_85 ?_
        refine x_callV1 K (c3_startOfNext (σ := gShPut (rd1 σ Y) 0 (rdY T l s Yc)) T l (gIn_sp (gIn_sp (gIn_ext (by rw [gU_at, if_neg (by omega)]) (fun j => by rw [gU_at, if_neg (by omega)]) hin))) s (by omega) (t_dd T l s) hd rfl) mtX3_startOfNext miX3_startOfNext rc10 ⟨by decide, by decide⟩ lkRX6_265 ⟨by decide, by decide, by decide⟩ rfl (Nat.le_of_ble_eq_true rfl) dX6_read_86 ?_
        refine x_istore_3 K dX6_read_89 rfl ?_
        refine x_iinc_1 K dX6_read_90 rfl ?_
        refine x_goto (tgt := 54) K dX6_read_93 (by decide) ?_
        exact gWX.to rfl rfl (ih (t_nx T l s) (rdY T l s Yc) ⟨by omega, ⟨hY2, by omega⟩, hinv2, by rw [hr1]; show (i : Int) + ((g_run T l (60 - (i + 1)) (t_nx T l s) (rdY T l s Yc)).1 + 1) = _; omega, hr2⟩)
      · rw [if_pos hob0] at hr1 hr2
        have hR1 : (g_run T l 60 0 Y).1 = (i : Int) + 1 := hr1
        have hR2 : (g_run T l 60 0 Y).2.1 = rdB T l s Yc := by rw [hr2]
        have hR3 : (g_run T l 60 0 Y).2.2 = Yc := by rw [hr2]
        have eO1 : rdB T l s Yc < 100 → rdO (g_run T l 60 0 Y) = .inr "java/lang/IllegalArgumentException" := fun q => by unfold rdO; rw [hR2, if_neg hob0, if_pos q]
        have eS1 : rdB T l s Yc < 100 → rdS σ Y (g_run T l 60 0 Y) = rd4 σ Y Yc := fun q => by unfold rdS; rw [hR2, if_neg hob0, if_pos q, hR3]
        have eO2 : ¬ rdB T l s Yc < 100 → rdO (g_run T l 60 0 Y) = .inr "java/lang/UnsupportedOperationException" := fun q => by unfold rdO; rw [hR2, if_neg hob0, if_neg q]
        have eS2 : ¬ rdB T l s Yc < 100 → rdS σ Y (g_run T l 60 0 Y) = gRf (rd4 σ Y Yc) (rdB T l s Yc) := fun q => by unfold rdS; rw [hR2, if_neg hob0, if_neg q, hR3]
        refine x_iload_2 K dX6_read_71 ?_
        refine x_if_ne (tgt := 96) K (by omega) dX6_read_72 (by decide) (fun h72 => absurd rfl h72) (fun h72 => ?_)
        refine x_aload_0 K dX6_read_75 ?_
        refine x_iload_3 K dX6_read_76 ?_
        refine x_callV1 K (c6_carryOutOrder_x (σ := gShPut (rd1 σ Y) 0 Yc) Yc hsc hYc T l hinc s (by omega) hd hob0) mtX6_carryOutOrder miX6_carryOutOrder rc0 ⟨by decide, (by decide)⟩ lkRX6_262 ⟨by decide, by decide, by decide⟩ rfl (Nat.le_of_ble_eq_true rfl) dX6_read_77 ?_
        refine x_istore_2 K dX6_read_80 rfl ?_
        refine x_aload_0 K dX6_read_81 ?_
        refine x_getC K gfRX6_39 ⟨by decide, (by decide)⟩ dX6_read_82 ?_
        refine x_iload_3 K dX6_read_85 ?_
        refine x_callV1 K (c3_startOfNext (σ := gShPut (rd1 σ Y) 0 Yc) T l hinc s (by omega) (t_dd T l s) hd rfl) mtX3_startOfNext miX3_startOfNext rc10 ⟨by decide, by decide⟩ lkRX6_265 ⟨by decide, by decide, by decide⟩ rfl (Nat.le_of_ble_eq_true rfl) dX6_read_86 ?_
        refine x_istore_3 K dX6_read_89 rfl ?_
        refine x_iinc_1 K dX6_read_90 rfl ?_
        refine x_goto (tgt := 54) K dX6_read_93 (by decide) ?_
        refine x_iload_1 K dX6_read_54 ?_
        refine x_bipush K dX6_read_55 rfl ?_
        refine x_icmp_ge (tgt := 96) K (by omega) dX6_read_57 (by decide) (fun h57 => ?_) (fun h57 => ?_)
        · refine x_aload_0 K dX6_read_96 ?_
          refine x_getC K gfRX6_39 ⟨by decide, (by decide)⟩ dX6_read_97 ?_
          refine x_callV0v K c3_empty mtX3_empty miX3_empty rc10 ⟨by decide, by decide⟩ lkRX6_254 ⟨by decide, by decide, by decide⟩ rfl (Nat.le_of_ble_eq_true rfl) dX6_read_100 ?_
          refine x_iload_2 K dX6_read_103 ?_
          refine x_if_eq (tgt := 132) K (by omega) dX6_read_104 (by decide) (fun h104 => absurd h104 hob0) (fun h104 => ?_)
          refine x_aload_0 K dX6_read_107 ?_
          refine x_getC K gfRX6_12 ⟨by decide, (by decide)⟩ dX6_read_108 ?_
          refine x_aload_0 K dX6_read_111 ?_
          refine x_getC K gfRX6_16 ⟨by decide, (by decide)⟩ dX6_read_112 ?_
          refine x_callV1v K (c5_become (σ := rd3 σ Y Yc) 0 (by omega) 1 (by omega) (by omega) Y (rd3_1 hY h) hY) mtX5_become miX5_become rc1 ⟨by decide, by decide⟩ lkRX6_259 ⟨by decide, by decide, by decide⟩ rfl (Nat.le_of_ble_eq_true rfl) dX6_read_115 ?_
          refine x_aload_0 K dX6_read_118 ?_
          refine x_iload_2 K dX6_read_119 ?_
          refine x_iconst K dX6_read_120 ?_
          refine x_icmp_ne (tgt := 128) K (by omega) dX6_read_121 (by decide) (fun h121 => ?_) (fun h121 => ?_)
          · refine x_iload_2 K dX6_read_128 ?_
            by_cases hge2 : rdB T l s Yc < 100
            · rw [eO1 hge2, eS1 hge2] at hE
              refine gWX.top (b := 2) (by omega) ?_
              refine x_callV1x K c6_stopFor_2 mtX6_stopFor miX6_stopFor rc0 ⟨by decide, (by decide)⟩ lkRX6_268 ⟨by decide, by decide, by decide⟩ rfl (Nat.le_of_ble_eq_true rfl) dX6_read_129 hE
            · rw [eO2 hge2, eS2 hge2] at hE
              refine x_callV1x K (c6_stopFor_3 (rdB T l s Yc) (by omega)) mtX6_stopFor miX6_stopFor rc0 ⟨by decide, (by decide)⟩ lkRX6_268 ⟨by decide, by decide, by decide⟩ rfl (Nat.le_of_ble_eq_true rfl) dX6_read_129 hE
          · rw [eO1 (by omega), eS1 (by omega)] at hE
            refine x_iconst K dX6_read_124 ?_
            refine x_goto (tgt := 129) K dX6_read_125 (by decide) ?_
            refine x_callV1x K c6_stopFor_2 mtX6_stopFor miX6_stopFor rc0 ⟨by decide, (by decide)⟩ lkRX6_268 ⟨by decide, by decide, by decide⟩ rfl (Nat.le_of_ble_eq_true rfl) dX6_read_129 hE
        · refine x_iload_3 K dX6_read_60 ?_
          refine x_aload_0 K dX6_read_61 ?_
          refine x_getC K gfRX6_39 ⟨by decide, (by decide)⟩ dX6_read_62 ?_
          refine x_getI K gfRX6_249 ⟨by decide, by decide⟩ dX6_read_65 ?_
          refine gWX.top (b := (l : Int)) hinc.1 ?_
          refine x_icmp_ge (tgt := 96) K (by omega) dX6_read_68 (by decide) (fun h68 => ?_) (fun h68 => ?_)
          · refine x_aload_0 K dX6_read_96 ?_
            refine x_getC K gfRX6_39 ⟨by decide, (by decide)⟩ dX6_read_97 ?_
            refine x_callV0v K c3_empty mtX3_empty miX3_empty rc10 ⟨by decide, by decide⟩ lkRX6_254 ⟨by decide, by decide, by decide⟩ rfl (Nat.le_of_ble_eq_true rfl) dX6_read_100 ?_
            refine x_iload_2 K dX6_read_103 ?_
            refine x_if_eq (tgt := 132) K (by omega) dX6_read_104 (by decide) (fun h104 => absurd h104 hob0) (fun h104 => ?_)
            refine x_aload_0 K dX6_read_107 ?_
            refine x_getC K gfRX6_12 ⟨by decide, (by decide)⟩ dX6_read_108 ?_
            refine x_aload_0 K dX6_read_111 ?_
            refine x_getC K gfRX6_16 ⟨by decide, (by decide)⟩ dX6_read_112 ?_
            refine x_callV1v K (c5_become (σ := rd3 σ Y Yc) 0 (by omega) 1 (by omega) (by omega) Y (rd3_1 hY h) hY) mtX5_become miX5_become rc1 ⟨by decide, by decide⟩ lkRX6_259 ⟨by decide, by decide, by decide⟩ rfl (Nat.le_of_ble_eq_true rfl) dX6_read_115 ?_
            refine x_aload_0 K dX6_read_118 ?_
            refine x_iload_2 K dX6_read_119 ?_
            refine x_iconst K dX6_read_120 ?_
            refine x_icmp_ne (tgt := 128) K (by omega) dX6_read_121 (by decide) (fun h121 => ?_) (fun h121 => ?_)
            · refine x_iload_2 K dX6_read_128 ?_
              by_cases hge2 : rdB T l s Yc < 100
              · rw [eO1 hge2, eS1 hge2] at hE
                refine gWX.top (b := 2) (by omega) ?_
                refine x_callV1x K c6_stopFor_2 mtX6_stopFor miX6_stopFor rc0 ⟨by decide, (by decide)⟩ lkRX6_268 ⟨by decide, by decide, by decide⟩ rfl (Nat.le_of_ble_eq_true rfl) dX6_read_129 hE
              · rw [eO2 hge2, eS2 hge2] at hE
                refine x_callV1x K (c6_stopFor_3 (rdB T l s Yc) (by omega)) mtX6_stopFor miX6_stopFor rc0 ⟨by decide, (by decide)⟩ lkRX6_268 ⟨by decide, by decide, by decide⟩ rfl (Nat.le_of_ble_eq_true rfl) dX6_read_129 hE
            · rw [eO1 (by omega), eS1 (by omega)] at hE
              refine x_iconst K dX6_read_124 ?_
              refine x_goto (tgt := 129) K dX6_read_125 (by decide) ?_
              refine x_callV1x K c6_stopFor_2 mtX6_stopFor miX6_stopFor rc0 ⟨by decide, (by decide)⟩ lkRX6_268 ⟨by decide, by decide, by decide⟩ rfl (Nat.le_of_ble_eq_true rfl) dX6_read_129 hE
          · refine x_iload_2 K dX6_read_71 ?_
            refine x_if_ne (tgt := 96) K (by omega) dX6_read_72 (by decide) (fun h72 => ?_) (fun h72 => absurd h72 hob0)
            refine x_aload_0 K dX6_read_96 ?_
            refine x_getC K gfRX6_39 ⟨by decide, (by decide)⟩ dX6_read_97 ?_
            refine x_callV0v K c3_empty mtX3_empty miX3_empty rc10 ⟨by decide, by decide⟩ lkRX6_254 ⟨by decide, by decide, by decide⟩ rfl (Nat.le_of_ble_eq_true rfl) dX6_read_100 ?_
            refine x_iload_2 K dX6_read_103 ?_
            refine x_if_eq (tgt := 132) K (by omega) dX6_read_104 (by decide) (fun h104 => absurd h104 hob0) (fun h104 => ?_)
            refine x_aload_0 K dX6_read_107 ?_
            refine x_getC K gfRX6_12 ⟨by decide, (by decide)⟩ dX6_read_108 ?_
            refine x_aload_0 K dX6_read_111 ?_
            refine x_getC K gfRX6_16 ⟨by decide, (by decide)⟩ dX6_read_112 ?_
            refine x_callV1v K (c5_become (σ := rd3 σ Y Yc) 0 (by omega) 1 (by omega) (by omega) Y (rd3_1 hY h) hY) mtX5_become miX5_become rc1 ⟨by decide, by decide⟩ lkRX6_259 ⟨by decide, by decide, by decide⟩ rfl (Nat.le_of_ble_eq_true rfl) dX6_read_115 ?_
            refine x_aload_0 K dX6_read_118 ?_
            refine x_iload_2 K dX6_read_119 ?_
            refine x_iconst K dX6_read_120 ?_
            refine x_icmp_ne (tgt := 128) K (by omega) dX6_read_121 (by decide) (fun h121 => ?_) (fun h121 => ?_)
            · refine x_iload_2 K dX6_read_128 ?_
              by_cases hge2 : rdB T l s Yc < 100
              · rw [eO1 hge2, eS1 hge2] at hE
                refine gWX.top (b := 2) (by omega) ?_
                refine x_callV1x K c6_stopFor_2 mtX6_stopFor miX6_stopFor rc0 ⟨by decide, (by decide)⟩ lkRX6_268 ⟨by decide, by decide, by decide⟩ rfl (Nat.le_of_ble_eq_true rfl) dX6_read_129 hE
              · rw [eO2 hge2, eS2 hge2] at hE
                refine x_callV1x K (c6_stopFor_3 (rdB T l s Yc) (by omega)) mtX6_stopFor miX6_stopFor rc0 ⟨by decide, (by decide)⟩ lkRX6_268 ⟨by decide, by decide, by decide⟩ rfl (Nat.le_of_ble_eq_true rfl) dX6_read_129 hE
            · rw [eO1 (by omega), eS1 (by omega)] at hE
              refine x_iconst K dX6_read_124 ?_
              refine x_goto (tgt := 129) K dX6_read_125 (by decide) ?_
              refine x_callV1x K c6_stopFor_2 mtX6_stopFor miX6_stopFor rc0 ⟨by decide, (by decide)⟩ lkRX6_268 ⟨by decide, by decide, by decide⟩ rfl (Nat.le_of_ble_eq_true rfl) dX6_read_129 hE
  · intro s Yc hy
    obtain ⟨hs, ⟨hYc, hle⟩, hinv, hr1, hr2⟩ := hy
    have hR1 : (g_run T l 60 0 Y).1 = ((60 : Nat) : Int) := by rw [hr1]; exact Int.add_zero _
    have hR2 : (g_run T l 60 0 Y).2.1 = 0 := by rw [hr2]; rfl
    have hR3 : (g_run T l 60 0 Y).2.2 = Yc := by rw [hr2]; rfl
    have eO : rdO (g_run T l 60 0 Y) = .inl (some (iv (((60 : Nat) : Int) : Int))) := by unfold rdO; rw [if_pos hR2, hR1]
    have eS : rdS σ Y (g_run T l 60 0 Y) = gRem (rd3 σ Y Yc) Y := by unfold rdS; rw [if_pos hR2, hR3]
    rw [eO, eS] at hE
    refine x_iload_1 K dX6_read_54 ?_
    refine x_bipush K dX6_read_55 rfl ?_
    refine x_icmp_ge (tgt := 96) K (by omega) dX6_read_57 (by decide) (fun h57 => ?_) (fun h57 => absurd h57 (by omega))
    refine x_aload_0 K dX6_read_96 ?_
    refine x_getC K gfRX6_39 ⟨by decide, (by decide)⟩ dX6_read_97 ?_
    refine x_callV0v K c3_empty mtX3_empty miX3_empty rc10 ⟨by decide, by decide⟩ lkRX6_254 ⟨by decide, by decide, by decide⟩ rfl (Nat.le_of_ble_eq_true rfl) dX6_read_100 ?_
    refine x_iload_2 K dX6_read_103 ?_
    refine x_if_eq (tgt := 132) K (by omega) dX6_read_104 (by decide) (fun h104 => ?_) (fun h104 => absurd rfl h104)
    refine x_aload_0 K dX6_read_132 ?_
    refine x_getC K gfRX6_25 ⟨by decide, (by decide)⟩ dX6_read_133 ?_
    refine x_aload_0 K dX6_read_136 ?_
    refine x_getC K gfRX6_16 ⟨by decide, (by decide)⟩ dX6_read_137 ?_
    refine x_callV1v K (c2_remember (σ := rd3 σ Y Yc) (fun j hj => ((rd3_hp hp).1 j hj).2) 1 (by omega) (fun j hj => ((rd3_hp hp).1 j hj).1) Y (rd3_1 hY h) hY (rd3_hp hp).2.2) mtX2_remember miX2_remember rc8 ⟨by decide, by decide⟩ lkRX6_271 ⟨by decide, by decide, by decide⟩ rfl (Nat.le_of_ble_eq_true rfl) dX6_read_140 ?_
    refine x_iload_1 K dX6_read_143 ?_
    exact x_iret K hE rfl dX6_read_144 (by decide) (by decide) rfl rfl
