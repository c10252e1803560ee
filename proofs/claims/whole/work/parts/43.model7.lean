/-! ===== ScrollChecksModel: accounts, means, the past, lines ===== -/
section GW43
variable {X : gM} {E : gE} {M : gMt} {D n cells slots pc : Nat} {L : List (Option gV)} {st : List gV} {σ : gS}
theorem x_dconst0 (K : gK X E M D n) (d : decode M.2.1 pc = .ok (.dconst 0, 1)) (k : gWX X E cells slots (pc + 1) L (.inl (.double FP.dconst0) :: st) σ) : gWX X E cells slots pc L st σ :=
  fun H locs ls hP hS hl => lv_dconst0 K.1 K.2.1 d (k H locs ls hP hS hl)
end GW43
theorem s_au_0 {Y : Nat → Int} (hY : gY Y) : s_au Y 0 = Y 0 := by
  have h0 := hY.1
  show gSum (fun _ => (1 : Int)) (Y 0).toNat = Y 0
  rw [gSum_ones]
  omega
theorem c7_over_1 {E : gE} {σ : gS} (Y : Nat → Int) (h : gMs σ Y) (hY : gY Y) : gCt E mX7_overScrolls 10 0 [rf 14 0, iv 1] σ (.inl (some (iv (s_au Y 1)))) σ := by
  refine gCt_of (L := [some (rf 14 0), some (iv 1), none, none]) (by decide +kernel) rfl rfl (Nat.le_of_ble_eq_true rfl) (fun X K hE => ?_)
  have hY0 := hY.1
  refine x_iconst K dX7_overScrolls_0 ?_
  refine x_istore_2 K dX7_overScrolls_1 rfl ?_
  refine x_iconst K dX7_overScrolls_2 ?_
  refine x_istore_3 K dX7_overScrolls_3 rfl ?_
  refine gLp (P := fun i : Nat => gWX X E 0 0 4 [some (rf 14 0), some (iv 1), some (iv (gSum (fun n => s_sr 1 (zb Y n)) i)), some (iv (i : Int))] [] (σ)) ((Y 0).toNat) (fun k0 => ?_) (fun i hi ih => ?_) ?_
  · exact gWX.to rfl rfl (k0)
  · have hi9 : (i : Int) < Y 0 := by omega
    have hz := hY.2 i hi9
    have q3 := hz.2.2.2.1
    refine x_iload_3 K dX7_overScrolls_4 ?_
    refine x_aload_0 K dX7_overScrolls_5 ?_
    refine x_getC K gfRX7_9 ⟨by decide, (by decide)⟩ dX7_overScrolls_6 ?_
    refine x_iconst K dX7_overScrolls_9 ?_
    refine x_iald K 0 rfl rfl ⟨by decide, by decide⟩ (by omega) dX7_overScrolls_10 ?_
    refine gWX.top (b := Y 0) (h 0 (by omega)) ?_
    refine x_icmp_ge (tgt := 112) K (by omega) dX7_overScrolls_11 (by decide) (fun h11 => absurd h11 (by omega)) (fun h11 => ?_)
    refine x_iload_1 K dX7_overScrolls_14 ?_
    refine x_tblIn (tgt := 44) K 0 (by omega) (by omega) (by omega) rfl dX7_overScrolls_15 (by decide) ?_
    refine x_iload_2 K dX7_overScrolls_44 ?_
    refine x_aload_0 K dX7_overScrolls_45 ?_
    refine x_iload_3 K dX7_overScrolls_46 ?_
    refine x_iconst K dX7_overScrolls_47 ?_
    refine x_callV2 K (c7_of Y h i 2 (by omega) (by omega)) mtX7_of miX7_of rc14 ⟨by decide, (by decide)⟩ lkRX7_69 ⟨by decide, by decide, by decide⟩ rfl (Nat.le_of_ble_eq_true rfl) dX7_overScrolls_48 ?_
    refine x_iadd K dX7_overScrolls_51 ?_
    refine x_istore_2 K dX7_overScrolls_52 rfl ?_
    refine x_goto (tgt := 106) K dX7_overScrolls_53 (by decide) ?_
    refine x_iinc_3 K dX7_overScrolls_106 rfl ?_
    refine x_goto (tgt := 4) K dX7_overScrolls_109 (by decide) ?_
    exact gWX.to rfl rfl (ih)
  · refine x_iload_3 K dX7_overScrolls_4 ?_
    refine x_aload_0 K dX7_overScrolls_5 ?_
    refine x_getC K gfRX7_9 ⟨by decide, (by decide)⟩ dX7_overScrolls_6 ?_
    refine x_iconst K dX7_overScrolls_9 ?_
    refine x_iald K 0 rfl rfl ⟨by decide, by decide⟩ (by omega) dX7_overScrolls_10 ?_
    refine gWX.top (b := Y 0) (h 0 (by omega)) ?_
    refine x_icmp_ge (tgt := 112) K (by omega) dX7_overScrolls_11 (by decide) (fun h11 => ?_) (fun h11 => absurd h11 (by omega))
    refine x_iload_2 K dX7_overScrolls_112 ?_
    exact x_iret K hE rfl dX7_overScrolls_113 (by decide) (by decide) rfl rfl
theorem c7_over_2 {E : gE} {σ : gS} (Y : Nat → Int) (h : gMs σ Y) (hY : gY Y) : gCt E mX7_overScrolls 10 0 [rf 14 0, iv 2] σ (.inl (some (iv (s_au Y 2)))) σ := by
  refine gCt_of (L := [some (rf 14 0), some (iv 2), none, none]) (by decide +kernel) rfl rfl (Nat.le_of_ble_eq_true rfl) (fun X K hE => ?_)
  have hY0 := hY.1
  refine x_iconst K dX7_overScrolls_0 ?_
  refine x_istore_2 K dX7_overScrolls_1 rfl ?_
  refine x_iconst K dX7_overScrolls_2 ?_
  refine x_istore_3 K dX7_overScrolls_3 rfl ?_
  refine gLp (P := fun i : Nat => gWX X E 0 0 4 [some (rf 14 0), some (iv 2), some (iv (gSum (fun n => s_sr 2 (zb Y n)) i)), some (iv (i : Int))] [] (σ)) ((Y 0).toNat) (fun k0 => ?_) (fun i hi ih => ?_) ?_
  · exact gWX.to rfl rfl (k0)
  · have hi9 : (i : Int) < Y 0 := by omega
    have hz := hY.2 i hi9
    have q3 := hz.2.2.2.1
    refine x_iload_3 K dX7_overScrolls_4 ?_
    refine x_aload_0 K dX7_overScrolls_5 ?_
    refine x_getC K gfRX7_9 ⟨by decide, (by decide)⟩ dX7_overScrolls_6 ?_
    refine x_iconst K dX7_overScrolls_9 ?_
    refine x_iald K 0 rfl rfl ⟨by decide, by decide⟩ (by omega) dX7_overScrolls_10 ?_
    refine gWX.top (b := Y 0) (h 0 (by omega)) ?_
    refine x_icmp_ge (tgt := 112) K (by omega) dX7_overScrolls_11 (by decide) (fun h11 => absurd h11 (by omega)) (fun h11 => ?_)
    refine x_iload_1 K dX7_overScrolls_14 ?_
    refine x_tblIn (tgt := 56) K 1 (by omega) (by omega) (by omega) rfl dX7_overScrolls_15 (by decide) ?_
    refine x_iload_2 K dX7_overScrolls_56 ?_
    refine x_aload_0 K dX7_overScrolls_57 ?_
    refine x_iload_3 K dX7_overScrolls_58 ?_
    refine x_iconst K dX7_overScrolls_59 ?_
    refine x_callV2 K (c7_of Y h i 3 (by omega) (by omega)) mtX7_of miX7_of rc14 ⟨by decide, (by decide)⟩ lkRX7_69 ⟨by decide, by decide, by decide⟩ rfl (Nat.le_of_ble_eq_true rfl) dX7_overScrolls_60 ?_
    refine gTern (fun kt kf => x_if_ge (tgt := 70) K (by omega) dX7_overScrolls_63 (by decide) kt kf) (fun k => x_iconst K dX7_overScrolls_70 k) (fun k => x_iconst K dX7_overScrolls_66 (x_goto K dX7_overScrolls_67 (by decide) k)) ?_
    refine gWX.top (b := s_sr 2 (zb Y i)) (by show _ = (if zb Y i 3 = -1 then 0 else 1); split <;> split <;> omega) ?_
    refine x_iadd K dX7_overScrolls_71 ?_
    refine x_istore_2 K dX7_overScrolls_72 rfl ?_
    refine x_goto (tgt := 106) K dX7_overScrolls_73 (by decide) ?_
    refine x_iinc_3 K dX7_overScrolls_106 rfl ?_
    refine x_goto (tgt := 4) K dX7_overScrolls_109 (by decide) ?_
    exact gWX.to rfl rfl (ih)
  · refine x_iload_3 K dX7_overScrolls_4 ?_
    refine x_aload_0 K dX7_overScrolls_5 ?_
    refine x_getC K gfRX7_9 ⟨by decide, (by decide)⟩ dX7_overScrolls_6 ?_
    refine x_iconst K dX7_overScrolls_9 ?_
    refine x_iald K 0 rfl rfl ⟨by decide, by decide⟩ (by omega) dX7_overScrolls_10 ?_
    refine gWX.top (b := Y 0) (h 0 (by omega)) ?_
    refine x_icmp_ge (tgt := 112) K (by omega) dX7_overScrolls_11 (by decide) (fun h11 => ?_) (fun h11 => absurd h11 (by omega))
    refine x_iload_2 K dX7_overScrolls_112 ?_
    exact x_iret K hE rfl dX7_overScrolls_113 (by decide) (by decide) rfl rfl
theorem c7_over_3 {E : gE} {σ : gS} (Y : Nat → Int) (h : gMs σ Y) (hY : gY Y) : gCt E mX7_overScrolls 10 0 [rf 14 0, iv 3] σ (.inl (some (iv (s_au Y 3)))) σ := by
  refine gCt_of (L := [some (rf 14 0), some (iv 3), none, none]) (by decide +kernel) rfl rfl (Nat.le_of_ble_eq_true rfl) (fun X K hE => ?_)
  have hY0 := hY.1
  refine x_iconst K dX7_overScrolls_0 ?_
  refine x_istore_2 K dX7_overScrolls_1 rfl ?_
  refine x_iconst K dX7_overScrolls_2 ?_
  refine x_istore_3 K dX7_overScrolls_3 rfl ?_
  refine gLp (P := fun i : Nat => gWX X E 0 0 4 [some (rf 14 0), some (iv 3), some (iv (gSum (fun n => s_sr 3 (zb Y n)) i)), some (iv (i : Int))] [] (σ)) ((Y 0).toNat) (fun k0 => ?_) (fun i hi ih => ?_) ?_
  · exact gWX.to rfl rfl (k0)
  · have hi9 : (i : Int) < Y 0 := by omega
    have hz := hY.2 i hi9
    have q3 := hz.2.2.2.1
    refine x_iload_3 K dX7_overScrolls_4 ?_
    refine x_aload_0 K dX7_overScrolls_5 ?_
    refine x_getC K gfRX7_9 ⟨by decide, (by decide)⟩ dX7_overScrolls_6 ?_
    refine x_iconst K dX7_overScrolls_9 ?_
    refine x_iald K 0 rfl rfl ⟨by decide, by decide⟩ (by omega) dX7_overScrolls_10 ?_
    refine gWX.top (b := Y 0) (h 0 (by omega)) ?_
    refine x_icmp_ge (tgt := 112) K (by omega) dX7_overScrolls_11 (by decide) (fun h11 => absurd h11 (by omega)) (fun h11 => ?_)
    refine x_iload_1 K dX7_overScrolls_14 ?_
    refine x_tblIn (tgt := 76) K 2 (by omega) (by omega) (by omega) rfl dX7_overScrolls_15 (by decide) ?_
    refine x_iload_2 K dX7_overScrolls_76 ?_
    refine x_aload_0 K dX7_overScrolls_77 ?_
    refine x_iload_3 K dX7_overScrolls_78 ?_
    refine x_callV1 K (c7_cellsOf Y h hY i hi9) mtX7_cellsOf miX7_cellsOf rc14 ⟨by decide, (by decide)⟩ lkRX7_196 ⟨by decide, by decide, by decide⟩ rfl (Nat.le_of_ble_eq_true rfl) dX7_overScrolls_79 ?_
    refine x_iadd K dX7_overScrolls_82 ?_
    refine x_istore_2 K dX7_overScrolls_83 rfl ?_
    refine x_goto (tgt := 106) K dX7_overScrolls_84 (by decide) ?_
    refine x_iinc_3 K dX7_overScrolls_106 rfl ?_
    refine x_goto (tgt := 4) K dX7_overScrolls_109 (by decide) ?_
    exact gWX.to rfl rfl (ih)
  · refine x_iload_3 K dX7_overScrolls_4 ?_
    refine x_aload_0 K dX7_overScrolls_5 ?_
    refine x_getC K gfRX7_9 ⟨by decide, (by decide)⟩ dX7_overScrolls_6 ?_
    refine x_iconst K dX7_overScrolls_9 ?_
    refine x_iald K 0 rfl rfl ⟨by decide, by decide⟩ (by omega) dX7_overScrolls_10 ?_
    refine gWX.top (b := Y 0) (h 0 (by omega)) ?_
    refine x_icmp_ge (tgt := 112) K (by omega) dX7_overScrolls_11 (by decide) (fun h11 => ?_) (fun h11 => absurd h11 (by omega))
    refine x_iload_2 K dX7_overScrolls_112 ?_
    exact x_iret K hE rfl dX7_overScrolls_113 (by decide) (by decide) rfl rfl
theorem c7_over_4 {E : gE} {σ : gS} (Y : Nat → Int) (h : gMs σ Y) (hY : gY Y) : gCt E mX7_overScrolls 10 0 [rf 14 0, iv 4] σ (.inl (some (iv (s_au Y 4)))) σ := by
  refine gCt_of (L := [some (rf 14 0), some (iv 4), none, none]) (by decide +kernel) rfl rfl (Nat.le_of_ble_eq_true rfl) (fun X K hE => ?_)
  have hY0 := hY.1
  refine x_iconst K dX7_overScrolls_0 ?_
  refine x_istore_2 K dX7_overScrolls_1 rfl ?_
  refine x_iconst K dX7_overScrolls_2 ?_
  refine x_istore_3 K dX7_overScrolls_3 rfl ?_
  refine gLp (P := fun i : Nat => gWX X E 0 0 4 [some (rf 14 0), some (iv 4), some (iv (gSum (fun n => s_sr 4 (zb Y n)) i)), some (iv (i : Int))] [] (σ)) ((Y 0).toNat) (fun k0 => ?_) (fun i hi ih => ?_) ?_
  · exact gWX.to rfl rfl (k0)
  · have hi9 : (i : Int) < Y 0 := by omega
    have hz := hY.2 i hi9
    have q3 := hz.2.2.2.1
    refine x_iload_3 K dX7_overScrolls_4 ?_
    refine x_aload_0 K dX7_overScrolls_5 ?_
    refine x_getC K gfRX7_9 ⟨by decide, (by decide)⟩ dX7_overScrolls_6 ?_
    refine x_iconst K dX7_overScrolls_9 ?_
    refine x_iald K 0 rfl rfl ⟨by decide, by decide⟩ (by omega) dX7_overScrolls_10 ?_
    refine gWX.top (b := Y 0) (h 0 (by omega)) ?_
    refine x_icmp_ge (tgt := 112) K (by omega) dX7_overScrolls_11 (by decide) (fun h11 => absurd h11 (by omega)) (fun h11 => ?_)
    refine x_iload_1 K dX7_overScrolls_14 ?_
    refine x_tblIn (tgt := 87) K 3 (by omega) (by omega) (by omega) rfl dX7_overScrolls_15 (by decide) ?_
    refine x_iload_2 K dX7_overScrolls_87 ?_
    refine x_aload_0 K dX7_overScrolls_88 ?_
    refine x_iload_3 K dX7_overScrolls_89 ?_
    refine x_callV1 K (c7_smudged Y h hY i hi9) mtX7_smudged miX7_smudged rc14 ⟨by decide, (by decide)⟩ lkRX7_134 ⟨by decide, by decide, by decide⟩ rfl (Nat.le_of_ble_eq_true rfl) dX7_overScrolls_90 ?_
    refine x_iadd K dX7_overScrolls_93 ?_
    refine x_istore_2 K dX7_overScrolls_94 rfl ?_
    refine x_goto (tgt := 106) K dX7_overScrolls_95 (by decide) ?_
    refine x_iinc_3 K dX7_overScrolls_106 rfl ?_
    refine x_goto (tgt := 4) K dX7_overScrolls_109 (by decide) ?_
    exact gWX.to rfl rfl (ih)
  · refine x_iload_3 K dX7_overScrolls_4 ?_
    refine x_aload_0 K dX7_overScrolls_5 ?_
    refine x_getC K gfRX7_9 ⟨by decide, (by decide)⟩ dX7_overScrolls_6 ?_
    refine x_iconst K dX7_overScrolls_9 ?_
    refine x_iald K 0 rfl rfl ⟨by decide, by decide⟩ (by omega) dX7_overScrolls_10 ?_
    refine gWX.top (b := Y 0) (h 0 (by omega)) ?_
    refine x_icmp_ge (tgt := 112) K (by omega) dX7_overScrolls_11 (by decide) (fun h11 => ?_) (fun h11 => absurd h11 (by omega))
    refine x_iload_2 K dX7_overScrolls_112 ?_
    exact x_iret K hE rfl dX7_overScrolls_113 (by decide) (by decide) rfl rfl
theorem c7_over_5 {E : gE} {σ : gS} (Y : Nat → Int) (h : gMs σ Y) (hY : gY Y) : gCt E mX7_overScrolls 10 0 [rf 14 0, iv 5] σ (.inl (some (iv (s_au Y 5)))) σ := by
  refine gCt_of (L := [some (rf 14 0), some (iv 5), none, none]) (by decide +kernel) rfl rfl (Nat.le_of_ble_eq_true rfl) (fun X K hE => ?_)
  have hY0 := hY.1
  refine x_iconst K dX7_overScrolls_0 ?_
  refine x_istore_2 K dX7_overScrolls_1 rfl ?_
  refine x_iconst K dX7_overScrolls_2 ?_
  refine x_istore_3 K dX7_overScrolls_3 rfl ?_
  refine gLp (P := fun i : Nat => gWX X E 0 0 4 [some (rf 14 0), some (iv 5), some (iv (gSum (fun n => s_sr 5 (zb Y n)) i)), some (iv (i : Int))] [] (σ)) ((Y 0).toNat) (fun k0 => ?_) (fun i hi ih => ?_) ?_
  · exact gWX.to rfl rfl (k0)
  · have hi9 : (i : Int) < Y 0 := by omega
    have hz := hY.2 i hi9
    have q3 := hz.2.2.2.1
    refine x_iload_3 K dX7_overScrolls_4 ?_
    refine x_aload_0 K dX7_overScrolls_5 ?_
    refine x_getC K gfRX7_9 ⟨by decide, (by decide)⟩ dX7_overScrolls_6 ?_
    refine x_iconst K dX7_overScrolls_9 ?_
    refine x_iald K 0 rfl rfl ⟨by decide, by decide⟩ (by omega) dX7_overScrolls_10 ?_
    refine gWX.top (b := Y 0) (h 0 (by omega)) ?_
    refine x_icmp_ge (tgt := 112) K (by omega) dX7_overScrolls_11 (by decide) (fun h11 => absurd h11 (by omega)) (fun h11 => ?_)
    refine x_iload_1 K dX7_overScrolls_14 ?_
    refine x_tblOut (tgt := 98) K (by omega) (by omega) dX7_overScrolls_15 (by decide) ?_
    refine x_iload_2 K dX7_overScrolls_98 ?_
    refine x_aload_0 K dX7_overScrolls_99 ?_
    refine x_iload_3 K dX7_overScrolls_100 ?_
    refine x_callV1 K (c7_doubtsOf Y h hY i hi9) mtX7_doubtsOf miX7_doubtsOf rc14 ⟨by decide, (by decide)⟩ lkRX7_166 ⟨by decide, by decide, by decide⟩ rfl (Nat.le_of_ble_eq_true rfl) dX7_overScrolls_101 ?_
    refine x_iadd K dX7_overScrolls_104 ?_
    refine x_istore_2 K dX7_overScrolls_105 rfl ?_
    refine x_iinc_3 K dX7_overScrolls_106 rfl ?_
    refine x_goto (tgt := 4) K dX7_overScrolls_109 (by decide) ?_
    exact gWX.to rfl rfl (ih)
  · refine x_iload_3 K dX7_overScrolls_4 ?_
    refine x_aload_0 K dX7_overScrolls_5 ?_
    refine x_getC K gfRX7_9 ⟨by decide, (by decide)⟩ dX7_overScrolls_6 ?_
    refine x_iconst K dX7_overScrolls_9 ?_
    refine x_iald K 0 rfl rfl ⟨by decide, by decide⟩ (by omega) dX7_overScrolls_10 ?_
    refine gWX.top (b := Y 0) (h 0 (by omega)) ?_
    refine x_icmp_ge (tgt := 112) K (by omega) dX7_overScrolls_11 (by decide) (fun h11 => ?_) (fun h11 => absurd h11 (by omega))
    refine x_iload_2 K dX7_overScrolls_112 ?_
    exact x_iret K hE rfl dX7_overScrolls_113 (by decide) (by decide) rfl rfl
theorem c7_account_1 {E : gE} {σ : gS} (k : Int) (hk : -2147483648 ≤ k ∧ k < 2147483648) (hk2 : ¬ (0 ≤ k ∧ k ≤ 11)) : gCt E mX7_account 12 0 [rf 14 0, iv k] σ (.inl (some (iv (0)))) (gFl σ 1) := by
  refine gCt_of (L := [some (rf 14 0), some (iv k)]) (by decide +kernel) rfl rfl (Nat.le_of_ble_eq_true rfl) (fun X K hE => ?_)
  have t1 : gB1 (0 ≤ k ∧ k ≤ 11) = 0 := gB1_f hk2
  refine x_aload_0 K dX7_account_0 ?_
  refine x_iload_1 K dX7_account_1 ?_
  refine x_iconst K dX7_account_2 ?_
  refine x_bipush K dX7_account_3 rfl ?_
  refine x_callS3 K (c7_in k 0 11 (by omega)) mtX7_in msX7_in lkRX7_61 ⟨by decide, by decide, by decide⟩ rfl (Nat.le_of_ble_eq_true rfl) dX7_account_5 ?_
  refine x_if_eq (tgt := 15) K (by omega) dX7_account_8 (by decide) (fun h8 => ?_) (fun h8 => absurd h8 (by omega))
  refine x_iconst K dX7_account_15 ?_
  refine x_putI K gpRX7_39 ⟨by decide, (by decide)⟩ dX7_account_16 ?_
  refine x_aload_0 K dX7_account_19 ?_
  refine x_getI K gfRX7_39 ⟨by decide, (by decide)⟩ dX7_account_20 ?_
  refine gWX.top (b := 1) rfl ?_
  refine x_if_le (tgt := 28) K (by omega) dX7_account_23 (by decide) (fun h23 => absurd h23 (by omega)) (fun h23 => ?_)
  refine x_iconst K dX7_account_26 ?_
  exact x_iret K hE rfl dX7_account_27 (by decide) (by decide) rfl rfl
theorem c7_account_k0 {E : gE} {σ : gS} (Y : Nat → Int) (h : gMs σ Y) (hY : gY Y) : gCt E mX7_account 12 0 [rf 14 0, iv 0] σ (.inl (some (iv (s_au Y 0)))) (gFl σ 0) := by
  refine gCt_of (L := [some (rf 14 0), some (iv 0)]) (by decide +kernel) rfl rfl (Nat.le_of_ble_eq_true rfl) (fun X K hE => ?_)
  have hY0 := hY.1
  have t1 : gB1 (0 ≤ (0 : Int) ∧ (0 : Int) ≤ 11) = 1 := gB1_t (by omega)
  refine x_aload_0 K dX7_account_0 ?_
  refine x_iload_1 K dX7_account_1 ?_
  refine x_iconst K dX7_account_2 ?_
  refine x_bipush K dX7_account_3 rfl ?_
  refine x_callS3 K (c7_in 0 0 11 (by omega)) mtX7_in msX7_in lkRX7_61 ⟨by decide, by decide, by decide⟩ rfl (Nat.le_of_ble_eq_true rfl) dX7_account_5 ?_
  refine x_if_eq (tgt := 15) K (by omega) dX7_account_8 (by decide) (fun h8 => absurd h8 (by omega)) (fun h8 => ?_)
  refine x_iconst K dX7_account_11 ?_
  refine x_goto (tgt := 16) K dX7_account_12 (by decide) ?_
  refine x_putI K gpRX7_39 ⟨by decide, (by decide)⟩ dX7_account_16 ?_
  refine x_aload_0 K dX7_account_19 ?_
  refine x_getI K gfRX7_39 ⟨by decide, (by decide)⟩ dX7_account_20 ?_
  refine gWX.top (b := 0) rfl ?_
  refine x_if_le (tgt := 28) K (by omega) dX7_account_23 (by decide) (fun h23 => ?_) (fun h23 => absurd h23 (by omega))
  refine x_iload_1 K dX7_account_28 ?_
  refine x_tblIn (tgt := 92) K 0 (by omega) (by omega) (by omega) rfl dX7_account_29 (by decide) ?_
  refine x_aload_0 K dX7_account_92 ?_
  refine x_getC K gfRX7_9 ⟨by decide, (by decide)⟩ dX7_account_93 ?_
  refine x_iconst K dX7_account_96 ?_
  refine x_iald K 0 rfl rfl ⟨by decide, by decide⟩ (by omega) dX7_account_97 ?_
  exact x_iret K hE rfl dX7_account_98 (by decide) (by decide) ((gMs_u h 7 0 0 (by omega)).trans (s_au_0 hY).symm) rfl
theorem c7_account_k1 {E : gE} {σ : gS} (Y : Nat → Int) (h : gMs σ Y) (hY : gY Y) : gCt E mX7_account 12 0 [rf 14 0, iv 1] σ (.inl (some (iv (s_au Y 1)))) (gFl σ 0) := by
  refine gCt_of (L := [some (rf 14 0), some (iv 1)]) (by decide +kernel) rfl rfl (Nat.le_of_ble_eq_true rfl) (fun X K hE => ?_)
  have hY0 := hY.1
  have t1 : gB1 (0 ≤ (1 : Int) ∧ (1 : Int) ≤ 11) = 1 := gB1_t (by omega)
  refine x_aload_0 K dX7_account_0 ?_
  refine x_iload_1 K dX7_account_1 ?_
  refine x_iconst K dX7_account_2 ?_
  refine x_bipush K dX7_account_3 rfl ?_
  refine x_callS3 K (c7_in 1 0 11 (by omega)) mtX7_in msX7_in lkRX7_61 ⟨by decide, by decide, by decide⟩ rfl (Nat.le_of_ble_eq_true rfl) dX7_account_5 ?_
  refine x_if_eq (tgt := 15) K (by omega) dX7_account_8 (by decide) (fun h8 => absurd h8 (by omega)) (fun h8 => ?_)
  refine x_iconst K dX7_account_11 ?_
  refine x_goto (tgt := 16) K dX7_account_12 (by decide) ?_
  refine x_putI K gpRX7_39 ⟨by decide, (by decide)⟩ dX7_account_16 ?_
  refine x_aload_0 K dX7_account_19 ?_
  refine x_getI K gfRX7_39 ⟨by decide, (by decide)⟩ dX7_account_20 ?_
  refine gWX.top (b := 0) rfl ?_
  refine x_if_le (tgt := 28) K (by omega) dX7_account_23 (by decide) (fun h23 => ?_) (fun h23 => absurd h23 (by omega))
  refine x_iload_1 K dX7_account_28 ?_
  refine x_tblIn (tgt := 99) K 1 (by omega) (by omega) (by omega) rfl dX7_account_29 (by decide) ?_
  refine x_aload_0 K dX7_account_99 ?_
  refine x_iload_1 K dX7_account_100 ?_
  refine x_callV1 K (c7_over_1 Y (gMs_u h 7 0) hY) mtX7_overScrolls miX7_overScrolls rc14 ⟨by decide, (by decide)⟩ lkRX7_250 ⟨by decide, by decide, by decide⟩ rfl (Nat.le_of_ble_eq_true rfl) dX7_account_101 ?_
  exact x_iret K hE rfl dX7_account_104 (by decide) (by decide) rfl rfl
theorem c7_account_k2 {E : gE} {σ : gS} (Y : Nat → Int) (h : gMs σ Y) (hY : gY Y) : gCt E mX7_account 12 0 [rf 14 0, iv 2] σ (.inl (some (iv (s_au Y 2)))) (gFl σ 0) := by
  refine gCt_of (L := [some (rf 14 0), some (iv 2)]) (by decide +kernel) rfl rfl (Nat.le_of_ble_eq_true rfl) (fun X K hE => ?_)
  have hY0 := hY.1
  have t1 : gB1 (0 ≤ (2 : Int) ∧ (2 : Int) ≤ 11) = 1 := gB1_t (by omega)
  refine x_aload_0 K dX7_account_0 ?_
  refine x_iload_1 K dX7_account_1 ?_
  refine x_iconst K dX7_account_2 ?_
  refine x_bipush K dX7_account_3 rfl ?_
  refine x_callS3 K (c7_in 2 0 11 (by omega)) mtX7_in msX7_in lkRX7_61 ⟨by decide, by decide, by decide⟩ rfl (Nat.le_of_ble_eq_true rfl) dX7_account_5 ?_
  refine x_if_eq (tgt := 15) K (by omega) dX7_account_8 (by decide) (fun h8 => absurd h8 (by omega)) (fun h8 => ?_)
  refine x_iconst K dX7_account_11 ?_
  refine x_goto (tgt := 16) K dX7_account_12 (by decide) ?_
  refine x_putI K gpRX7_39 ⟨by decide, (by decide)⟩ dX7_account_16 ?_
  refine x_aload_0 K dX7_account_19 ?_
  refine x_getI K gfRX7_39 ⟨by decide, (by decide)⟩ dX7_account_20 ?_
  refine gWX.top (b := 0) rfl ?_
  refine x_if_le (tgt := 28) K (by omega) dX7_account_23 (by decide) (fun h23 => ?_) (fun h23 => absurd h23 (by omega))
  refine x_iload_1 K dX7_account_28 ?_
  refine x_tblIn (tgt := 99) K 2 (by omega) (by omega) (by omega) rfl dX7_account_29 (by decide) ?_
  refine x_aload_0 K dX7_account_99 ?_
  refine x_iload_1 K dX7_account_100 ?_
  refine x_callV1 K (c7_over_2 Y (gMs_u h 7 0) hY) mtX7_overScrolls miX7_overScrolls rc14 ⟨by decide, (by decide)⟩ lkRX7_250 ⟨by decide, by decide, by decide⟩ rfl (Nat.le_of_ble_eq_true rfl) dX7_account_101 ?_
  exact x_iret K hE rfl dX7_account_104 (by decide) (by decide) rfl rfl
theorem c7_account_k3 {E : gE} {σ : gS} (Y : Nat → Int) (h : gMs σ Y) (hY : gY Y) : gCt E mX7_account 12 0 [rf 14 0, iv 3] σ (.inl (some (iv (s_au Y 3)))) (gFl σ 0) := by
  refine gCt_of (L := [some (rf 14 0), some (iv 3)]) (by decide +kernel) rfl rfl (Nat.le_of_ble_eq_true rfl) (fun X K hE => ?_)
  have hY0 := hY.1
  have t1 : gB1 (0 ≤ (3 : Int) ∧ (3 : Int) ≤ 11) = 1 := gB1_t (by omega)
  refine x_aload_0 K dX7_account_0 ?_
  refine x_iload_1 K dX7_account_1 ?_
  refine x_iconst K dX7_account_2 ?_
  refine x_bipush K dX7_account_3 rfl ?_
  refine x_callS3 K (c7_in 3 0 11 (by omega)) mtX7_in msX7_in lkRX7_61 ⟨by decide, by decide, by decide⟩ rfl (Nat.le_of_ble_eq_true rfl) dX7_account_5 ?_
  refine x_if_eq (tgt := 15) K (by omega) dX7_account_8 (by decide) (fun h8 => absurd h8 (by omega)) (fun h8 => ?_)
  refine x_iconst K dX7_account_11 ?_
  refine x_goto (tgt := 16) K dX7_account_12 (by decide) ?_
  refine x_putI K gpRX7_39 ⟨by decide, (by decide)⟩ dX7_account_16 ?_
  refine x_aload_0 K dX7_account_19 ?_
  refine x_getI K gfRX7_39 ⟨by decide, (by decide)⟩ dX7_account_20 ?_
  refine gWX.top (b := 0) rfl ?_
  refine x_if_le (tgt := 28) K (by omega) dX7_account_23 (by decide) (fun h23 => ?_) (fun h23 => absurd h23 (by omega))
  refine x_iload_1 K dX7_account_28 ?_
  refine x_tblIn (tgt := 99) K 3 (by omega) (by omega) (by omega) rfl dX7_account_29 (by decide) ?_
  refine x_aload_0 K dX7_account_99 ?_
  refine x_iload_1 K dX7_account_100 ?_
  refine x_callV1 K (c7_over_3 Y (gMs_u h 7 0) hY) mtX7_overScrolls miX7_overScrolls rc14 ⟨by decide, (by decide)⟩ lkRX7_250 ⟨by decide, by decide, by decide⟩ rfl (Nat.le_of_ble_eq_true rfl) dX7_account_101 ?_
  exact x_iret K hE rfl dX7_account_104 (by decide) (by decide) rfl rfl
theorem c7_account_k4 {E : gE} {σ : gS} (Y : Nat → Int) (h : gMs σ Y) (hY : gY Y) : gCt E mX7_account 12 0 [rf 14 0, iv 4] σ (.inl (some (iv (s_au Y 4)))) (gFl σ 0) := by
  refine gCt_of (L := [some (rf 14 0), some (iv 4)]) (by decide +kernel) rfl rfl (Nat.le_of_ble_eq_true rfl) (fun X K hE => ?_)
  have hY0 := hY.1
  have t1 : gB1 (0 ≤ (4 : Int) ∧ (4 : Int) ≤ 11) = 1 := gB1_t (by omega)
  refine x_aload_0 K dX7_account_0 ?_
  refine x_iload_1 K dX7_account_1 ?_
  refine x_iconst K dX7_account_2 ?_
  refine x_bipush K dX7_account_3 rfl ?_
  refine x_callS3 K (c7_in 4 0 11 (by omega)) mtX7_in msX7_in lkRX7_61 ⟨by decide, by decide, by decide⟩ rfl (Nat.le_of_ble_eq_true rfl) dX7_account_5 ?_
  refine x_if_eq (tgt := 15) K (by omega) dX7_account_8 (by decide) (fun h8 => absurd h8 (by omega)) (fun h8 => ?_)
  refine x_iconst K dX7_account_11 ?_
  refine x_goto (tgt := 16) K dX7_account_12 (by decide) ?_
  refine x_putI K gpRX7_39 ⟨by decide, (by decide)⟩ dX7_account_16 ?_
  refine x_aload_0 K dX7_account_19 ?_
  refine x_getI K gfRX7_39 ⟨by decide, (by decide)⟩ dX7_account_20 ?_
  refine gWX.top (b := 0) rfl ?_
  refine x_if_le (tgt := 28) K (by omega) dX7_account_23 (by decide) (fun h23 => ?_) (fun h23 => absurd h23 (by omega))
  refine x_iload_1 K dX7_account_28 ?_
  refine x_tblIn (tgt := 99) K 4 (by omega) (by omega) (by omega) rfl dX7_account_29 (by decide) ?_
  refine x_aload_0 K dX7_account_99 ?_
  refine x_iload_1 K dX7_account_100 ?_
  refine x_callV1 K (c7_over_4 Y (gMs_u h 7 0) hY) mtX7_overScrolls miX7_overScrolls rc14 ⟨by decide, (by decide)⟩ lkRX7_250 ⟨by decide, by decide, by decide⟩ rfl (Nat.le_of_ble_eq_true rfl) dX7_account_101 ?_
  exact x_iret K hE rfl dX7_account_104 (by decide) (by decide) rfl rfl
theorem c7_account_k5 {E : gE} {σ : gS} (Y : Nat → Int) (h : gMs σ Y) (hY : gY Y) : gCt E mX7_account 12 0 [rf 14 0, iv 5] σ (.inl (some (iv (s_au Y 5)))) (gFl σ 0) := by
  refine gCt_of (L := [some (rf 14 0), some (iv 5)]) (by decide +kernel) rfl rfl (Nat.le_of_ble_eq_true rfl) (fun X K hE => ?_)
  have hY0 := hY.1
  have t1 : gB1 (0 ≤ (5 : Int) ∧ (5 : Int) ≤ 11) = 1 := gB1_t (by omega)
  refine x_aload_0 K dX7_account_0 ?_
  refine x_iload_1 K dX7_account_1 ?_
  refine x_iconst K dX7_account_2 ?_
  refine x_bipush K dX7_account_3 rfl ?_
  refine x_callS3 K (c7_in 5 0 11 (by omega)) mtX7_in msX7_in lkRX7_61 ⟨by decide, by decide, by decide⟩ rfl (Nat.le_of_ble_eq_true rfl) dX7_account_5 ?_
  refine x_if_eq (tgt := 15) K (by omega) dX7_account_8 (by decide) (fun h8 => absurd h8 (by omega)) (fun h8 => ?_)
  refine x_iconst K dX7_account_11 ?_
  refine x_goto (tgt := 16) K dX7_account_12 (by decide) ?_
  refine x_putI K gpRX7_39 ⟨by decide, (by decide)⟩ dX7_account_16 ?_
  refine x_aload_0 K dX7_account_19 ?_
  refine x_getI K gfRX7_39 ⟨by decide, (by decide)⟩ dX7_account_20 ?_
  refine gWX.top (b := 0) rfl ?_
  refine x_if_le (tgt := 28) K (by omega) dX7_account_23 (by decide) (fun h23 => ?_) (fun h23 => absurd h23 (by omega))
  refine x_iload_1 K dX7_account_28 ?_
  refine x_tblIn (tgt := 99) K 5 (by omega) (by omega) (by omega) rfl dX7_account_29 (by decide) ?_
  refine x_aload_0 K dX7_account_99 ?_
  refine x_iload_1 K dX7_account_100 ?_
  refine x_callV1 K (c7_over_5 Y (gMs_u h 7 0) hY) mtX7_overScrolls miX7_overScrolls rc14 ⟨by decide, (by decide)⟩ lkRX7_250 ⟨by decide, by decide, by decide⟩ rfl (Nat.le_of_ble_eq_true rfl) dX7_account_101 ?_
  exact x_iret K hE rfl dX7_account_104 (by decide) (by decide) rfl rfl
theorem c7_account_k6 {E : gE} {σ : gS} (Y : Nat → Int) (h : gMs σ Y) (hY : gY Y) : gCt E mX7_account 12 0 [rf 14 0, iv 6] σ (.inl (some (iv (Y 1)))) (gFl σ 0) := by
  refine gCt_of (L := [some (rf 14 0), some (iv 6)]) (by decide +kernel) rfl rfl (Nat.le_of_ble_eq_true rfl) (fun X K hE => ?_)
  have hY0 := hY.1
  have t1 : gB1 (0 ≤ (6 : Int) ∧ (6 : Int) ≤ 11) = 1 := gB1_t (by omega)
  refine x_aload_0 K dX7_account_0 ?_
  refine x_iload_1 K dX7_account_1 ?_
  refine x_iconst K dX7_account_2 ?_
  refine x_bipush K dX7_account_3 rfl ?_
  refine x_callS3 K (c7_in 6 0 11 (by omega)) mtX7_in msX7_in lkRX7_61 ⟨by decide, by decide, by decide⟩ rfl (Nat.le_of_ble_eq_true rfl) dX7_account_5 ?_
  refine x_if_eq (tgt := 15) K (by omega) dX7_account_8 (by decide) (fun h8 => absurd h8 (by omega)) (fun h8 => ?_)
  refine x_iconst K dX7_account_11 ?_
  refine x_goto (tgt := 16) K dX7_account_12 (by decide) ?_
  refine x_putI K gpRX7_39 ⟨by decide, (by decide)⟩ dX7_account_16 ?_
  refine x_aload_0 K dX7_account_19 ?_
  refine x_getI K gfRX7_39 ⟨by decide, (by decide)⟩ dX7_account_20 ?_
  refine gWX.top (b := 0) rfl ?_
  refine x_if_le (tgt := 28) K (by omega) dX7_account_23 (by decide) (fun h23 => ?_) (fun h23 => absurd h23 (by omega))
  refine x_iload_1 K dX7_account_28 ?_
  refine x_tblIn (tgt := 115) K 6 (by omega) (by omega) (by omega) rfl dX7_account_29 (by decide) ?_
  refine x_aload_0 K dX7_account_115 ?_
  refine x_getC K gfRX7_9 ⟨by decide, (by decide)⟩ dX7_account_116 ?_
  refine x_iconst K dX7_account_119 ?_
  refine x_iload_1 K dX7_account_120 ?_
  refine x_iadd K dX7_account_121 ?_
  refine x_bipush K dX7_account_122 rfl ?_
  refine x_isub K dX7_account_124 ?_
  refine x_iald K 1 (by omega) rfl ⟨by decide, by decide⟩ (by omega) dX7_account_125 ?_
  exact x_iret K hE rfl dX7_account_126 (by decide) (by decide) (gMs_u h 7 0 1 (by omega)) rfl
theorem c7_account_k7 {E : gE} {σ : gS} (Y : Nat → Int) (h : gMs σ Y) (hY : gY Y) : gCt E mX7_account 12 0 [rf 14 0, iv 7] σ (.inl (some (iv (Y 2)))) (gFl σ 0) := by
  refine gCt_of (L := [some (rf 14 0), some (iv 7)]) (by decide +kernel) rfl rfl (Nat.le_of_ble_eq_true rfl) (fun X K hE => ?_)
  have hY0 := hY.1
  have t1 : gB1 (0 ≤ (7 : Int) ∧ (7 : Int) ≤ 11) = 1 := gB1_t (by omega)
  refine x_aload_0 K dX7_account_0 ?_
  refine x_iload_1 K dX7_account_1 ?_
  refine x_iconst K dX7_account_2 ?_
  refine x_bipush K dX7_account_3 rfl ?_
  refine x_callS3 K (c7_in 7 0 11 (by omega)) mtX7_in msX7_in lkRX7_61 ⟨by decide, by decide, by decide⟩ rfl (Nat.le_of_ble_eq_true rfl) dX7_account_5 ?_
  refine x_if_eq (tgt := 15) K (by omega) dX7_account_8 (by decide) (fun h8 => absurd h8 (by omega)) (fun h8 => ?_)
  refine x_iconst K dX7_account_11 ?_
  refine x_goto (tgt := 16) K dX7_account_12 (by decide) ?_
  refine x_putI K gpRX7_39 ⟨by decide, (by decide)⟩ dX7_account_16 ?_
  refine x_aload_0 K dX7_account_19 ?_
  refine x_getI K gfRX7_39 ⟨by decide, (by decide)⟩ dX7_account_20 ?_
  refine gWX.top (b := 0) rfl ?_
  refine x_if_le (tgt := 28) K (by omega) dX7_account_23 (by decide) (fun h23 => ?_) (fun h23 => absurd h23 (by omega))
  refine x_iload_1 K dX7_account_28 ?_
  refine x_tblIn (tgt := 115) K 7 (by omega) (by omega) (by omega) rfl dX7_account_29 (by decide) ?_
  refine x_aload_0 K dX7_account_115 ?_
  refine x_getC K gfRX7_9 ⟨by decide, (by decide)⟩ dX7_account_116 ?_
  refine x_iconst K dX7_account_119 ?_
  refine x_iload_1 K dX7_account_120 ?_
  refine x_iadd K dX7_account_121 ?_
  refine x_bipush K dX7_account_122 rfl ?_
  refine x_isub K dX7_account_124 ?_
  refine x_iald K 2 (by omega) rfl ⟨by decide, by decide⟩ (by omega) dX7_account_125 ?_
  exact x_iret K hE rfl dX7_account_126 (by decide) (by decide) (gMs_u h 7 0 2 (by omega)) rfl
theorem c7_account_k8 {E : gE} {σ : gS} (Y : Nat → Int) (h : gMs σ Y) (hY : gY Y) : gCt E mX7_account 12 0 [rf 14 0, iv 8] σ (.inl (some (iv (Y 3)))) (gFl σ 0) := by
  refine gCt_of (L := [some (rf 14 0), some (iv 8)]) (by decide +kernel) rfl rfl (Nat.le_of_ble_eq_true rfl) (fun X K hE => ?_)
  have hY0 := hY.1
  have t1 : gB1 (0 ≤ (8 : Int) ∧ (8 : Int) ≤ 11) = 1 := gB1_t (by omega)
  refine x_aload_0 K dX7_account_0 ?_
  refine x_iload_1 K dX7_account_1 ?_
  refine x_iconst K dX7_account_2 ?_
  refine x_bipush K dX7_account_3 rfl ?_
  refine x_callS3 K (c7_in 8 0 11 (by omega)) mtX7_in msX7_in lkRX7_61 ⟨by decide, by decide, by decide⟩ rfl (Nat.le_of_ble_eq_true rfl) dX7_account_5 ?_
  refine x_if_eq (tgt := 15) K (by omega) dX7_account_8 (by decide) (fun h8 => absurd h8 (by omega)) (fun h8 => ?_)
  refine x_iconst K dX7_account_11 ?_
  refine x_goto (tgt := 16) K dX7_account_12 (by decide) ?_
  refine x_putI K gpRX7_39 ⟨by decide, (by decide)⟩ dX7_account_16 ?_
  refine x_aload_0 K dX7_account_19 ?_
  refine x_getI K gfRX7_39 ⟨by decide, (by decide)⟩ dX7_account_20 ?_
  refine gWX.top (b := 0) rfl ?_
  refine x_if_le (tgt := 28) K (by omega) dX7_account_23 (by decide) (fun h23 => ?_) (fun h23 => absurd h23 (by omega))
  refine x_iload_1 K dX7_account_28 ?_
  refine x_tblIn (tgt := 115) K 8 (by omega) (by omega) (by omega) rfl dX7_account_29 (by decide) ?_
  refine x_aload_0 K dX7_account_115 ?_
  refine x_getC K gfRX7_9 ⟨by decide, (by decide)⟩ dX7_account_116 ?_
  refine x_iconst K dX7_account_119 ?_
  refine x_iload_1 K dX7_account_120 ?_
  refine x_iadd K dX7_account_121 ?_
  refine x_bipush K dX7_account_122 rfl ?_
  refine x_isub K dX7_account_124 ?_
  refine x_iald K 3 (by omega) rfl ⟨by decide, by decide⟩ (by omega) dX7_account_125 ?_
  exact x_iret K hE rfl dX7_account_126 (by decide) (by decide) (gMs_u h 7 0 3 (by omega)) rfl
theorem c7_account_k9 {E : gE} {σ : gS} (Y : Nat → Int) (h : gMs σ Y) (hY : gY Y) : gCt E mX7_account 12 0 [rf 14 0, iv 9] σ (.inl (some (iv (Y 4)))) (gFl σ 0) := by
  refine gCt_of (L := [some (rf 14 0), some (iv 9)]) (by decide +kernel) rfl rfl (Nat.le_of_ble_eq_true rfl) (fun X K hE => ?_)
  have hY0 := hY.1
  have t1 : gB1 (0 ≤ (9 : Int) ∧ (9 : Int) ≤ 11) = 1 := gB1_t (by omega)
  refine x_aload_0 K dX7_account_0 ?_
  refine x_iload_1 K dX7_account_1 ?_
  refine x_iconst K dX7_account_2 ?_
  refine x_bipush K dX7_account_3 rfl ?_
  refine x_callS3 K (c7_in 9 0 11 (by omega)) mtX7_in msX7_in lkRX7_61 ⟨by decide, by decide, by decide⟩ rfl (Nat.le_of_ble_eq_true rfl) dX7_account_5 ?_
  refine x_if_eq (tgt := 15) K (by omega) dX7_account_8 (by decide) (fun h8 => absurd h8 (by omega)) (fun h8 => ?_)
  refine x_iconst K dX7_account_11 ?_
  refine x_goto (tgt := 16) K dX7_account_12 (by decide) ?_
  refine x_putI K gpRX7_39 ⟨by decide, (by decide)⟩ dX7_account_16 ?_
  refine x_aload_0 K dX7_account_19 ?_
  refine x_getI K gfRX7_39 ⟨by decide, (by decide)⟩ dX7_account_20 ?_
  refine gWX.top (b := 0) rfl ?_
  refine x_if_le (tgt := 28) K (by omega) dX7_account_23 (by decide) (fun h23 => ?_) (fun h23 => absurd h23 (by omega))
  refine x_iload_1 K dX7_account_28 ?_
  refine x_tblIn (tgt := 115) K 9 (by omega) (by omega) (by omega) rfl dX7_account_29 (by decide) ?_
  refine x_aload_0 K dX7_account_115 ?_
  refine x_getC K gfRX7_9 ⟨by decide, (by decide)⟩ dX7_account_116 ?_
  refine x_iconst K dX7_account_119 ?_
  refine x_iload_1 K dX7_account_120 ?_
  refine x_iadd K dX7_account_121 ?_
  refine x_bipush K dX7_account_122 rfl ?_
  refine x_isub K dX7_account_124 ?_
  refine x_iald K 4 (by omega) rfl ⟨by decide, by decide⟩ (by omega) dX7_account_125 ?_
  exact x_iret K hE rfl dX7_account_126 (by decide) (by decide) (gMs_u h 7 0 4 (by omega)) rfl
theorem c7_account_k10 {E : gE} {σ : gS} (Y : Nat → Int) (h : gMs σ Y) (hY : gY Y) : gCt E mX7_account 12 0 [rf 14 0, iv 10] σ (.inl (some (iv (σ.1 14 0 14)))) (gFl σ 0) := by
  refine gCt_of (L := [some (rf 14 0), some (iv 10)]) (by decide +kernel) rfl rfl (Nat.le_of_ble_eq_true rfl) (fun X K hE => ?_)
  have hY0 := hY.1
  have t1 : gB1 (0 ≤ (10 : Int) ∧ (10 : Int) ≤ 11) = 1 := gB1_t (by omega)
  refine x_aload_0 K dX7_account_0 ?_
  refine x_iload_1 K dX7_account_1 ?_
  refine x_iconst K dX7_account_2 ?_
  refine x_bipush K dX7_account_3 rfl ?_
  refine x_callS3 K (c7_in 10 0 11 (by omega)) mtX7_in msX7_in lkRX7_61 ⟨by decide, by decide, by decide⟩ rfl (Nat.le_of_ble_eq_true rfl) dX7_account_5 ?_
  refine x_if_eq (tgt := 15) K (by omega) dX7_account_8 (by decide) (fun h8 => absurd h8 (by omega)) (fun h8 => ?_)
  refine x_iconst K dX7_account_11 ?_
  refine x_goto (tgt := 16) K dX7_account_12 (by decide) ?_
  refine x_putI K gpRX7_39 ⟨by decide, (by decide)⟩ dX7_account_16 ?_
  refine x_aload_0 K dX7_account_19 ?_
  refine x_getI K gfRX7_39 ⟨by decide, (by decide)⟩ dX7_account_20 ?_
  refine gWX.top (b := 0) rfl ?_
  refine x_if_le (tgt := 28) K (by omega) dX7_account_23 (by decide) (fun h23 => ?_) (fun h23 => absurd h23 (by omega))
  refine x_iload_1 K dX7_account_28 ?_
  refine x_tblIn (tgt := 105) K 10 (by omega) (by omega) (by omega) rfl dX7_account_29 (by decide) ?_
  refine x_aload_0 K dX7_account_105 ?_
  refine x_getI K gfRX7_209 ⟨by decide, (by decide)⟩ dX7_account_106 ?_
  exact x_iret K hE rfl dX7_account_109 (by decide) (by decide) rfl rfl
theorem c7_account_k11 {E : gE} {σ : gS} (Y : Nat → Int) (h : gMs σ Y) (hY : gY Y) : gCt E mX7_account 12 0 [rf 14 0, iv 11] σ (.inl (some (iv (σ.1 14 0 6)))) (gFl σ 0) := by
  refine gCt_of (L := [some (rf 14 0), some (iv 11)]) (by decide +kernel) rfl rfl (Nat.le_of_ble_eq_true rfl) (fun X K hE => ?_)
  have hY0 := hY.1
  have t1 : gB1 (0 ≤ (11 : Int) ∧ (11 : Int) ≤ 11) = 1 := gB1_t (by omega)
  refine x_aload_0 K dX7_account_0 ?_
  refine x_iload_1 K dX7_account_1 ?_
  refine x_iconst K dX7_account_2 ?_
  refine x_bipush K dX7_account_3 rfl ?_
  refine x_callS3 K (c7_in 11 0 11 (by omega)) mtX7_in msX7_in lkRX7_61 ⟨by decide, by decide, by decide⟩ rfl (Nat.le_of_ble_eq_true rfl) dX7_account_5 ?_
  refine x_if_eq (tgt := 15) K (by omega) dX7_account_8 (by decide) (fun h8 => absurd h8 (by omega)) (fun h8 => ?_)
  refine x_iconst K dX7_account_11 ?_
  refine x_goto (tgt := 16) K dX7_account_12 (by decide) ?_
  refine x_putI K gpRX7_39 ⟨by decide, (by decide)⟩ dX7_account_16 ?_
  refine x_aload_0 K dX7_account_19 ?_
  refine x_getI K gfRX7_39 ⟨by decide, (by decide)⟩ dX7_account_20 ?_
  refine gWX.top (b := 0) rfl ?_
  refine x_if_le (tgt := 28) K (by omega) dX7_account_23 (by decide) (fun h23 => ?_) (fun h23 => absurd h23 (by omega))
  refine x_iload_1 K dX7_account_28 ?_
  refine x_tblIn (tgt := 110) K 11 (by omega) (by omega) (by omega) rfl dX7_account_29 (by decide) ?_
  refine x_aload_0 K dX7_account_110 ?_
  refine x_getI K gfRX7_48 ⟨by decide, (by decide)⟩ dX7_account_111 ?_
  exact x_iret K hE rfl dX7_account_114 (by decide) (by decide) rfl rfl
theorem c7_account_a {E : gE} {σ : gS} (Y : Nat → Int) (h : gMs σ Y) (hY : gY Y) (k : Nat) (hk : k ≤ 5) : gCt E mX7_account 12 0 [rf 14 0, iv (k : Int)] σ (.inl (some (iv (s_au Y k)))) (gFl σ 0) := by
  obtain rfl | rfl | rfl | rfl | rfl | rfl : k = 0 ∨ k = 1 ∨ k = 2 ∨ k = 3 ∨ k = 4 ∨ k = 5 := by omega
  · exact c7_account_k0 Y h hY
  · exact c7_account_k1 Y h hY
  · exact c7_account_k2 Y h hY
  · exact c7_account_k3 Y h hY
  · exact c7_account_k4 Y h hY
  · exact c7_account_k5 Y h hY
def s_ac7 (σ : gS) (Y : Nat → Int) (k : Nat) : Int := if k = 10 then σ.1 14 0 14 else if k = 11 then σ.1 14 0 6 else Y (k - 5)
theorem c7_account_b {E : gE} {σ : gS} (Y : Nat → Int) (h : gMs σ Y) (hY : gY Y) (k : Nat) (hk : 6 ≤ k ∧ k ≤ 11) : gCt E mX7_account 12 0 [rf 14 0, iv (k : Int)] σ (.inl (some (iv (s_ac7 σ Y k)))) (gFl σ 0) := by
  obtain rfl | rfl | rfl | rfl | rfl | rfl : k = 6 ∨ k = 7 ∨ k = 8 ∨ k = 9 ∨ k = 10 ∨ k = 11 := by omega
  · exact c7_account_k6 Y h hY
  · exact c7_account_k7 Y h hY
  · exact c7_account_k8 Y h hY
  · exact c7_account_k9 Y h hY
  · exact c7_account_k10 Y h hY
  · exact c7_account_k11 Y h hY
theorem s_cln {z : Nat → Int} (hz : gZ z) (h2 : z 2 = 1) (hs : s_sm z = 0) (hr : s_wr z = 0) (hc : s_wc z = 0) : (∀ r : Nat, (r : Int) < z 0 → s_f z r = 0) ∧ ∀ c : Nat, (c : Int) < z 1 → s_f z (6 + c) = 0 := by
  have q0 := hz.1
  have q1 := hz.2.1
  have key : ∀ b, b < 14 → s_m z b = 0 → ¬ s_w z b = true → s_f z b = 0 := fun b hb hm hw => by
    have e : z (6 + b) = s_b z b % 10 := Classical.byContradiction (fun q => hw ((s_w_iff z b).mpr ⟨h2, hm, q⟩))
    unfold s_f
    rw [e]
    omega
  constructor
  · intro r hr2
    refine key r (by omega) ?_ (fun q => ?_)
    · rw [s_m_r z (by omega)]
      exact gSum_zero 8 (fun k hk => gB1_f (s_sm_no hz hs (by omega) hk))
    · have := gSum_nil 6 (fun k hk => (gB1_bd _).1) hr r (by omega)
      rw [gB1_t q] at this
      omega
  · intro c hc2
    refine key (6 + c) (by omega) ?_ (fun q => ?_)
    · rw [s_m_c z c]
      exact gSum_zero 6 (fun k hk => gB1_f (s_sm_no hz hs hk (by omega)))
    · have := gSum_nil 8 (fun k hk => (gB1_bd _).1) hc c (by omega)
      rw [gB1_t q] at this
      omega
theorem c7_isWell {E : gE} {σ : gS} (Y : Nat → Int) (h : gMs σ Y) (hY : gY Y) : gCt E mX7_isWell 12 0 [rf 14 0] σ (.inl (some (iv (s_well Y)))) (gFl σ 0) := by
  refine gCt_of (L := [some (rf 14 0), none, none, none, none, none, none]) (by decide +kernel) rfl rfl (Nat.le_of_ble_eq_true rfl) (fun X K hE => ?_)
  have hY0 := hY.1
  refine x_aload_0 K dX7_isWell_0 ?_
  refine x_iconst K dX7_isWell_1 ?_
  refine x_putI K gpRX7_39 ⟨by decide, (by decide)⟩ dX7_isWell_2 ?_
  refine x_iconst K dX7_isWell_5 ?_
  refine x_istore_1 K dX7_isWell_6 rfl ?_
  refine x_iconst K dX7_isWell_7 ?_
  refine x_istore_2 K dX7_isWell_8 rfl ?_
  refine x_iconst K dX7_isWell_9 ?_
  refine x_istore_3 K dX7_isWell_10 rfl ?_
  refine x_iconst K dX7_isWell_11 ?_
  refine x_istore_4 K dX7_isWell_12 rfl ?_
  refine gLp (P := fun i : Nat => gWX X E 0 0 14 [some (rf 14 0), some (iv 1), some (iv (gSum (fun n => zb Y n 4) i)), some (iv (gSum (fun n => zb Y n 5) i)), some (iv (i : Nat)), none, none] [] (gFl σ 0)) ((Y 0).toNat) (fun k0 => ?_) (fun i hi ih => ?_) ?_
  · exact gWX.to rfl rfl (k0)
  · have hi9 : (i : Int) < Y 0 := by omega
    have hz := hY.2 i hi9
    have ⟨q0, q1, q2, q3, q4, q5, q6, q7, q8⟩ := hz
    have bsm := s_sm_bd hz
    have bwr := s_wr_bd (zb Y i)
    have bwc := s_wc_bd (zb Y i)
    have bse := gB1_bd (zb Y i 2 = 1)
    refine x_iload_4 K dX7_isWell_14 ?_
    refine x_aload_0 K dX7_isWell_16 ?_
    refine x_getC K gfRX7_9 ⟨by decide, (by decide)⟩ dX7_isWell_17 ?_
    refine x_iconst K dX7_isWell_20 ?_
    refine x_iald K 0 rfl rfl ⟨by decide, by decide⟩ (by omega) dX7_isWell_21 ?_
    refine gWX.top (b := Y 0) (gMs_u h 7 0 0 (by omega)) ?_
    refine x_icmp_ge (tgt := 192) K (by omega) dX7_isWell_22 (by decide) (fun h22 => absurd h22 (by omega)) (fun h22 => ?_)
    refine x_aload_0 K dX7_isWell_25 ?_
    refine x_iload_4 K dX7_isWell_26 ?_
    refine x_callV1 K (c7_isSealed Y (gMs_u h 7 0) hY i hi9) mtX7_isSealed miX7_isSealed rc14 ⟨by decide, (by decide)⟩ lkRX7_111 ⟨by decide, by decide, by decide⟩ rfl (Nat.le_of_ble_eq_true rfl) dX7_isWell_28 ?_
    refine x_if_eq (tgt := 67) K (by omega) dX7_isWell_31 (by decide) (fun h31 => ?_) (fun h31 => ?_)
    · refine x_iconst K dX7_isWell_67 ?_
      refine x_istore_5 K dX7_isWell_68 rfl ?_
      refine x_iconst K dX7_isWell_70 ?_
      refine x_istore_6 K dX7_isWell_71 rfl ?_
      refine x_iload_6 K dX7_isWell_73 ?_
      refine x_aload_0 K dX7_isWell_75 ?_
      refine x_iload_4 K dX7_isWell_76 ?_
      refine x_iconst K dX7_isWell_78 ?_
      refine x_callV2 K (c7_of Y (gMs_u h 7 0) i 0 (by omega) (by omega)) mtX7_of miX7_of rc14 ⟨by decide, (by decide)⟩ lkRX7_69 ⟨by decide, by decide, by decide⟩ rfl (Nat.le_of_ble_eq_true rfl) dX7_isWell_79 ?_
      refine x_icmp_ge (tgt := 118) K (by omega) dX7_isWell_82 (by decide) (fun h82 => absurd h82 (by omega)) (fun h82 => ?_)
      refine x_iload_5 K dX7_isWell_85 ?_
      refine x_if_eq (tgt := 118) K (by omega) dX7_isWell_87 (by decide) (fun h87 => ?_) (fun h87 => absurd h87 (by omega))
      refine x_iconst K dX7_isWell_118 ?_
      refine x_istore_6 K dX7_isWell_119 rfl ?_
      refine x_iload_6 K dX7_isWell_121 ?_
      refine x_aload_0 K dX7_isWell_123 ?_
      refine x_iload_4 K dX7_isWell_124 ?_
      refine x_iconst K dX7_isWell_126 ?_
      refine x_callV2 K (c7_of Y (gMs_u h 7 0) i 1 (by omega) (by omega)) mtX7_of miX7_of rc14 ⟨by decide, (by decide)⟩ lkRX7_69 ⟨by decide, by decide, by decide⟩ rfl (Nat.le_of_ble_eq_true rfl) dX7_isWell_127 ?_
      refine x_icmp_ge (tgt := 166) K (by omega) dX7_isWell_130 (by decide) (fun h130 => absurd h130 (by omega)) (fun h130 => ?_)
      refine x_iload_5 K dX7_isWell_133 ?_
      refine x_if_eq (tgt := 166) K (by omega) dX7_isWell_135 (by decide) (fun h135 => ?_) (fun h135 => absurd h135 (by omega))
      refine x_iload_2 K dX7_isWell_166 ?_
      refine x_aload_0 K dX7_isWell_167 ?_
      refine x_iload_4 K dX7_isWell_168 ?_
      refine x_iconst K dX7_isWell_170 ?_
      refine x_callV2 K (c7_of Y (gMs_u h 7 0) i 4 (by omega) (by omega)) mtX7_of miX7_of rc14 ⟨by decide, (by decide)⟩ lkRX7_69 ⟨by decide, by decide, by decide⟩ rfl (Nat.le_of_ble_eq_true rfl) dX7_isWell_171 ?_
      refine x_iadd K dX7_isWell_174 ?_
      refine x_istore_2 K dX7_isWell_175 rfl ?_
      refine x_iload_3 K dX7_isWell_176 ?_
      refine x_aload_0 K dX7_isWell_177 ?_
      refine x_iload_4 K dX7_isWell_178 ?_
      refine x_iconst K dX7_isWell_180 ?_
      refine x_callV2 K (c7_of Y (gMs_u h 7 0) i 5 (by omega) (by omega)) mtX7_of miX7_of rc14 ⟨by decide, (by decide)⟩ lkRX7_69 ⟨by decide, by decide, by decide⟩ rfl (Nat.le_of_ble_eq_true rfl) dX7_isWell_181 ?_
      refine x_iadd K dX7_isWell_184 ?_
      refine x_istore_3 K dX7_isWell_185 rfl ?_
      refine x_iinc_4 K dX7_isWell_186 rfl ?_
      refine x_goto (tgt := 14) K dX7_isWell_189 (by decide) ?_
      exact gWX.fgt 5 (gWX.fgt 6 (gWX.to rfl rfl ih))
    · have hse : zb Y i 2 = 1 := Classical.byContradiction (fun q => h31 (gB1_f q))
      refine x_aload_0 K dX7_isWell_34 ?_
      refine x_iload_4 K dX7_isWell_35 ?_
      refine x_callV1 K (c7_smudged Y (gMs_u h 7 0) hY i hi9) mtX7_smudged miX7_smudged rc14 ⟨by decide, (by decide)⟩ lkRX7_134 ⟨by decide, by decide, by decide⟩ rfl (Nat.le_of_ble_eq_true rfl) dX7_isWell_37 ?_
      refine x_if_ne (tgt := 67) K (by omega) dX7_isWell_40 (by decide) (fun h40 => ?_) (fun h40 => ?_)
      · refine x_iconst K dX7_isWell_67 ?_
        refine x_istore_5 K dX7_isWell_68 rfl ?_
        refine x_iconst K dX7_isWell_70 ?_
        refine x_istore_6 K dX7_isWell_71 rfl ?_
        refine x_iload_6 K dX7_isWell_73 ?_
        refine x_aload_0 K dX7_isWell_75 ?_
        refine x_iload_4 K dX7_isWell_76 ?_
        refine x_iconst K dX7_isWell_78 ?_
        refine x_callV2 K (c7_of Y (gMs_u h 7 0) i 0 (by omega) (by omega)) mtX7_of miX7_of rc14 ⟨by decide, (by decide)⟩ lkRX7_69 ⟨by decide, by decide, by decide⟩ rfl (Nat.le_of_ble_eq_true rfl) dX7_isWell_79 ?_
        refine x_icmp_ge (tgt := 118) K (by omega) dX7_isWell_82 (by decide) (fun h82 => absurd h82 (by omega)) (fun h82 => ?_)
        refine x_iload_5 K dX7_isWell_85 ?_
        refine x_if_eq (tgt := 118) K (by omega) dX7_isWell_87 (by decide) (fun h87 => ?_) (fun h87 => absurd h87 (by omega))
        refine x_iconst K dX7_isWell_118 ?_
        refine x_istore_6 K dX7_isWell_119 rfl ?_
        refine x_iload_6 K dX7_isWell_121 ?_
        refine x_aload_0 K dX7_isWell_123 ?_
        refine x_iload_4 K dX7_isWell_124 ?_
        refine x_iconst K dX7_isWell_126 ?_
        refine x_callV2 K (c7_of Y (gMs_u h 7 0) i 1 (by omega) (by omega)) mtX7_of miX7_of rc14 ⟨by decide, (by decide)⟩ lkRX7_69 ⟨by decide, by decide, by decide⟩ rfl (Nat.le_of_ble_eq_true rfl) dX7_isWell_127 ?_
        refine x_icmp_ge (tgt := 166) K (by omega) dX7_isWell_130 (by decide) (fun h130 => absurd h130 (by omega)) (fun h130 => ?_)
        refine x_iload_5 K dX7_isWell_133 ?_
        refine x_if_eq (tgt := 166) K (by omega) dX7_isWell_135 (by decide) (fun h135 => ?_) (fun h135 => absurd h135 (by omega))
        refine x_iload_2 K dX7_isWell_166 ?_
        refine x_aload_0 K dX7_isWell_167 ?_
        refine x_iload_4 K dX7_isWell_168 ?_
        refine x_iconst K dX7_isWell_170 ?_
        refine x_callV2 K (c7_of Y (gMs_u h 7 0) i 4 (by omega) (by omega)) mtX7_of miX7_of rc14 ⟨by decide, (by decide)⟩ lkRX7_69 ⟨by decide, by decide, by decide⟩ rfl (Nat.le_of_ble_eq_true rfl) dX7_isWell_171 ?_
        refine x_iadd K dX7_isWell_174 ?_
        refine x_istore_2 K dX7_isWell_175 rfl ?_
        refine x_iload_3 K dX7_isWell_176 ?_
        refine x_aload_0 K dX7_isWell_177 ?_
        refine x_iload_4 K dX7_isWell_178 ?_
        refine x_iconst K dX7_isWell_180 ?_
        refine x_callV2 K (c7_of Y (gMs_u h 7 0) i 5 (by omega) (by omega)) mtX7_of miX7_of rc14 ⟨by decide, (by decide)⟩ lkRX7_69 ⟨by decide, by decide, by decide⟩ rfl (Nat.le_of_ble_eq_true rfl) dX7_isWell_181 ?_
        refine x_iadd K dX7_isWell_184 ?_
        refine x_istore_3 K dX7_isWell_185 rfl ?_
        refine x_iinc_4 K dX7_isWell_186 rfl ?_
        refine x_goto (tgt := 14) K dX7_isWell_189 (by decide) ?_
        exact gWX.fgt 5 (gWX.fgt 6 (gWX.to rfl rfl ih))
      · refine x_aload_0 K dX7_isWell_43 ?_
        refine x_iload_4 K dX7_isWell_44 ?_
        refine x_iconst K dX7_isWell_46 ?_
        refine x_callV2 K (c7_wrongMany_r Y (gMs_u h 7 0) hY i hi9) mtX7_wrongMany miX7_wrongMany rc14 ⟨by decide, (by decide)⟩ lkRX7_160 ⟨by decide, by decide, by decide⟩ rfl (Nat.le_of_ble_eq_true rfl) dX7_isWell_47 ?_
        refine x_if_ne (tgt := 67) K (by omega) dX7_isWell_50 (by decide) (fun h50 => ?_) (fun h50 => ?_)
        · refine x_iconst K dX7_isWell_67 ?_
          refine x_istore_5 K dX7_isWell_68 rfl ?_
          refine x_iconst K dX7_isWell_70 ?_
          refine x_istore_6 K dX7_isWell_71 rfl ?_
          refine x_iload_6 K dX7_isWell_73 ?_
          refine x_aload_0 K dX7_isWell_75 ?_
          refine x_iload_4 K dX7_isWell_76 ?_
          refine x_iconst K dX7_isWell_78 ?_
          refine x_callV2 K (c7_of Y (gMs_u h 7 0) i 0 (by omega) (by omega)) mtX7_of miX7_of rc14 ⟨by decide, (by decide)⟩ lkRX7_69 ⟨by decide, by decide, by decide⟩ rfl (Nat.le_of_ble_eq_true rfl) dX7_isWell_79 ?_
          refine x_icmp_ge (tgt := 118) K (by omega) dX7_isWell_82 (by decide) (fun h82 => absurd h82 (by omega)) (fun h82 => ?_)
          refine x_iload_5 K dX7_isWell_85 ?_
          refine x_if_eq (tgt := 118) K (by omega) dX7_isWell_87 (by decide) (fun h87 => ?_) (fun h87 => absurd h87 (by omega))
          refine x_iconst K dX7_isWell_118 ?_
          refine x_istore_6 K dX7_isWell_119 rfl ?_
          refine x_iload_6 K dX7_isWell_121 ?_
          refine x_aload_0 K dX7_isWell_123 ?_
          refine x_iload_4 K dX7_isWell_124 ?_
          refine x_iconst K dX7_isWell_126 ?_
          refine x_callV2 K (c7_of Y (gMs_u h 7 0) i 1 (by omega) (by omega)) mtX7_of miX7_of rc14 ⟨by decide, (by decide)⟩ lkRX7_69 ⟨by decide, by decide, by decide⟩ rfl (Nat.le_of_ble_eq_true rfl) dX7_isWell_127 ?_
          refine x_icmp_ge (tgt := 166) K (by omega) dX7_isWell_130 (by decide) (fun h130 => absurd h130 (by omega)) (fun h130 => ?_)
          refine x_iload_5 K dX7_isWell_133 ?_
          refine x_if_eq (tgt := 166) K (by omega) dX7_isWell_135 (by decide) (fun h135 => ?_) (fun h135 => absurd h135 (by omega))
          refine x_iload_2 K dX7_isWell_166 ?_
          refine x_aload_0 K dX7_isWell_167 ?_
          refine x_iload_4 K dX7_isWell_168 ?_
          refine x_iconst K dX7_isWell_170 ?_
          refine x_callV2 K (c7_of Y (gMs_u h 7 0) i 4 (by omega) (by omega)) mtX7_of miX7_of rc14 ⟨by decide, (by decide)⟩ lkRX7_69 ⟨by decide, by decide, by decide⟩ rfl (Nat.le_of_ble_eq_true rfl) dX7_isWell_171 ?_
          refine x_iadd K dX7_isWell_174 ?_
          refine x_istore_2 K dX7_isWell_175 rfl ?_
          refine x_iload_3 K dX7_isWell_176 ?_
          refine x_aload_0 K dX7_isWell_177 ?_
          refine x_iload_4 K dX7_isWell_178 ?_
          refine x_iconst K dX7_isWell_180 ?_
          refine x_callV2 K (c7_of Y (gMs_u h 7 0) i 5 (by omega) (by omega)) mtX7_of miX7_of rc14 ⟨by decide, (by decide)⟩ lkRX7_69 ⟨by decide, by decide, by decide⟩ rfl (Nat.le_of_ble_eq_true rfl) dX7_isWell_181 ?_
          refine x_iadd K dX7_isWell_184 ?_
          refine x_istore_3 K dX7_isWell_185 rfl ?_
          refine x_iinc_4 K dX7_isWell_186 rfl ?_
          refine x_goto (tgt := 14) K dX7_isWell_189 (by decide) ?_
          exact gWX.fgt 5 (gWX.fgt 6 (gWX.to rfl rfl ih))
        · refine x_aload_0 K dX7_isWell_53 ?_
          refine x_iload_4 K dX7_isWell_54 ?_
          refine x_iconst K dX7_isWell_56 ?_
          refine x_callV2 K (c7_wrongMany_c Y (gMs_u h 7 0) hY i hi9) mtX7_wrongMany miX7_wrongMany rc14 ⟨by decide, (by decide)⟩ lkRX7_160 ⟨by decide, by decide, by decide⟩ rfl (Nat.le_of_ble_eq_true rfl) dX7_isWell_57 ?_
          refine x_if_ne (tgt := 67) K (by omega) dX7_isWell_60 (by decide) (fun h60 => ?_) (fun h60 => ?_)
          · refine x_iconst K dX7_isWell_67 ?_
            refine x_istore_5 K dX7_isWell_68 rfl ?_
            refine x_iconst K dX7_isWell_70 ?_
            refine x_istore_6 K dX7_isWell_71 rfl ?_
            refine x_iload_6 K dX7_isWell_73 ?_
            refine x_aload_0 K dX7_isWell_75 ?_
            refine x_iload_4 K dX7_isWell_76 ?_
            refine x_iconst K dX7_isWell_78 ?_
            refine x_callV2 K (c7_of Y (gMs_u h 7 0) i 0 (by omega) (by omega)) mtX7_of miX7_of rc14 ⟨by decide, (by decide)⟩ lkRX7_69 ⟨by decide, by decide, by decide⟩ rfl (Nat.le_of_ble_eq_true rfl) dX7_isWell_79 ?_
            refine x_icmp_ge (tgt := 118) K (by omega) dX7_isWell_82 (by decide) (fun h82 => absurd h82 (by omega)) (fun h82 => ?_)
            refine x_iload_5 K dX7_isWell_85 ?_
            refine x_if_eq (tgt := 118) K (by omega) dX7_isWell_87 (by decide) (fun h87 => ?_) (fun h87 => absurd h87 (by omega))
            refine x_iconst K dX7_isWell_118 ?_
            refine x_istore_6 K dX7_isWell_119 rfl ?_
            refine x_iload_6 K dX7_isWell_121 ?_
            refine x_aload_0 K dX7_isWell_123 ?_
            refine x_iload_4 K dX7_isWell_124 ?_
            refine x_iconst K dX7_isWell_126 ?_
            refine x_callV2 K (c7_of Y (gMs_u h 7 0) i 1 (by omega) (by omega)) mtX7_of miX7_of rc14 ⟨by decide, (by decide)⟩ lkRX7_69 ⟨by decide, by decide, by decide⟩ rfl (Nat.le_of_ble_eq_true rfl) dX7_isWell_127 ?_
            refine x_icmp_ge (tgt := 166) K (by omega) dX7_isWell_130 (by decide) (fun h130 => absurd h130 (by omega)) (fun h130 => ?_)
            refine x_iload_5 K dX7_isWell_133 ?_
            refine x_if_eq (tgt := 166) K (by omega) dX7_isWell_135 (by decide) (fun h135 => ?_) (fun h135 => absurd h135 (by omega))
            refine x_iload_2 K dX7_isWell_166 ?_
            refine x_aload_0 K dX7_isWell_167 ?_
            refine x_iload_4 K dX7_isWell_168 ?_
            refine x_iconst K dX7_isWell_170 ?_
            refine x_callV2 K (c7_of Y (gMs_u h 7 0) i 4 (by omega) (by omega)) mtX7_of miX7_of rc14 ⟨by decide, (by decide)⟩ lkRX7_69 ⟨by decide, by decide, by decide⟩ rfl (Nat.le_of_ble_eq_true rfl) dX7_isWell_171 ?_
            refine x_iadd K dX7_isWell_174 ?_
            refine x_istore_2 K dX7_isWell_175 rfl ?_
            refine x_iload_3 K dX7_isWell_176 ?_
            refine x_aload_0 K dX7_isWell_177 ?_
            refine x_iload_4 K dX7_isWell_178 ?_
            refine x_iconst K dX7_isWell_180 ?_
            refine x_callV2 K (c7_of Y (gMs_u h 7 0) i 5 (by omega) (by omega)) mtX7_of miX7_of rc14 ⟨by decide, (by decide)⟩ lkRX7_69 ⟨by decide, by decide, by decide⟩ rfl (Nat.le_of_ble_eq_true rfl) dX7_isWell_181 ?_
            refine x_iadd K dX7_isWell_184 ?_
            refine x_istore_3 K dX7_isWell_185 rfl ?_
            refine x_iinc_4 K dX7_isWell_186 rfl ?_
            refine x_goto (tgt := 14) K dX7_isWell_189 (by decide) ?_
            exact gWX.fgt 5 (gWX.fgt 6 (gWX.to rfl rfl ih))
          · have hcl := s_cln hz hse (by omega) (by omega) (by omega)
            refine x_iconst K dX7_isWell_63 ?_
            refine x_goto (tgt := 68) K dX7_isWell_64 (by decide) ?_
            refine x_istore_5 K dX7_isWell_68 rfl ?_
            refine x_iconst K dX7_isWell_70 ?_
            refine x_istore_6 K dX7_isWell_71 rfl ?_
            refine gLp (P := fun r : Nat => gWX X E 0 0 73 [some (rf 14 0), some (iv 1), some (iv (gSum (fun n => zb Y n 4) i)), some (iv (gSum (fun n => zb Y n 5) i)), some (iv (i : Nat)), some (iv 1), some (iv (r : Int))] [] (gFl σ 0)) ((zb Y i 0).toNat) (fun k0 => ?_) (fun r hr ih => ?_) ?_
            · exact gWX.to rfl rfl (k0)
            · have hf0 := hcl.1 r (by omega)
              refine x_iload_6 K dX7_isWell_73 ?_
              refine x_aload_0 K dX7_isWell_75 ?_
              refine x_iload_4 K dX7_isWell_76 ?_
              refine x_iconst K dX7_isWell_78 ?_
              refine x_callV2 K (c7_of Y (gMs_u h 7 0) i 0 (by omega) (by omega)) mtX7_of miX7_of rc14 ⟨by decide, (by decide)⟩ lkRX7_69 ⟨by decide, by decide, by decide⟩ rfl (Nat.le_of_ble_eq_true rfl) dX7_isWell_79 ?_
              refine x_icmp_ge (tgt := 118) K (by omega) dX7_isWell_82 (by decide) (fun h82 => absurd h82 (by omega)) (fun h82 => ?_)
              refine x_iload_5 K dX7_isWell_85 ?_
              refine x_if_eq (tgt := 118) K (by omega) dX7_isWell_87 (by decide) (fun h87 => absurd h87 (by omega)) (fun h87 => ?_)
              refine x_iload_1 K dX7_isWell_90 ?_
              refine x_if_eq (tgt := 110) K (by omega) dX7_isWell_91 (by decide) (fun h91 => absurd h91 (by omega)) (fun h91 => ?_)
              refine x_aload_0 K dX7_isWell_94 ?_
              refine x_iload_4 K dX7_isWell_95 ?_
              refine x_iconst K dX7_isWell_97 ?_
              refine x_iload_6 K dX7_isWell_98 ?_
              refine x_callV3 K (c7_faultOf_r Y (gMs_u h 7 0) hY i hi9 r (by omega)) mtX7_faultOf miX7_faultOf rc14 ⟨by decide, (by decide)⟩ lkRX7_114 ⟨by decide, by decide, by decide⟩ rfl (Nat.le_of_ble_eq_true rfl) dX7_isWell_100 ?_
              refine x_if_ne (tgt := 110) K (by omega) dX7_isWell_103 (by decide) (fun h103 => absurd h103 (by omega)) (fun h103 => ?_)
              refine x_iconst K dX7_isWell_106 ?_
              refine x_goto (tgt := 111) K dX7_isWell_107 (by decide) ?_
              refine x_istore_1 K dX7_isWell_111 rfl ?_
              refine x_iinc_6 K dX7_isWell_112 rfl ?_
              refine x_goto (tgt := 73) K dX7_isWell_115 (by decide) ?_
              exact gWX.to rfl rfl (ih)
            · refine x_iload_6 K dX7_isWell_73 ?_
              refine x_aload_0 K dX7_isWell_75 ?_
              refine x_iload_4 K dX7_isWell_76 ?_
              refine x_iconst K dX7_isWell_78 ?_
              refine x_callV2 K (c7_of Y (gMs_u h 7 0) i 0 (by omega) (by omega)) mtX7_of miX7_of rc14 ⟨by decide, (by decide)⟩ lkRX7_69 ⟨by decide, by decide, by decide⟩ rfl (Nat.le_of_ble_eq_true rfl) dX7_isWell_79 ?_
              refine x_icmp_ge (tgt := 118) K (by omega) dX7_isWell_82 (by decide) (fun h82 => ?_) (fun h82 => absurd h82 (by omega))
              refine x_iconst K dX7_isWell_118 ?_
              refine x_istore_6 K dX7_isWell_119 rfl ?_
              refine gLp (P := fun r : Nat => gWX X E 0 0 121 [some (rf 14 0), some (iv 1), some (iv (gSum (fun n => zb Y n 4) i)), some (iv (gSum (fun n => zb Y n 5) i)), some (iv (i : Nat)), some (iv 1), some (iv (r : Int))] [] (gFl σ 0)) ((zb Y i 1).toNat) (fun k0 => ?_) (fun r hr ih => ?_) ?_
              · exact gWX.to rfl rfl (k0)
              · have hf0 := hcl.2 r (by omega)
                refine x_iload_6 K dX7_isWell_121 ?_
                refine x_aload_0 K dX7_isWell_123 ?_
                refine x_iload_4 K dX7_isWell_124 ?_
                refine x_iconst K dX7_isWell_126 ?_
                refine x_callV2 K (c7_of Y (gMs_u h 7 0) i 1 (by omega) (by omega)) mtX7_of miX7_of rc14 ⟨by decide, (by decide)⟩ lkRX7_69 ⟨by decide, by decide, by decide⟩ rfl (Nat.le_of_ble_eq_true rfl) dX7_isWell_127 ?_
                refine x_icmp_ge (tgt := 166) K (by omega) dX7_isWell_130 (by decide) (fun h130 => absurd h130 (by omega)) (fun h130 => ?_)
                refine x_iload_5 K dX7_isWell_133 ?_
                refine x_if_eq (tgt := 166) K (by omega) dX7_isWell_135 (by decide) (fun h135 => absurd h135 (by omega)) (fun h135 => ?_)
                refine x_iload_1 K dX7_isWell_138 ?_
                refine x_if_eq (tgt := 158) K (by omega) dX7_isWell_139 (by decide) (fun h139 => absurd h139 (by omega)) (fun h139 => ?_)
                refine x_aload_0 K dX7_isWell_142 ?_
                refine x_iload_4 K dX7_isWell_143 ?_
                refine x_iconst K dX7_isWell_145 ?_
                refine x_iload_6 K dX7_isWell_146 ?_
                refine x_callV3 K (c7_faultOf_c Y (gMs_u h 7 0) hY i hi9 r (by omega)) mtX7_faultOf miX7_faultOf rc14 ⟨by decide, (by decide)⟩ lkRX7_114 ⟨by decide, by decide, by decide⟩ rfl (Nat.le_of_ble_eq_true rfl) dX7_isWell_148 ?_
                refine x_if_ne (tgt := 158) K (by omega) dX7_isWell_151 (by decide) (fun h151 => absurd h151 (by omega)) (fun h151 => ?_)
                refine x_iconst K dX7_isWell_154 ?_
                refine x_goto (tgt := 159) K dX7_isWell_155 (by decide) ?_
                refine x_istore_1 K dX7_isWell_159 rfl ?_
                refine x_iinc_6 K dX7_isWell_160 rfl ?_
                refine x_goto (tgt := 121) K dX7_isWell_163 (by decide) ?_
                exact gWX.to rfl rfl (ih)
              · refine x_iload_6 K dX7_isWell_121 ?_
                refine x_aload_0 K dX7_isWell_123 ?_
                refine x_iload_4 K dX7_isWell_124 ?_
                refine x_iconst K dX7_isWell_126 ?_
                refine x_callV2 K (c7_of Y (gMs_u h 7 0) i 1 (by omega) (by omega)) mtX7_of miX7_of rc14 ⟨by decide, (by decide)⟩ lkRX7_69 ⟨by decide, by decide, by decide⟩ rfl (Nat.le_of_ble_eq_true rfl) dX7_isWell_127 ?_
                refine x_icmp_ge (tgt := 166) K (by omega) dX7_isWell_130 (by decide) (fun h130 => ?_) (fun h130 => absurd h130 (by omega))
                refine x_iload_2 K dX7_isWell_166 ?_
                refine x_aload_0 K dX7_isWell_167 ?_
                refine x_iload_4 K dX7_isWell_168 ?_
                refine x_iconst K dX7_isWell_170 ?_
                refine x_callV2 K (c7_of Y (gMs_u h 7 0) i 4 (by omega) (by omega)) mtX7_of miX7_of rc14 ⟨by decide, (by decide)⟩ lkRX7_69 ⟨by decide, by decide, by decide⟩ rfl (Nat.le_of_ble_eq_true rfl) dX7_isWell_171 ?_
                refine x_iadd K dX7_isWell_174 ?_
                refine x_istore_2 K dX7_isWell_175 rfl ?_
                refine x_iload_3 K dX7_isWell_176 ?_
                refine x_aload_0 K dX7_isWell_177 ?_
                refine x_iload_4 K dX7_isWell_178 ?_
                refine x_iconst K dX7_isWell_180 ?_
                refine x_callV2 K (c7_of Y (gMs_u h 7 0) i 5 (by omega) (by omega)) mtX7_of miX7_of rc14 ⟨by decide, (by decide)⟩ lkRX7_69 ⟨by decide, by decide, by decide⟩ rfl (Nat.le_of_ble_eq_true rfl) dX7_isWell_181 ?_
                refine x_iadd K dX7_isWell_184 ?_
                refine x_istore_3 K dX7_isWell_185 rfl ?_
                refine x_iinc_4 K dX7_isWell_186 rfl ?_
                refine x_goto (tgt := 14) K dX7_isWell_189 (by decide) ?_
                exact gWX.fgt 5 (gWX.fgt 6 (gWX.to rfl rfl ih))
  · refine x_iload_4 K dX7_isWell_14 ?_
    refine x_aload_0 K dX7_isWell_16 ?_
    refine x_getC K gfRX7_9 ⟨by decide, (by decide)⟩ dX7_isWell_17 ?_
    refine x_iconst K dX7_isWell_20 ?_
    refine x_iald K 0 rfl rfl ⟨by decide, by decide⟩ (by omega) dX7_isWell_21 ?_
    refine gWX.top (b := Y 0) (gMs_u h 7 0 0 (by omega)) ?_
    refine x_icmp_ge (tgt := 192) K (by omega) dX7_isWell_22 (by decide) (fun h22 => ?_) (fun h22 => absurd h22 (by omega))
    refine x_iload_1 K dX7_isWell_192 ?_
    refine x_if_eq (tgt := 220) K (by omega) dX7_isWell_193 (by decide) (fun h193 => absurd h193 (by omega)) (fun h193 => ?_)
    refine x_iload_2 K dX7_isWell_196 ?_
    refine x_aload_0 K dX7_isWell_197 ?_
    refine x_getC K gfRX7_9 ⟨by decide, (by decide)⟩ dX7_isWell_198 ?_
    refine x_iconst K dX7_isWell_201 ?_
    refine x_iald K 3 rfl rfl ⟨by decide, by decide⟩ (by omega) dX7_isWell_202 ?_
    refine gWX.top (b := Y 3) (gMs_u h 7 0 3 (by omega)) ?_
    refine x_icmpu_ne (tgt := 220) K dX7_isWell_203 (by decide) (fun h203 => ?_) (fun h203 => ?_)
    · refine x_iconst K dX7_isWell_220 ?_
      exact x_zret K hE rfl dX7_isWell_221 (by decide) (by decide) (by omega) (by
  first
    | exact (gB1_t ⟨h203, h213⟩).symm
    | exact (gB1_f (fun q => h203 q.1)).symm
    | exact (gB1_f (fun q => h213 q.2)).symm) rfl
    · refine x_iload_3 K dX7_isWell_206 ?_
      refine x_aload_0 K dX7_isWell_207 ?_
      refine x_getC K gfRX7_9 ⟨by decide, (by decide)⟩ dX7_isWell_208 ?_
      refine x_iconst K dX7_isWell_211 ?_
      refine x_iald K 4 rfl rfl ⟨by decide, by decide⟩ (by omega) dX7_isWell_212 ?_
      refine gWX.top (b := Y 4) (gMs_u h 7 0 4 (by omega)) ?_
      refine x_icmpu_ne (tgt := 220) K dX7_isWell_213 (by decide) (fun h213 => ?_) (fun h213 => ?_)
      · refine x_iconst K dX7_isWell_220 ?_
        exact x_zret K hE rfl dX7_isWell_221 (by decide) (by decide) (by omega) (by
  first
    | exact (gB1_t ⟨h203, h213⟩).symm
    | exact (gB1_f (fun q => h203 q.1)).symm
    | exact (gB1_f (fun q => h213 q.2)).symm) rfl
      · refine x_iconst K dX7_isWell_216 ?_
        refine x_goto (tgt := 221) K dX7_isWell_217 (by decide) ?_
        exact x_zret K hE rfl dX7_isWell_221 (by decide) (by decide) (by omega) (by
  first
    | exact (gB1_t ⟨h203, h213⟩).symm
    | exact (gB1_f (fun q => h203 q.1)).symm
    | exact (gB1_f (fun q => h213 q.2)).symm) rfl
theorem c7_refusal_1 {E : gE} {σ : gS} (hb : σ.1 14 0 8 = 0 ∨ 1 ≤ σ.1 14 0 8 ∧ σ.1 14 0 8 ≤ 7) (b : Int) (hb01 : 0 ≤ b ∧ b ≤ 1) (hh : σ.1 14 0 8 = 0) : gCt E mX7_refusal 12 0 [rf 14 0, iv b] σ (.inl (some (iv (0)))) (gFl σ 1) := by
  refine gCt_of (L := [some (rf 14 0), some (iv b)]) (by decide +kernel) rfl rfl (Nat.le_of_ble_eq_true rfl) (fun X K hE => ?_)
  refine x_aload_0 K dX7_refusal_0 ?_
  refine x_aload_0 K dX7_refusal_1 ?_
  refine x_getI K gfRX7_51 ⟨by decide, (by decide)⟩ dX7_refusal_2 ?_
  refine x_if_ne (tgt := 12) K (by omega) dX7_refusal_5 (by decide) (fun h5 => absurd h5 (by omega)) (fun h5 => ?_)
  refine x_iconst K dX7_refusal_8 ?_
  refine x_goto (tgt := 13) K dX7_refusal_9 (by decide) ?_
  refine x_putI K gpRX7_39 ⟨by decide, (by decide)⟩ dX7_refusal_13 ?_
  refine x_aload_0 K dX7_refusal_16 ?_
  refine x_getI K gfRX7_39 ⟨by decide, (by decide)⟩ dX7_refusal_17 ?_
  refine gWX.top (b := 1) rfl ?_
  refine x_if_le (tgt := 27) K (by omega) dX7_refusal_20 (by decide) (fun h20 => absurd h20 (by omega)) (fun h20 => ?_)
  refine x_iconst K dX7_refusal_23 ?_
  refine x_goto (tgt := 42) K dX7_refusal_24 (by decide) ?_
  exact x_iret K hE rfl dX7_refusal_42 (by decide) (by decide) rfl rfl
theorem c7_refusal {E : gE} {σ : gS} (hb : σ.1 14 0 8 = 0 ∨ 1 ≤ σ.1 14 0 8 ∧ σ.1 14 0 8 ≤ 7) (b : Int) (hb01 : 0 ≤ b ∧ b ≤ 1) (hh : σ.1 14 0 8 ≠ 0) : gCt E mX7_refusal 12 0 [rf 14 0, iv b] σ (.inl (some (iv (if b = 0 then σ.1 14 0 8 else σ.1 14 0 9)))) (gFl σ 0) := by
  refine gCt_of (L := [some (rf 14 0), some (iv b)]) (by decide +kernel) rfl rfl (Nat.le_of_ble_eq_true rfl) (fun X K hE => ?_)
  refine x_aload_0 K dX7_refusal_0 ?_
  refine x_aload_0 K dX7_refusal_1 ?_
  refine x_getI K gfRX7_51 ⟨by decide, (by decide)⟩ dX7_refusal_2 ?_
  refine x_if_ne (tgt := 12) K (by omega) dX7_refusal_5 (by decide) (fun h5 => ?_) (fun h5 => absurd h5 (by omega))
  refine x_iconst K dX7_refusal_12 ?_
  refine x_putI K gpRX7_39 ⟨by decide, (by decide)⟩ dX7_refusal_13 ?_
  refine x_aload_0 K dX7_refusal_16 ?_
  refine x_getI K gfRX7_39 ⟨by decide, (by decide)⟩ dX7_refusal_17 ?_
  refine gWX.top (b := 0) rfl ?_
  refine x_if_le (tgt := 27) K (by omega) dX7_refusal_20 (by decide) (fun h20 => ?_) (fun h20 => absurd h20 (by omega))
  refine x_iload_1 K dX7_refusal_27 ?_
  refine x_if_eq (tgt := 38) K (by omega) dX7_refusal_28 (by decide) (fun h28 => ?_) (fun h28 => ?_)
  · refine x_aload_0 K dX7_refusal_38 ?_
    refine x_getI K gfRX7_51 ⟨by decide, (by decide)⟩ dX7_refusal_39 ?_
    exact x_iret K hE rfl dX7_refusal_42 (by decide) (by decide) (by first | exact (if_pos (by omega)).symm | exact (if_neg (by omega)).symm) rfl
  · refine x_aload_0 K dX7_refusal_31 ?_
    refine x_getI K gfRX7_54 ⟨by decide, (by decide)⟩ dX7_refusal_32 ?_
    refine x_goto (tgt := 42) K dX7_refusal_35 (by decide) ?_
    exact x_iret K hE rfl dX7_refusal_42 (by decide) (by decide) (by first | exact (if_pos (by omega)).symm | exact (if_neg (by omega)).symm) rfl
theorem s_al_c {v : Int} (h : -1 ≤ v ∧ v ≤ 9) : gSum (fun j => ((j : Int) + 1) * gB1 (v = (j : Int) + 1)) 9 = max 0 v := by
  obtain rfl | rfl | rfl | rfl | rfl | rfl | rfl | rfl | rfl | rfl | rfl : v = -1 ∨ v = 0 ∨ v = 1 ∨ v = 2 ∨ v = 3 ∨ v = 4 ∨ v = 5 ∨ v = 6 ∨ v = 7 ∨ v = 8 ∨ v = 9 := by omega
  all_goals (simp [gSum, gB1] <;> omega)
theorem s_al_h {z : Nat → Int} (hz : gZ z) : gSum (fun j => ((j : Int) + 1) * s_ho z ((j : Int) + 1)) 9 = s_al z := by
  have q0 := hz.1
  have q1 := hz.2.1
  unfold s_ho s_al
  rw [gSum_cong 9 (g := fun j => gSum (fun r => gSum (fun c => ((j : Int) + 1) * gB1 (z (20 + (8 * r + c)) = (j : Int) + 1)) (z 1).toNat) (z 0).toNat) (fun j hj => by
    try dsimp only
    rw [← gSum_mul]
    exact gSum_cong _ (fun r hr => (gSum_mul _ _).symm)), gSum_swap]
  refine gSum_cong _ (fun r hr => ?_)
  try dsimp only
  rw [gSum_swap, s_b_r z (by omega), ← s_rs_w hz (by omega)]
  exact gSum_cong _ (fun c hc => s_al_c (hz.2.2.2.2.2.1 (8 * r + c) (by omega)))
theorem c7_meanSign_1 {E : gE} {σ : gS} (Y : Nat → Int) (h : gMs σ Y) (hY : gY Y) (s : Int) (hs : -2147483648 ≤ s ∧ s < 2147483648) (hh : ¬ gHit Y s) : gCt E mX7_meanSign 12 0 [rf 14 0, iv s] σ (.inl (some (.inl (.double (FP.dconst0))))) (gFl σ 1) := by
  refine gCt_of (L := [some (rf 14 0), some (iv s), none, none]) (by decide +kernel) rfl rfl (Nat.le_of_ble_eq_true rfl) (fun X K hE => ?_)
  have hY0 := hY.1
  have t1 : gB1 (gHit Y s) = 0 := gB1_f hh
  refine x_aload_0 K dX7_meanSign_0 ?_
  refine x_aload_0 K dX7_meanSign_1 ?_
  refine x_iload_1 K dX7_meanSign_2 ?_
  refine x_callV1 K (c7_isScroll Y h hY _ hs) mtX7_isScroll miX7_isScroll rc14 ⟨by decide, (by decide)⟩ lkRX7_65 ⟨by decide, by decide, by decide⟩ rfl (Nat.le_of_ble_eq_true rfl) dX7_meanSign_3 ?_
  refine x_if_ne (tgt := 13) K (by omega) dX7_meanSign_6 (by decide) (fun h6 => absurd h6 (by omega)) (fun h6 => ?_)
  refine x_iconst K dX7_meanSign_9 ?_
  refine x_goto (tgt := 31) K dX7_meanSign_10 (by decide) ?_
  refine x_putI K gpRX7_39 ⟨by decide, (by decide)⟩ dX7_meanSign_31 ?_
  refine x_aload_0 K dX7_meanSign_34 ?_
  refine x_getI K gfRX7_39 ⟨by decide, (by decide)⟩ dX7_meanSign_35 ?_
  refine gWX.top (b := 1) rfl ?_
  refine x_if_le (tgt := 43) K (by omega) dX7_meanSign_38 (by decide) (fun h38 => absurd h38 (by omega)) (fun h38 => ?_)
  refine x_dconst0 K dX7_meanSign_41 ?_
  exact x_dret K hE rfl dX7_meanSign_42 (by decide) (by decide) rfl rfl
theorem c7_meanSign_2 {E : gE} {σ : gS} (Y : Nat → Int) (h : gMs σ Y) (hY : gY Y) (s : Int) (hs : -2147483648 ≤ s ∧ s < 2147483648) (hh : gHit Y s) (hc : s_sm (zb Y s.toNat) = s_cl (zb Y s.toNat)) : gCt E mX7_meanSign 12 0 [rf 14 0, iv s] σ (.inl (some (.inl (.double (FP.dconst0))))) (gFl σ 2) := by
  refine gCt_of (L := [some (rf 14 0), some (iv s), none, none]) (by decide +kernel) rfl rfl (Nat.le_of_ble_eq_true rfl) (fun X K hE => ?_)
  have t1 : gB1 (gHit Y s) = 1 := gB1_t hh
  obtain ⟨n, rfl⟩ : ∃ n : Nat, s = (n : Int) := ⟨s.toNat, by omega⟩
  have hn : (n : Int) < Y 0 := hh.2
  have hY0 := hY.1
  have hz := hY.2 n hn
  have ⟨q0, q1, q2, q3, q4, q5, q6, q7, q8⟩ := hz
  have bsm := s_sm_bd hz
  have bcl := s_cl_bd hz
  have bsc := s_sm_cl hz
  have bal := s_al_bd hz
  have hc2 : s_sm (zb Y n) = s_cl (zb Y n) := hc
  refine x_aload_0 K dX7_meanSign_0 ?_
  refine x_aload_0 K dX7_meanSign_1 ?_
  refine x_iload_1 K dX7_meanSign_2 ?_
  refine x_callV1 K (c7_isScroll Y h hY _ hs) mtX7_isScroll miX7_isScroll rc14 ⟨by decide, (by decide)⟩ lkRX7_65 ⟨by decide, by decide, by decide⟩ rfl (Nat.le_of_ble_eq_true rfl) dX7_meanSign_3 ?_
  refine x_if_ne (tgt := 13) K (by omega) dX7_meanSign_6 (by decide) (fun h6 => ?_) (fun h6 => absurd h6 (by omega))
  refine x_aload_0 K dX7_meanSign_13 ?_
  refine x_iload_1 K dX7_meanSign_14 ?_
  refine x_callV1 K (c7_smudged Y h hY n hn) mtX7_smudged miX7_smudged rc14 ⟨by decide, (by decide)⟩ lkRX7_134 ⟨by decide, by decide, by decide⟩ rfl (Nat.le_of_ble_eq_true rfl) dX7_meanSign_15 ?_
  refine x_aload_0 K dX7_meanSign_18 ?_
  refine x_iload_1 K dX7_meanSign_19 ?_
  refine x_callV1 K (c7_cellsOf Y h hY n hn) mtX7_cellsOf miX7_cellsOf rc14 ⟨by decide, (by decide)⟩ lkRX7_196 ⟨by decide, by decide, by decide⟩ rfl (Nat.le_of_ble_eq_true rfl) dX7_meanSign_20 ?_
  refine x_icmp_ne (tgt := 30) K (by omega) dX7_meanSign_23 (by decide) (fun h23 => absurd h23 (by omega)) (fun h23 => ?_)
  refine x_iconst K dX7_meanSign_26 ?_
  refine x_goto (tgt := 31) K dX7_meanSign_27 (by decide) ?_
  refine x_putI K gpRX7_39 ⟨by decide, (by decide)⟩ dX7_meanSign_31 ?_
  refine x_aload_0 K dX7_meanSign_34 ?_
  refine x_getI K gfRX7_39 ⟨by decide, (by decide)⟩ dX7_meanSign_35 ?_
  refine gWX.top (b := 2) rfl ?_
  refine x_if_le (tgt := 43) K (by omega) dX7_meanSign_38 (by decide) (fun h38 => absurd h38 (by omega)) (fun h38 => ?_)
  refine x_dconst0 K dX7_meanSign_41 ?_
  exact x_dret K hE rfl dX7_meanSign_42 (by decide) (by decide) rfl rfl
theorem c7_meanSign {E : gE} {σ : gS} (Y : Nat → Int) (h : gMs σ Y) (hY : gY Y) (s : Int) (hs : -2147483648 ≤ s ∧ s < 2147483648) (hh : gHit Y s) (hc : s_sm (zb Y s.toNat) ≠ s_cl (zb Y s.toNat)) : gCt E mX7_meanSign 12 0 [rf 14 0, iv s] σ (.inl (some (.inl (.double (gQ (s_al (zb Y s.toNat)).toNat (s_cl (zb Y s.toNat) - s_sm (zb Y s.toNat)).toNat))))) (gFl σ 0) := by
  refine gCt_of (L := [some (rf 14 0), some (iv s), none, none]) (by decide +kernel) rfl rfl (Nat.le_of_ble_eq_true rfl) (fun X K hE => ?_)
  have t1 : gB1 (gHit Y s) = 1 := gB1_t hh
  obtain ⟨n, rfl⟩ : ∃ n : Nat, s = (n : Int) := ⟨s.toNat, by omega⟩
  have hn : (n : Int) < Y 0 := hh.2
  have hY0 := hY.1
  have hz := hY.2 n hn
  have ⟨q0, q1, q2, q3, q4, q5, q6, q7, q8⟩ := hz
  have bsm := s_sm_bd hz
  have bcl := s_cl_bd hz
  have bsc := s_sm_cl hz
  have bal := s_al_bd hz
  have hc2 : s_sm (zb Y n) ≠ s_cl (zb Y n) := hc
  refine x_aload_0 K dX7_meanSign_0 ?_
  refine x_aload_0 K dX7_meanSign_1 ?_
  refine x_iload_1 K dX7_meanSign_2 ?_
  refine x_callV1 K (c7_isScroll Y h hY _ hs) mtX7_isScroll miX7_isScroll rc14 ⟨by decide, (by decide)⟩ lkRX7_65 ⟨by decide, by decide, by decide⟩ rfl (Nat.le_of_ble_eq_true rfl) dX7_meanSign_3 ?_
  refine x_if_ne (tgt := 13) K (by omega) dX7_meanSign_6 (by decide) (fun h6 => ?_) (fun h6 => absurd h6 (by omega))
  refine x_aload_0 K dX7_meanSign_13 ?_
  refine x_iload_1 K dX7_meanSign_14 ?_
  refine x_callV1 K (c7_smudged Y h hY n hn) mtX7_smudged miX7_smudged rc14 ⟨by decide, (by decide)⟩ lkRX7_134 ⟨by decide, by decide, by decide⟩ rfl (Nat.le_of_ble_eq_true rfl) dX7_meanSign_15 ?_
  refine x_aload_0 K dX7_meanSign_18 ?_
  refine x_iload_1 K dX7_meanSign_19 ?_
  refine x_callV1 K (c7_cellsOf Y h hY n hn) mtX7_cellsOf miX7_cellsOf rc14 ⟨by decide, (by decide)⟩ lkRX7_196 ⟨by decide, by decide, by decide⟩ rfl (Nat.le_of_ble_eq_true rfl) dX7_meanSign_20 ?_
  refine x_icmp_ne (tgt := 30) K (by omega) dX7_meanSign_23 (by decide) (fun h23 => ?_) (fun h23 => absurd h23 (by omega))
  refine x_iconst K dX7_meanSign_30 ?_
  refine x_putI K gpRX7_39 ⟨by decide, (by decide)⟩ dX7_meanSign_31 ?_
  refine x_aload_0 K dX7_meanSign_34 ?_
  refine x_getI K gfRX7_39 ⟨by decide, (by decide)⟩ dX7_meanSign_35 ?_
  refine gWX.top (b := 0) rfl ?_
  refine x_if_le (tgt := 43) K (by omega) dX7_meanSign_38 (by decide) (fun h38 => ?_) (fun h38 => absurd h38 (by omega))
  refine x_iconst K dX7_meanSign_43 ?_
  refine x_istore_2 K dX7_meanSign_44 rfl ?_
  refine x_iconst K dX7_meanSign_45 ?_
  refine x_istore_3 K dX7_meanSign_46 rfl ?_
  refine gLp (P := fun j : Nat => gWX X E 0 0 47 [some (rf 14 0), some (iv (n : Int)), some (iv (gSum (fun j => ((j : Int) + 1) * s_ho (zb Y n) ((j : Int) + 1)) j)), some (iv ((j : Int) + 1))] [] (gFl σ 0)) (9) (fun k0 => ?_) (fun j hj ih => ?_) ?_
  · exact gWX.to rfl rfl (k0)
  · refine x_iload_3 K dX7_meanSign_47 ?_
    refine x_bipush K dX7_meanSign_48 rfl ?_
    refine x_icmp_ge (tgt := 70) K (by omega) dX7_meanSign_50 (by decide) (fun h50 => absurd h50 (by omega)) (fun h50 => ?_)
    refine x_iload_2 K dX7_meanSign_53 ?_
    refine x_iload_3 K dX7_meanSign_54 ?_
    refine x_aload_0 K dX7_meanSign_55 ?_
    refine x_iload_1 K dX7_meanSign_56 ?_
    refine x_iload_3 K dX7_meanSign_57 ?_
    refine x_callV2 K (c7_countOf Y (gMs_u h 7 0) hY n hn ((j : Int) + 1) (by omega)) mtX7_countOf miX7_countOf rc14 ⟨by decide, (by decide)⟩ lkRX7_199 ⟨by decide, by decide, by decide⟩ rfl (Nat.le_of_ble_eq_true rfl) dX7_meanSign_58 ?_
    refine x_imul K dX7_meanSign_61 ?_
    refine x_iadd K dX7_meanSign_62 ?_
    refine x_istore_2 K dX7_meanSign_63 rfl ?_
    refine x_iinc_3 K dX7_meanSign_64 rfl ?_
    refine x_goto (tgt := 47) K dX7_meanSign_67 (by decide) ?_
    exact gWX.to rfl rfl (ih)
  · refine x_iload_3 K dX7_meanSign_47 ?_
    refine x_bipush K dX7_meanSign_48 rfl ?_
    refine x_icmp_ge (tgt := 70) K (by omega) dX7_meanSign_50 (by decide) (fun h50 => ?_) (fun h50 => absurd h50 (by omega))
    refine x_iload_2 K dX7_meanSign_70 ?_
    refine gWX.top (b := (((s_al (zb Y n)).toNat : Nat) : Int)) (by rw [s_al_h hz]; omega) ?_
    refine x_i2d K dX7_meanSign_71 ?_
    refine x_aload_0 K dX7_meanSign_72 ?_
    refine x_iload_1 K dX7_meanSign_73 ?_
    refine x_callV1 K (c7_cellsOf Y (gMs_u h 7 0) hY n hn) mtX7_cellsOf miX7_cellsOf rc14 ⟨by decide, (by decide)⟩ lkRX7_196 ⟨by decide, by decide, by decide⟩ rfl (Nat.le_of_ble_eq_true rfl) dX7_meanSign_74 ?_
    refine x_aload_0 K dX7_meanSign_77 ?_
    refine x_iload_1 K dX7_meanSign_78 ?_
    refine x_callV1 K (c7_smudged Y (gMs_u h 7 0) hY n hn) mtX7_smudged miX7_smudged rc14 ⟨by decide, (by decide)⟩ lkRX7_134 ⟨by decide, by decide, by decide⟩ rfl (Nat.le_of_ble_eq_true rfl) dX7_meanSign_79 ?_
    refine x_isub K dX7_meanSign_82 ?_
    refine gWX.top (b := (((s_cl (zb Y n) - s_sm (zb Y n)).toNat : Nat) : Int)) (by omega) ?_
    refine x_i2d K dX7_meanSign_83 ?_
    refine x_ddiv K (gQ_n (a := (s_al (zb Y n)).toNat) (b := (s_cl (zb Y n) - s_sm (zb Y n)).toNat) (by omega) (by omega)) dX7_meanSign_84 ?_
    exact x_dret K hE rfl dX7_meanSign_85 (by decide) (by decide) rfl rfl
theorem c7_doubtShare_1 {E : gE} {σ : gS} (Y : Nat → Int) (h : gMs σ Y) (hY : gY Y) (s : Int) (hs : -2147483648 ≤ s ∧ s < 2147483648) (hh : ¬ gHit Y s) : gCt E mX7_doubtShare 12 0 [rf 14 0, iv s] σ (.inl (some (.inl (.float (FP.fconst0))))) (gFl σ 1) := by
  refine gCt_of (L := [some (rf 14 0), some (iv s)]) (by decide +kernel) rfl rfl (Nat.le_of_ble_eq_true rfl) (fun X K hE => ?_)
  have hY0 := hY.1
  have t1 : gB1 (gHit Y s) = 0 := gB1_f hh
  refine x_aload_0 K dX7_doubtShare_0 ?_
  refine x_aload_0 K dX7_doubtShare_1 ?_
  refine x_iload_1 K dX7_doubtShare_2 ?_
  refine x_callV1 K (c7_isScroll Y h hY _ hs) mtX7_isScroll miX7_isScroll rc14 ⟨by decide, (by decide)⟩ lkRX7_65 ⟨by decide, by decide, by decide⟩ rfl (Nat.le_of_ble_eq_true rfl) dX7_doubtShare_3 ?_
  refine x_if_eq (tgt := 13) K (by omega) dX7_doubtShare_6 (by decide) (fun h6 => ?_) (fun h6 => absurd h6 (by omega))
  refine x_iconst K dX7_doubtShare_13 ?_
  refine x_putI K gpRX7_39 ⟨by decide, (by decide)⟩ dX7_doubtShare_14 ?_
  refine x_aload_0 K dX7_doubtShare_17 ?_
  refine x_getI K gfRX7_39 ⟨by decide, (by decide)⟩ dX7_doubtShare_18 ?_
  refine gWX.top (b := 1) rfl ?_
  refine x_if_le (tgt := 28) K (by omega) dX7_doubtShare_21 (by decide) (fun h21 => absurd h21 (by omega)) (fun h21 => ?_)
  refine x_fconst0 K dX7_doubtShare_24 ?_
  refine x_goto (tgt := 41) K dX7_doubtShare_25 (by decide) ?_
  exact x_fret K hE rfl dX7_doubtShare_41 (by decide) (by decide) rfl rfl
theorem c7_doubtShare {E : gE} {σ : gS} (Y : Nat → Int) (h : gMs σ Y) (hY : gY Y) (s : Int) (hs : -2147483648 ≤ s ∧ s < 2147483648) (hh : gHit Y s) : gCt E mX7_doubtShare 12 0 [rf 14 0, iv s] σ (.inl (some (.inl (.float (gQf (s_db (zb Y s.toNat)).toNat (s_cl (zb Y s.toNat)).toNat))))) (gFl σ 0) := by
  refine gCt_of (L := [some (rf 14 0), some (iv s)]) (by decide +kernel) rfl rfl (Nat.le_of_ble_eq_true rfl) (fun X K hE => ?_)
  have t1 : gB1 (gHit Y s) = 1 := gB1_t hh
  obtain ⟨n, rfl⟩ : ∃ n : Nat, s = (n : Int) := ⟨s.toNat, by omega⟩
  have hn : (n : Int) < Y 0 := hh.2
  have hY0 := hY.1
  have hz := hY.2 n hn
  have ⟨q0, q1, q2, q3, q4, q5, q6, q7, q8⟩ := hz
  have bcl := s_cl_bd hz
  have bdb := s_db_bd hz
  refine x_aload_0 K dX7_doubtShare_0 ?_
  refine x_aload_0 K dX7_doubtShare_1 ?_
  refine x_iload_1 K dX7_doubtShare_2 ?_
  refine x_callV1 K (c7_isScroll Y h hY _ hs) mtX7_isScroll miX7_isScroll rc14 ⟨by decide, (by decide)⟩ lkRX7_65 ⟨by decide, by decide, by decide⟩ rfl (Nat.le_of_ble_eq_true rfl) dX7_doubtShare_3 ?_
  refine x_if_eq (tgt := 13) K (by omega) dX7_doubtShare_6 (by decide) (fun h6 => absurd h6 (by omega)) (fun h6 => ?_)
  refine x_iconst K dX7_doubtShare_9 ?_
  refine x_goto (tgt := 14) K dX7_doubtShare_10 (by decide) ?_
  refine x_putI K gpRX7_39 ⟨by decide, (by decide)⟩ dX7_doubtShare_14 ?_
  refine x_aload_0 K dX7_doubtShare_17 ?_
  refine x_getI K gfRX7_39 ⟨by decide, (by decide)⟩ dX7_doubtShare_18 ?_
  refine gWX.top (b := 0) rfl ?_
  refine x_if_le (tgt := 28) K (by omega) dX7_doubtShare_21 (by decide) (fun h21 => ?_) (fun h21 => absurd h21 (by omega))
  refine x_aload_0 K dX7_doubtShare_28 ?_
  refine x_iload_1 K dX7_doubtShare_29 ?_
  refine x_callV1 K (c7_doubtsOf Y (gMs_u h 7 0) hY n hn) mtX7_doubtsOf miX7_doubtsOf rc14 ⟨by decide, (by decide)⟩ lkRX7_166 ⟨by decide, by decide, by decide⟩ rfl (Nat.le_of_ble_eq_true rfl) dX7_doubtShare_30 ?_
  refine gWX.top (b := (((s_db (zb Y n)).toNat : Nat) : Int)) (by omega) ?_
  refine x_i2f K dX7_doubtShare_33 ?_
  refine x_aload_0 K dX7_doubtShare_34 ?_
  refine x_iload_1 K dX7_doubtShare_35 ?_
  refine x_callV1 K (c7_cellsOf Y (gMs_u h 7 0) hY n hn) mtX7_cellsOf miX7_cellsOf rc14 ⟨by decide, (by decide)⟩ lkRX7_196 ⟨by decide, by decide, by decide⟩ rfl (Nat.le_of_ble_eq_true rfl) dX7_doubtShare_36 ?_
  refine gWX.top (b := (((s_cl (zb Y n)).toNat : Nat) : Int)) (by omega) ?_
  refine x_i2f K dX7_doubtShare_39 ?_
  refine x_fdiv K (gQf_n (a := (s_db (zb Y n)).toNat) (b := (s_cl (zb Y n)).toNat) (by omega) (by omega)).1 dX7_doubtShare_40 ?_
  exact x_fret K hE rfl dX7_doubtShare_41 (by decide) (by decide) rfl rfl
theorem c7_undo_1 {E : gE} {σ : gS} (hp : σ.1 14 0 6 = 0) : gCt E mX7_undo 12 0 [rf 14 0] σ (.inl (some (iv (0)))) (gFl σ 1) := by
  refine gCt_of (L := [some (rf 14 0)]) (by decide +kernel) rfl rfl (Nat.le_of_ble_eq_true rfl) (fun X K hE => ?_)
  refine x_aload_0 K dX7_undo_0 ?_
  refine x_aload_0 K dX7_undo_1 ?_
  refine x_getI K gfRX7_48 ⟨by decide, (by decide)⟩ dX7_undo_2 ?_
  refine x_if_ne (tgt := 12) K (by omega) dX7_undo_5 (by decide) (fun h5 => absurd h5 (by omega)) (fun h5 => ?_)
  refine x_iconst K dX7_undo_8 ?_
  refine x_goto (tgt := 13) K dX7_undo_9 (by decide) ?_
  refine x_putI K gpRX7_39 ⟨by decide, (by decide)⟩ dX7_undo_13 ?_
  refine x_aload_0 K dX7_undo_16 ?_
  refine x_getI K gfRX7_39 ⟨by decide, (by decide)⟩ dX7_undo_17 ?_
  refine gWX.top (b := 1) rfl ?_
  refine x_if_le (tgt := 25) K (by omega) dX7_undo_20 (by decide) (fun h20 => absurd h20 (by omega)) (fun h20 => ?_)
  refine x_iconst K dX7_undo_23 ?_
  exact x_iret K hE rfl dX7_undo_24 (by decide) (by decide) rfl rfl
theorem c7_undo {E : gE} {σ : gS} (k : Nat) (hp : σ.1 14 0 6 = (k : Int) + 1) (hk8 : k < 8) : gCt E mX7_undo 12 0 [rf 14 0] σ (.inl (some (iv ((k : Int))))) (gCp (gU (gFl σ 0) 14 0 6 (k : Int)) 19 0 15 0 (345 * k) 0 345) := by
  refine gCt_of (L := [some (rf 14 0)]) (by decide +kernel) rfl rfl (Nat.le_of_ble_eq_true rfl) (fun X K hE => ?_)
  refine x_aload_0 K dX7_undo_0 ?_
  refine x_aload_0 K dX7_undo_1 ?_
  refine x_getI K gfRX7_48 ⟨by decide, (by decide)⟩ dX7_undo_2 ?_
  refine x_if_ne (tgt := 12) K (by omega) dX7_undo_5 (by decide) (fun h5 => ?_) (fun h5 => absurd h5 (by omega))
  refine x_iconst K dX7_undo_12 ?_
  refine x_putI K gpRX7_39 ⟨by decide, (by decide)⟩ dX7_undo_13 ?_
  refine x_aload_0 K dX7_undo_16 ?_
  refine x_getI K gfRX7_39 ⟨by decide, (by decide)⟩ dX7_undo_17 ?_
  refine gWX.top (b := 0) rfl ?_
  refine x_if_le (tgt := 25) K (by omega) dX7_undo_20 (by decide) (fun h20 => ?_) (fun h20 => absurd h20 (by omega))
  refine x_aload_0 K dX7_undo_25 ?_
  refine x_dup K dX7_undo_26 rfl ?_
  refine x_getI K gfRX7_48 ⟨by decide, (by decide)⟩ dX7_undo_27 ?_
  refine gWX.top (b := (k : Int) + 1) hp ?_
  refine x_iconst K dX7_undo_30 ?_
  refine x_isub K dX7_undo_31 ?_
  refine gWX.top (b := (k : Int)) (by omega) ?_
  refine x_putI K gpRX7_48 ⟨by decide, (by decide)⟩ dX7_undo_32 ?_
  refine x_aload_0 K dX7_undo_35 ?_
  refine x_getC K gfRX7_22 ⟨by decide, (by decide)⟩ dX7_undo_36 ?_
  refine x_sipush K dX7_undo_39 rfl ?_
  refine x_aload_0 K dX7_undo_42 ?_
  refine x_getI K gfRX7_48 ⟨by decide, (by decide)⟩ dX7_undo_43 ?_
  refine gWX.top (b := (k : Int)) rfl ?_
  refine x_imul K dX7_undo_46 ?_
  refine x_aload_0 K dX7_undo_47 ?_
  refine x_getC K gfRX7_9 ⟨by decide, (by decide)⟩ dX7_undo_48 ?_
  refine x_iconst K dX7_undo_51 ?_
  refine x_sipush K dX7_undo_52 rfl ?_
  refine x_copy K (345 * k) 0 345 (by omega) rfl rfl rfl rfl rfl ⟨by decide, by decide⟩ ⟨by decide, by decide⟩ (by omega) (by omega) lwRX7_42 g_acopy ⟨by decide, (Nat.le_of_ble_eq_true rfl)⟩ dX7_undo_55 ?_
  refine x_aload_0 K dX7_undo_58 ?_
  refine x_getI K gfRX7_48 ⟨by decide, (by decide)⟩ dX7_undo_59 ?_
  exact x_iret K hE rfl dX7_undo_62 (by decide) (by decide) rfl rfl
theorem c7_save {E : gE} {σ : gS} (Y : Nat → Int) (h : gMs σ Y) (hY : gY Y) : gCt E mX7_save 12 0 [rf 14 0] σ (.inl (some (iv (Y 0)))) (gU (gCp (gFl σ 0) 15 0 18 0 0 0 345) 14 0 4 1) := by
  refine gCt_of (L := [some (rf 14 0)]) (by decide +kernel) rfl rfl (Nat.le_of_ble_eq_true rfl) (fun X K hE => ?_)
  have hY0 := hY.1
  refine x_aload_0 K dX7_save_0 ?_
  refine x_iconst K dX7_save_1 ?_
  refine x_putI K gpRX7_39 ⟨by decide, (by decide)⟩ dX7_save_2 ?_
  refine x_aload_0 K dX7_save_5 ?_
  refine x_getC K gfRX7_9 ⟨by decide, (by decide)⟩ dX7_save_6 ?_
  refine x_iconst K dX7_save_9 ?_
  refine x_aload_0 K dX7_save_10 ?_
  refine x_getC K gfRX7_19 ⟨by decide, (by decide)⟩ dX7_save_11 ?_
  refine x_iconst K dX7_save_14 ?_
  refine x_sipush K dX7_save_15 rfl ?_
  refine x_copy K 0 0 345 rfl rfl rfl rfl rfl rfl ⟨by decide, by decide⟩ ⟨by decide, by decide⟩ (by omega) (by omega) lwRX7_42 g_acopy ⟨by decide, (Nat.le_of_ble_eq_true rfl)⟩ dX7_save_18 ?_
  refine x_aload_0 K dX7_save_21 ?_
  refine x_iconst K dX7_save_22 ?_
  refine x_putZ K gpRX7_253 ⟨by decide, (by decide)⟩ (by omega) dX7_save_23 ?_
  refine x_aload_0 K dX7_save_26 ?_
  refine x_getC K gfRX7_9 ⟨by decide, (by decide)⟩ dX7_save_27 ?_
  refine x_iconst K dX7_save_30 ?_
  refine x_iald K 0 rfl rfl ⟨by decide, by decide⟩ (by omega) dX7_save_31 ?_
  exact x_iret K hE rfl dX7_save_32 (by decide) (by decide) (gMs_u h 7 0 0 (by omega)) rfl
theorem c7_restore_1 {E : gE} {σ : gS} (hs : σ.1 14 0 4 = 0) : gCt E mX7_restore 12 0 [rf 14 0] σ (.inl (some (iv (0)))) (gFl σ 1) := by
  refine gCt_of (L := [some (rf 14 0)]) (by decide +kernel) rfl rfl (Nat.le_of_ble_eq_true rfl) (fun X K hE => ?_)
  refine x_aload_0 K dX7_restore_0 ?_
  refine x_aload_0 K dX7_restore_1 ?_
  refine x_getI K gfRX7_253 ⟨by decide, (by decide)⟩ dX7_restore_2 ?_
  refine x_if_eq (tgt := 12) K (by omega) dX7_restore_5 (by decide) (fun h5 => ?_) (fun h5 => absurd h5 (by omega))
  refine x_iconst K dX7_restore_12 ?_
  refine x_putI K gpRX7_39 ⟨by decide, (by decide)⟩ dX7_restore_13 ?_
  refine x_aload_0 K dX7_restore_16 ?_
  refine x_getI K gfRX7_39 ⟨by decide, (by decide)⟩ dX7_restore_17 ?_
  refine gWX.top (b := 1) rfl ?_
  refine x_if_le (tgt := 25) K (by omega) dX7_restore_20 (by decide) (fun h20 => absurd h20 (by omega)) (fun h20 => ?_)
  refine x_iconst K dX7_restore_23 ?_
  exact x_iret K hE rfl dX7_restore_24 (by decide) (by decide) rfl rfl
theorem c7_restore {E : gE} {σ : gS} (hs : σ.1 14 0 4 = 1) : gCt E mX7_restore 12 0 [rf 14 0] σ (.inl (some (iv (σ.1 18 0 0)))) (gU (gCp (gFl σ 0) 18 0 15 0 0 0 345) 14 0 6 0) := by
  refine gCt_of (L := [some (rf 14 0)]) (by decide +kernel) rfl rfl (Nat.le_of_ble_eq_true rfl) (fun X K hE => ?_)
  refine x_aload_0 K dX7_restore_0 ?_
  refine x_aload_0 K dX7_restore_1 ?_
  refine x_getI K gfRX7_253 ⟨by decide, (by decide)⟩ dX7_restore_2 ?_
  refine x_if_eq (tgt := 12) K (by omega) dX7_restore_5 (by decide) (fun h5 => absurd h5 (by omega)) (fun h5 => ?_)
  refine x_iconst K dX7_restore_8 ?_
  refine x_goto (tgt := 13) K dX7_restore_9 (by decide) ?_
  refine x_putI K gpRX7_39 ⟨by decide, (by decide)⟩ dX7_restore_13 ?_
  refine x_aload_0 K dX7_restore_16 ?_
  refine x_getI K gfRX7_39 ⟨by decide, (by decide)⟩ dX7_restore_17 ?_
  refine gWX.top (b := 0) rfl ?_
  refine x_if_le (tgt := 25) K (by omega) dX7_restore_20 (by decide) (fun h20 => ?_) (fun h20 => absurd h20 (by omega))
  refine x_aload_0 K dX7_restore_25 ?_
  refine x_getC K gfRX7_19 ⟨by decide, (by decide)⟩ dX7_restore_26 ?_
  refine x_iconst K dX7_restore_29 ?_
  refine x_aload_0 K dX7_restore_30 ?_
  refine x_getC K gfRX7_9 ⟨by decide, (by decide)⟩ dX7_restore_31 ?_
  refine x_iconst K dX7_restore_34 ?_
  refine x_sipush K dX7_restore_35 rfl ?_
  refine x_copy K 0 0 345 rfl rfl rfl rfl rfl rfl ⟨by decide, by decide⟩ ⟨by decide, by decide⟩ (by omega) (by omega) lwRX7_42 g_acopy ⟨by decide, (Nat.le_of_ble_eq_true rfl)⟩ dX7_restore_38 ?_
  refine x_aload_0 K dX7_restore_41 ?_
  refine x_iconst K dX7_restore_42 ?_
  refine x_putI K gpRX7_48 ⟨by decide, (by decide)⟩ dX7_restore_43 ?_
  refine x_aload_0 K dX7_restore_46 ?_
  refine x_getC K gfRX7_9 ⟨by decide, (by decide)⟩ dX7_restore_47 ?_
  refine x_iconst K dX7_restore_50 ?_
  refine x_iald K 0 rfl rfl ⟨by decide, by decide⟩ (by omega) dX7_restore_51 ?_
  exact x_iret K hE rfl dX7_restore_52 (by decide) (by decide) rfl rfl
theorem c7_errorPosition {E : gE} {σ : gS}  : gCt E mX7_errorPosition 12 0 [rf 14 0] σ (.inl (some (iv (σ.1 14 0 17)))) (gFl σ 0) := by
  refine gCt_of (L := [some (rf 14 0)]) (by decide +kernel) rfl rfl (Nat.le_of_ble_eq_true rfl) (fun X K hE => ?_)
  refine x_aload_0 K dX7_errorPosition_0 ?_
  refine x_iconst K dX7_errorPosition_1 ?_
  refine x_putI K gpRX7_39 ⟨by decide, (by decide)⟩ dX7_errorPosition_2 ?_
  refine x_aload_0 K dX7_errorPosition_5 ?_
  refine x_getI K gfRX7_32 ⟨by decide, (by decide)⟩ dX7_errorPosition_6 ?_
  exact x_iret K hE rfl dX7_errorPosition_9 (by decide) (by decide) rfl rfl
theorem c7_append_1 {E : gE} {σ : gS} (l : Nat) (hl : σ.1 14 0 14 = (l : Int)) (h60 : l = 60) (c : Int) : gCt E mX7_append 12 0 [rf 14 0, iv c] σ (.inl (some (iv (0)))) (gFl σ 1) := by
  refine gCt_of (L := [some (rf 14 0), some (iv c)]) (by decide +kernel) rfl rfl (Nat.le_of_ble_eq_true rfl) (fun X K hE => ?_)
  refine x_aload_0 K dX7_append_0 ?_
  refine x_aload_0 K dX7_append_1 ?_
  refine x_getI K gfRX7_209 ⟨by decide, (by decide)⟩ dX7_append_2 ?_
  refine x_bipush K dX7_append_5 rfl ?_
  refine x_icmp_ne (tgt := 14) K (by omega) dX7_append_7 (by decide) (fun h7 => absurd h7 (by omega)) (fun h7 => ?_)
  refine x_iconst K dX7_append_10 ?_
  refine x_goto (tgt := 15) K dX7_append_11 (by decide) ?_
  refine x_putI K gpRX7_39 ⟨by decide, (by decide)⟩ dX7_append_15 ?_
  refine x_aload_0 K dX7_append_18 ?_
  refine x_getI K gfRX7_39 ⟨by decide, (by decide)⟩ dX7_append_19 ?_
  refine gWX.top (b := 1) rfl ?_
  refine x_if_le (tgt := 27) K (by omega) dX7_append_22 (by decide) (fun h22 => absurd h22 (by omega)) (fun h22 => ?_)
  refine x_iconst K dX7_append_25 ?_
  exact x_iret K hE rfl dX7_append_26 (by decide) (by decide) rfl rfl
theorem c7_append {E : gE} {σ : gS} (l : Nat) (hl : σ.1 14 0 14 = (l : Int)) (h60 : l < 60) (c : Int) (hc : 0 ≤ c ∧ c < 65536) : gCt E mX7_append 12 0 [rf 14 0, iv c] σ (.inl (some (iv ((l : Int) + 1)))) (gU (gU (gFl σ 0) 21 0 l c) 14 0 14 ((l : Int) + 1)) := by
  refine gCt_of (L := [some (rf 14 0), some (iv c)]) (by decide +kernel) rfl rfl (Nat.le_of_ble_eq_true rfl) (fun X K hE => ?_)
  refine x_aload_0 K dX7_append_0 ?_
  refine x_aload_0 K dX7_append_1 ?_
  refine x_getI K gfRX7_209 ⟨by decide, (by decide)⟩ dX7_append_2 ?_
  refine x_bipush K dX7_append_5 rfl ?_
  refine x_icmp_ne (tgt := 14) K (by omega) dX7_append_7 (by decide) (fun h7 => ?_) (fun h7 => absurd h7 (by omega))
  refine x_iconst K dX7_append_14 ?_
  refine x_putI K gpRX7_39 ⟨by decide, (by decide)⟩ dX7_append_15 ?_
  refine x_aload_0 K dX7_append_18 ?_
  refine x_getI K gfRX7_39 ⟨by decide, (by decide)⟩ dX7_append_19 ?_
  refine gWX.top (b := 0) rfl ?_
  refine x_if_le (tgt := 27) K (by omega) dX7_append_22 (by decide) (fun h22 => ?_) (fun h22 => absurd h22 (by omega))
  refine x_aload_0 K dX7_append_27 ?_
  refine x_getC K gfRX7_29 ⟨by decide, (by decide)⟩ dX7_append_28 ?_
  refine x_aload_0 K dX7_append_31 ?_
  refine x_getI K gfRX7_209 ⟨by decide, (by decide)⟩ dX7_append_32 ?_
  refine gWX.top (b := (l : Int)) hl ?_
  refine x_iload_1 K dX7_append_35 ?_
  refine x_cast K l rfl rfl ⟨by decide, by decide⟩ (by omega) (by omega) dX7_append_36 ?_
  refine x_aload_0 K dX7_append_37 ?_
  refine x_dup K dX7_append_38 rfl ?_
  refine x_getI K gfRX7_209 ⟨by decide, (by decide)⟩ dX7_append_39 ?_
  refine gWX.top (b := (l : Int)) hl ?_
  refine x_iconst K dX7_append_42 ?_
  refine x_iadd K dX7_append_43 ?_
  refine x_putI K gpRX7_209 ⟨by decide, (by decide)⟩ dX7_append_44 ?_
  refine x_aload_0 K dX7_append_47 ?_
  refine x_getI K gfRX7_209 ⟨by decide, (by decide)⟩ dX7_append_48 ?_
  exact x_iret K hE rfl dX7_append_51 (by decide) (by decide) rfl rfl
theorem c7_character_1 {E : gE} {σ : gS} (k : Nat) (hk : σ.1 14 0 12 = (k : Int)) (hk2 : k ≤ 12) (i : Int) (hi : -2147483648 ≤ i ∧ i < 2147483648) (hh : ¬ (0 ≤ i ∧ i < (k : Int))) : gCt E mX7_character 12 0 [rf 14 0, iv i] σ (.inl (some (iv (32)))) (gFl σ 1) := by
  refine gCt_of (L := [some (rf 14 0), some (iv i)]) (by decide +kernel) rfl rfl (Nat.le_of_ble_eq_true rfl) (fun X K hE => ?_)
  have t1 : gB1 (0 ≤ i ∧ i ≤ (k : Int) - 1) = 0 := gB1_f (by omega)
  refine x_aload_0 K dX7_character_0 ?_
  refine x_iload_1 K dX7_character_1 ?_
  refine x_iconst K dX7_character_2 ?_
  refine x_aload_0 K dX7_character_3 ?_
  refine x_getI K gfRX7_202 ⟨by decide, (by decide)⟩ dX7_character_4 ?_
  refine gWX.top (b := (k : Int)) hk ?_
  refine x_iconst K dX7_character_7 ?_
  refine x_isub K dX7_character_8 ?_
  refine x_callS3 K (c7_in i 0 ((k : Int) - 1) (by omega)) mtX7_in msX7_in lkRX7_61 ⟨by decide, by decide, by decide⟩ rfl (Nat.le_of_ble_eq_true rfl) dX7_character_9 ?_
  refine x_if_eq (tgt := 19) K (by omega) dX7_character_12 (by decide) (fun h12 => ?_) (fun h12 => absurd h12 (by omega))
  refine x_iconst K dX7_character_19 ?_
  refine x_putI K gpRX7_39 ⟨by decide, (by decide)⟩ dX7_character_20 ?_
  refine x_aload_0 K dX7_character_23 ?_
  refine x_getI K gfRX7_39 ⟨by decide, (by decide)⟩ dX7_character_24 ?_
  refine gWX.top (b := 1) rfl ?_
  refine x_if_le (tgt := 35) K (by omega) dX7_character_27 (by decide) (fun h27 => absurd h27 (by omega)) (fun h27 => ?_)
  refine x_bipush K dX7_character_30 rfl ?_
  refine x_goto (tgt := 41) K dX7_character_32 (by decide) ?_
  exact x_cret K hE rfl dX7_character_41 (by decide) (by decide) (by omega) rfl rfl
theorem c7_character {E : gE} {σ : gS} (k : Nat) (hk : σ.1 14 0 12 = (k : Int)) (hk2 : k ≤ 12) (i : Int) (hi : -2147483648 ≤ i ∧ i < 2147483648) (hh : 0 ≤ i ∧ i < (k : Int)) (hb : 0 ≤ σ.1 20 0 i.toNat ∧ σ.1 20 0 i.toNat < 128) : gCt E mX7_character 12 0 [rf 14 0, iv i] σ (.inl (some (iv (σ.1 20 0 i.toNat)))) (gFl σ 0) := by
  refine gCt_of (L := [some (rf 14 0), some (iv i)]) (by decide +kernel) rfl rfl (Nat.le_of_ble_eq_true rfl) (fun X K hE => ?_)
  have t1 : gB1 (0 ≤ i ∧ i ≤ (k : Int) - 1) = 1 := gB1_t (by omega)
  refine x_aload_0 K dX7_character_0 ?_
  refine x_iload_1 K dX7_character_1 ?_
  refine x_iconst K dX7_character_2 ?_
  refine x_aload_0 K dX7_character_3 ?_
  refine x_getI K gfRX7_202 ⟨by decide, (by decide)⟩ dX7_character_4 ?_
  refine gWX.top (b := (k : Int)) hk ?_
  refine x_iconst K dX7_character_7 ?_
  refine x_isub K dX7_character_8 ?_
  refine x_callS3 K (c7_in i 0 ((k : Int) - 1) (by omega)) mtX7_in msX7_in lkRX7_61 ⟨by decide, by decide, by decide⟩ rfl (Nat.le_of_ble_eq_true rfl) dX7_character_9 ?_
  refine x_if_eq (tgt := 19) K (by omega) dX7_character_12 (by decide) (fun h12 => absurd h12 (by omega)) (fun h12 => ?_)
  refine x_iconst K dX7_character_15 ?_
  refine x_goto (tgt := 20) K dX7_character_16 (by decide) ?_
  refine x_putI K gpRX7_39 ⟨by decide, (by decide)⟩ dX7_character_20 ?_
  refine x_aload_0 K dX7_character_23 ?_
  refine x_getI K gfRX7_39 ⟨by decide, (by decide)⟩ dX7_character_24 ?_
  refine gWX.top (b := 0) rfl ?_
  refine x_if_le (tgt := 35) K (by omega) dX7_character_27 (by decide) (fun h27 => ?_) (fun h27 => absurd h27 (by omega))
  refine x_aload_0 K dX7_character_35 ?_
  refine x_getC K gfRX7_25 ⟨by decide, (by decide)⟩ dX7_character_36 ?_
  refine x_iload_1 K dX7_character_39 ?_
  refine x_cald K i.toNat (by omega) rfl ⟨by decide, by decide⟩ (by omega) dX7_character_40 ?_
  exact x_cret K hE rfl dX7_character_41 (by decide) (by decide) (by show 0 ≤ σ.1 20 0 i.toNat ∧ σ.1 20 0 i.toNat < 65536; omega) rfl rfl
def gMl (σ : gS) (l : List Int) : gS := (fun a b c => if a = 14 ∧ b = 0 ∧ c = 12 then (l.length : Int) else if a = 20 ∧ b = 0 ∧ c < l.length then l.getD c 0 else σ.1 a b c, σ.2)
theorem gMl_at (σ : gS) (l : List Int) (a b c : Nat) : (gMl σ l).1 a b c = if a = 14 ∧ b = 0 ∧ c = 12 then (l.length : Int) else if a = 20 ∧ b = 0 ∧ c < l.length then l.getD c 0 else σ.1 a b c := rfl
theorem gMl_n (σ : gS) (l : List Int) : (gMl σ l).1 14 0 12 = (l.length : Int) := by rw [gMl_at, if_pos ⟨rfl, rfl, rfl⟩]
theorem gMl_ms {σ : gS} {Y : Nat → Int} (h : gMs σ Y) (l : List Int) : gMs (gMl σ l) Y := fun j hj => by
  rw [gMl_at, if_neg (by omega), if_neg (by omega)]
  exact h j hj
theorem gMl_1 (σ : gS) (l : List Int) (v : Int) : gU (gU (gMl σ l) 20 0 l.length v) 14 0 12 ((l.length : Int) + 1) = gMl σ (l ++ [v]) := gS_ext (fun a b c => by
  rw [gU_at, gU_at, gMl_at, gMl_at, List.length_append]
  by_cases q : a = 14 ∧ b = 0 ∧ c = 12
  · rw [if_pos q, if_pos q]; rfl
  · rw [if_neg q, if_neg q, if_neg q]
    by_cases q2 : a = 20 ∧ b = 0 ∧ c = l.length
    · rw [if_pos q2, if_pos ⟨q2.1, q2.2.1, by show c < l.length + 1; omega⟩, q2.2.2]
      simp
    · rw [if_neg q2]
      by_cases q3 : a = 20 ∧ b = 0 ∧ c < l.length
      · rw [if_pos q3, if_pos ⟨q3.1, q3.2.1, by show c < l.length + 1; omega⟩]
        simp [List.getD, List.getElem?_append, q3.2.2]
      · rw [if_neg q3, if_neg (fun y => by
          have h2 : c < l.length + 1 := y.2.2
          omega)]) rfl
theorem gMl_0 {σ : gS} : gU σ 14 0 12 0 = gMl σ [] := gS_ext (fun a b c => by
  rw [gU_at, gMl_at]
  by_cases q : a = 14 ∧ b = 0 ∧ c = 12
  · rw [if_pos q, if_pos q]; rfl
  · rw [if_neg q, if_neg q, if_neg (fun y => absurd y.2.2 (Nat.not_lt_zero c))]) rfl
theorem c7_says {E : gE} {σ : gS} (l : List Int) (hl : l.length < 12) (v : Int) (hv : 0 ≤ v ∧ v < 65536) : gCt E mX7_says 1 0 [rf 14 0, iv v] (gMl σ l) (.inl none) (gMl σ (l ++ [v])) := by
  refine gCt_of (L := [some (rf 14 0), some (iv v)]) (by decide +kernel) rfl rfl (Nat.le_of_ble_eq_true rfl) (fun X K hE => ?_)
  refine x_aload_0 K dX7_says_0 ?_
  refine x_getC K gfRX7_25 ⟨by decide, (by decide)⟩ dX7_says_1 ?_
  refine x_aload_0 K dX7_says_4 ?_
  refine x_getI K gfRX7_202 ⟨by decide, (by decide)⟩ dX7_says_5 ?_
  refine gWX.top (b := (l.length : Int)) (gMl_n σ l) ?_
  refine x_iload_1 K dX7_says_8 ?_
  refine x_cast K l.length rfl rfl ⟨by decide, by decide⟩ (by omega) (by omega) dX7_says_9 ?_
  refine x_aload_0 K dX7_says_10 ?_
  refine x_dup K dX7_says_11 rfl ?_
  refine x_getI K gfRX7_202 ⟨by decide, (by decide)⟩ dX7_says_12 ?_
  refine gWX.top (b := (l.length : Int)) (by rw [gU_at, if_neg (by omega)]; exact gMl_n σ l) ?_
  refine x_iconst K dX7_says_15 ?_
  refine x_iadd K dX7_says_16 ?_
  refine x_putI K gpRX7_202 ⟨by decide, (by decide)⟩ dX7_says_17 ?_
  exact x_vret K hE rfl dX7_says_20 (by decide) (by decide) (gMl_1 σ l v)
theorem c7_line_1 {E : gE} {σ : gS} (Y : Nat → Int) (h : gMs σ Y) (hY : gY Y) (s r : Int) (hs : -2147483648 ≤ s ∧ s < 2147483648) (hr : -2147483648 ≤ r ∧ r < 2147483648) (hh : ¬ gRow Y s r) : gCt E mX7_line 12 0 [rf 14 0, iv s, iv r] σ (.inl (some (iv (0)))) (gFl σ 1) := by
  refine gCt_of (L := [some (rf 14 0), some (iv s), some (iv r), none, none]) (by decide +kernel) rfl rfl (Nat.le_of_ble_eq_true rfl) (fun X K hE => ?_)
  have hY0 := hY.1
  have t1 : gB1 (gRow Y s r) = 0 := gB1_f hh
  refine x_aload_0 K dX7_line_0 ?_
  refine x_aload_0 K dX7_line_1 ?_
  refine x_iload_1 K dX7_line_2 ?_
  refine x_iload_2 K dX7_line_3 ?_
  refine x_callV2 K (c7_isRow Y h hY _ _ hs hr) mtX7_isRow miX7_isRow rc14 ⟨by decide, (by decide)⟩ lkRX7_73 ⟨by decide, by decide, by decide⟩ rfl (Nat.le_of_ble_eq_true rfl) dX7_line_4 ?_
  refine x_if_eq (tgt := 14) K (by omega) dX7_line_7 (by decide) (fun h7 => ?_) (fun h7 => absurd h7 (by omega))
  refine x_iconst K dX7_line_14 ?_
  refine x_putI K gpRX7_39 ⟨by decide, (by decide)⟩ dX7_line_15 ?_
  refine x_aload_0 K dX7_line_18 ?_
  refine x_getI K gfRX7_39 ⟨by decide, (by decide)⟩ dX7_line_19 ?_
  refine gWX.top (b := 1) rfl ?_
  refine x_if_le (tgt := 27) K (by omega) dX7_line_22 (by decide) (fun h22 => absurd h22 (by omega)) (fun h22 => ?_)
  refine x_iconst K dX7_line_25 ?_
  exact x_iret K hE rfl dX7_line_26 (by decide) (by decide) rfl rfl
theorem c7_line {E : gE} {σ : gS} (Y : Nat → Int) (h : gMs σ Y) (hY : gY Y) (s r : Int) (hs : -2147483648 ≤ s ∧ s < 2147483648) (hr : -2147483648 ≤ r ∧ r < 2147483648) (hh : gRow Y s r) : gCt E mX7_line 12 0 [rf 14 0, iv s, iv r] σ (.inl (some (iv (((gLn (zb Y s.toNat) r.toNat).length : Int))))) (gMl (gFl σ 0) (gLn (zb Y s.toNat) r.toNat)) := by
  refine gCt_of (L := [some (rf 14 0), some (iv s), some (iv r), none, none]) (by decide +kernel) rfl rfl (Nat.le_of_ble_eq_true rfl) (fun X K hE => ?_)
  have t1 : gB1 (gRow Y s r) = 1 := gB1_t hh
  obtain ⟨n, rfl⟩ : ∃ n : Nat, s = (n : Int) := ⟨s.toNat, by have := hh.1; omega⟩
  obtain ⟨r, rfl⟩ : ∃ r2 : Nat, r = (r2 : Int) := ⟨r.toNat, by have := hh.2; omega⟩
  have hn : (n : Int) < Y 0 := hh.1.2
  have hY0 := hY.1
  have hz := hY.2 n hn
  have ⟨q0, q1, q2, q3, q4, q5, q6, q7, q8⟩ := hz
  have hr9 : (r : Int) < zb Y n 0 := hh.2.2
  have hr6 : r < 6 := by omega
  have bto := q4 r (by omega)
  have bse := gB1_bd (zb Y n 2 = 1)
  have bw := gB1_bd (s_w (zb Y n) r = true)
  refine x_aload_0 K dX7_line_0 ?_
  refine x_aload_0 K dX7_line_1 ?_
  refine x_iload_1 K dX7_line_2 ?_
  refine x_iload_2 K dX7_line_3 ?_
  refine x_callV2 K (c7_isRow Y h hY _ _ hs hr) mtX7_isRow miX7_isRow rc14 ⟨by decide, (by decide)⟩ lkRX7_73 ⟨by decide, by decide, by decide⟩ rfl (Nat.le_of_ble_eq_true rfl) dX7_line_4 ?_
  refine x_if_eq (tgt := 14) K (by omega) dX7_line_7 (by decide) (fun h7 => absurd h7 (by omega)) (fun h7 => ?_)
  refine x_iconst K dX7_line_10 ?_
  refine x_goto (tgt := 15) K dX7_line_11 (by decide) ?_
  refine x_putI K gpRX7_39 ⟨by decide, (by decide)⟩ dX7_line_15 ?_
  refine x_aload_0 K dX7_line_18 ?_
  refine x_getI K gfRX7_39 ⟨by decide, (by decide)⟩ dX7_line_19 ?_
  refine gWX.top (b := 0) rfl ?_
  refine x_if_le (tgt := 27) K (by omega) dX7_line_22 (by decide) (fun h22 => ?_) (fun h22 => absurd h22 (by omega))
  refine x_aload_0 K dX7_line_27 ?_
  refine x_iconst K dX7_line_28 ?_
  refine x_putI K gpRX7_202 ⟨by decide, (by decide)⟩ dX7_line_29 ?_
  refine gWX.eq (σ' := gMl (gFl σ 0) ([])) gMl_0 ?_
  refine x_iconst K dX7_line_32 ?_
  refine x_istore_3 K dX7_line_33 rfl ?_
  refine gLp (P := fun i : Nat => gWX X E 0 0 34 [some (rf 14 0), some (iv (n : Int)), some (iv (r : Int)), some (iv (i : Int)), none] [] (gMl (gFl σ 0) (gLnC (zb Y n) r i))) ((zb Y n 1).toNat) (fun k0 => ?_) (fun i hi ih => ?_) ?_
  · exact gWX.to rfl rfl (k0)
  · refine x_iload_3 K dX7_line_34 ?_
    refine x_aload_0 K dX7_line_35 ?_
    refine x_iload_1 K dX7_line_36 ?_
    refine x_iconst K dX7_line_37 ?_
    refine x_callV2 K (c7_of Y (gMl_ms (gMs_u h 7 0) (gLnC (zb Y n) r i)) n 1 (by omega) (by omega)) mtX7_of miX7_of rc14 ⟨by decide, (by decide)⟩ lkRX7_69 ⟨by decide, by decide, by decide⟩ rfl (Nat.le_of_ble_eq_true rfl) dX7_line_38 ?_
    refine x_icmp_ge (tgt := 79) K (by omega) dX7_line_41 (by decide) (fun h41 => absurd h41 (by omega)) (fun h41 => ?_)
    refine x_aload_0 K dX7_line_44 ?_
    refine x_iload_1 K dX7_line_45 ?_
    refine x_iload_2 K dX7_line_46 ?_
    refine x_iload_3 K dX7_line_47 ?_
    refine x_callV3 K (c7_sign1 Y (gMl_ms (gMs_u h 7 0) (gLnC (zb Y n) r i)) n (by omega) r i hr6 (by omega)) mtX7_sign1 miX7_sign1 rc14 ⟨by decide, (by decide)⟩ lkRX7_88 ⟨by decide, by decide, by decide⟩ rfl (Nat.le_of_ble_eq_true rfl) dX7_line_48 ?_
    refine x_istore_4 K dX7_line_51 rfl ?_
    refine x_aload_0 K dX7_line_53 ?_
    refine x_iload_4 K dX7_line_54 ?_
    have b9 : -1 ≤ zb Y n (20 + (8 * r + i)) ∧ zb Y n (20 + (8 * r + i)) ≤ 9 := q5 (8 * r + i) (by omega)
    refine x_if_ge (tgt := 64) K (by omega) dX7_line_56 (by decide) (fun h56 => ?_) (fun h56 => ?_)
    · refine x_bipush K dX7_line_64 rfl ?_
      refine x_iload_4 K dX7_line_66 ?_
      refine x_iadd K dX7_line_68 ?_
      refine x_i2c K dX7_line_69 ?_
      refine gWX.top (b := gCh (zb Y n) r i) (by unfold gCh; rw [if_neg (by omega)]; omega) ?_
      refine x_callV1v K (c7_says (gLnC (zb Y n) r i) (by rw [gLnC_len]; omega) (gCh (zb Y n) r i) (by unfold gCh; rw [if_neg (by omega)]; omega)) mtX7_says miX7_says rc14 ⟨by decide, (by decide)⟩ lkRX7_205 ⟨by decide, by decide, by decide⟩ rfl (Nat.le_of_ble_eq_true rfl) dX7_line_70 ?_
      refine x_iinc_3 K dX7_line_73 rfl ?_
      refine x_goto (tgt := 34) K dX7_line_76 (by decide) ?_
      rw [gLnC_1]
      exact gWX.fgt 4 (gWX.to rfl rfl ih)
    · refine x_bipush K dX7_line_59 rfl ?_
      refine x_goto (tgt := 70) K dX7_line_61 (by decide) ?_
      refine gWX.top (b := gCh (zb Y n) r i) (by unfold gCh; rw [if_pos (by omega)]) ?_
      refine x_callV1v K (c7_says (gLnC (zb Y n) r i) (by rw [gLnC_len]; omega) (gCh (zb Y n) r i) (by unfold gCh; rw [if_pos (by omega)]; omega)) mtX7_says miX7_says rc14 ⟨by decide, (by decide)⟩ lkRX7_205 ⟨by decide, by decide, by decide⟩ rfl (Nat.le_of_ble_eq_true rfl) dX7_line_70 ?_
      refine x_iinc_3 K dX7_line_73 rfl ?_
      refine x_goto (tgt := 34) K dX7_line_76 (by decide) ?_
      rw [gLnC_1]
      exact gWX.fgt 4 (gWX.to rfl rfl ih)
  · refine x_iload_3 K dX7_line_34 ?_
    refine x_aload_0 K dX7_line_35 ?_
    refine x_iload_1 K dX7_line_36 ?_
    refine x_iconst K dX7_line_37 ?_
    refine x_callV2 K (c7_of Y (gMl_ms (gMs_u h 7 0) (gLnC (zb Y n) r (zb Y n 1).toNat)) n 1 (by omega) (by omega)) mtX7_of miX7_of rc14 ⟨by decide, (by decide)⟩ lkRX7_69 ⟨by decide, by decide, by decide⟩ rfl (Nat.le_of_ble_eq_true rfl) dX7_line_38 ?_
    refine x_icmp_ge (tgt := 79) K (by omega) dX7_line_41 (by decide) (fun h41 => ?_) (fun h41 => absurd h41 (by omega))
    refine x_aload_0 K dX7_line_79 ?_
    refine x_iload_1 K dX7_line_80 ?_
    refine x_callV1 K (c7_isSealed Y (gMl_ms (gMs_u h 7 0) (gLnC (zb Y n) r (zb Y n 1).toNat)) hY n hn) mtX7_isSealed miX7_isSealed rc14 ⟨by decide, (by decide)⟩ lkRX7_111 ⟨by decide, by decide, by decide⟩ rfl (Nat.le_of_ble_eq_true rfl) dX7_line_81 ?_
    refine x_if_eq (tgt := 124) K (by omega) dX7_line_84 (by decide) (fun h84 => ?_) (fun h84 => ?_)
    · have hse : ¬ zb Y n 2 = 1 := fun q => by rw [gB1_t q] at h84; omega
      have hwf : ¬ s_w (zb Y n) r = true := fun q => hse ((s_w_iff _ _).mp q).1
      have hl : gLn (zb Y n) r = gLnC (zb Y n) r (zb Y n 1).toNat := by unfold gLn; rw [if_neg hse, if_neg hwf, List.append_nil, List.append_nil]
      rw [← hl]
      refine x_aload_0 K dX7_line_124 ?_
      refine x_getI K gfRX7_202 ⟨by decide, (by decide)⟩ dX7_line_125 ?_
      exact x_iret K hE rfl dX7_line_128 (by decide) (by decide) (gMl_n _ _) rfl
    · have hse : zb Y n 2 = 1 := Classical.byContradiction (fun q => h84 (gB1_f q))
      refine x_aload_0 K dX7_line_87 ?_
      refine x_bipush K dX7_line_88 rfl ?_
      refine x_callV1v K (c7_says (gLnC (zb Y n) r (zb Y n 1).toNat) (by rw [gLnC_len]; omega) 124 (by omega)) mtX7_says miX7_says rc14 ⟨by decide, (by decide)⟩ lkRX7_205 ⟨by decide, by decide, by decide⟩ rfl (Nat.le_of_ble_eq_true rfl) dX7_line_90 ?_
      refine x_aload_0 K dX7_line_93 ?_
      refine x_bipush K dX7_line_94 rfl ?_
      refine x_aload_0 K dX7_line_96 ?_
      refine x_iload_1 K dX7_line_97 ?_
      refine x_iconst K dX7_line_98 ?_
      refine x_iload_2 K dX7_line_99 ?_
      refine x_callV3 K (c7_told_r Y (gMl_ms (gMs_u h 7 0) (gLnC (zb Y n) r (zb Y n 1).toNat ++ [124])) hY n hn r hr6) mtX7_told miX7_told rc14 ⟨by decide, (by decide)⟩ lkRX7_105 ⟨by decide, by decide, by decide⟩ rfl (Nat.le_of_ble_eq_true rfl) dX7_line_100 ?_
      refine x_iadd K dX7_line_103 ?_
      refine x_i2c K dX7_line_104 ?_
      refine gWX.top (b := 48 + zb Y n (6 + r)) (by omega) ?_
      refine x_callV1v K (c7_says (gLnC (zb Y n) r (zb Y n 1).toNat ++ [124]) (by rw [List.length_append, gLnC_len]; simp; omega) (48 + zb Y n (6 + r)) (by omega)) mtX7_says miX7_says rc14 ⟨by decide, (by decide)⟩ lkRX7_205 ⟨by decide, by decide, by decide⟩ rfl (Nat.le_of_ble_eq_true rfl) dX7_line_105 ?_
      refine x_aload_0 K dX7_line_108 ?_
      refine x_iload_1 K dX7_line_109 ?_
      refine x_iconst K dX7_line_110 ?_
      refine x_iload_2 K dX7_line_111 ?_
      refine x_callV3 K (c7_isWrong_r Y (gMl_ms (gMs_u h 7 0) (gLnC (zb Y n) r (zb Y n 1).toNat ++ [124] ++ [48 + zb Y n (6 + r)])) hY n hn r hr6) mtX7_isWrong miX7_isWrong rc14 ⟨by decide, (by decide)⟩ lkRX7_117 ⟨by decide, by decide, by decide⟩ rfl (Nat.le_of_ble_eq_true rfl) dX7_line_112 ?_
      refine x_if_eq (tgt := 124) K (by omega) dX7_line_115 (by decide) (fun h115 => ?_) (fun h115 => ?_)
      · have hwf : ¬ s_w (zb Y n) r = true := fun q => by rw [gB1_t q] at h115; omega
        have hl : gLn (zb Y n) r = gLnC (zb Y n) r (zb Y n 1).toNat ++ [124] ++ [48 + zb Y n (6 + r)] := by unfold gLn; rw [if_pos hse, if_neg hwf, List.append_nil]; simp
        rw [← hl]
        refine x_aload_0 K dX7_line_124 ?_
        refine x_getI K gfRX7_202 ⟨by decide, (by decide)⟩ dX7_line_125 ?_
        exact x_iret K hE rfl dX7_line_128 (by decide) (by decide) (gMl_n _ _) rfl
      · have hwt : s_w (zb Y n) r = true := Classical.byContradiction (fun q => h115 (gB1_f q))
        have hl : gLn (zb Y n) r = gLnC (zb Y n) r (zb Y n 1).toNat ++ [124] ++ [48 + zb Y n (6 + r)] ++ [33] := by unfold gLn; rw [if_pos hse, if_pos hwt]; simp
        refine x_aload_0 K dX7_line_118 ?_
        refine x_bipush K dX7_line_119 rfl ?_
        refine x_callV1v K (c7_says (gLnC (zb Y n) r (zb Y n 1).toNat ++ [124] ++ [48 + zb Y n (6 + r)]) (by rw [List.length_append, List.length_append, gLnC_len]; simp; omega) 33 (by omega)) mtX7_says miX7_says rc14 ⟨by decide, (by decide)⟩ lkRX7_205 ⟨by decide, by decide, by decide⟩ rfl (Nat.le_of_ble_eq_true rfl) dX7_line_121 ?_
        rw [← hl]
        refine x_aload_0 K dX7_line_124 ?_
        refine x_getI K gfRX7_202 ⟨by decide, (by decide)⟩ dX7_line_125 ?_
        exact x_iret K hE rfl dX7_line_128 (by decide) (by decide) (gMl_n _ _) rfl
