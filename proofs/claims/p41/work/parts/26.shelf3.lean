/-! ===== ScrollChecks$Shelf: ranks and accounts ===== -/
section GW9
variable {X : gM} {E : gE} {M : gMt} {D n cells slots pc : Nat} {L : List (Option gV)} {st : List gV} {σ : gS}
theorem x_icmpu_ne (K : gK X E M D n) {a b : Int} {off : Int} {tgt : Nat} (d : decode M.2.1 pc = .ok (.if_icmp .ne off, 3)) (ht : (pc : Int) + off = (tgt : Int)) (kt : ¬ Int32.ofInt a = Int32.ofInt b → gWX X E cells slots tgt L st σ) (kf : Int32.ofInt a = Int32.ofInt b → gWX X E cells slots (pc + 3) L st σ) : gWX X E cells slots pc L (iv b :: iv a :: st) σ :=
  fun H locs ls hP hS hl => lv_icmp_ne K.1 K.2.1 d ht (fun q => kt q H locs ls hP hS hl) (fun q => kf q H locs ls hP hS hl)
end GW9
def s_cl (z : Nat → Int) : Int := z 0 * z 1
theorem s_cl_bd {z : Nat → Int} (hz : gZ z) : 1 ≤ s_cl z ∧ s_cl z ≤ 48 := by
  have h0 := hz.1
  have h1 := hz.2.1
  unfold s_cl
  obtain ⟨a, ha⟩ := g_nat (z := z 0) (by omega)
  obtain ⟨b, hb⟩ := g_nat (z := z 1) (by omega)
  have l1 : 1 * 1 ≤ a * b := Nat.mul_le_mul (by omega) (by omega)
  have l2 : a * b ≤ 6 * 8 := Nat.mul_le_mul (by omega) (by omega)
  rw [ha, hb, ← Int.natCast_mul]
  omega
theorem s_dp_bd {z : Nat → Int} (hz : gZ z) : 0 ≤ s_dp z ∧ s_dp z ≤ 96 := by
  have b1 := s_sm_bd hz
  have b2 := s_wr_bd z
  have b3 := s_wc_bd z
  unfold s_dp
  obtain ⟨a, ha⟩ := g_nat (z := s_wr z) (by omega)
  obtain ⟨b, hb⟩ := g_nat (z := s_wc z) (by omega)
  have l2 : a * b ≤ 6 * 8 := Nat.mul_le_mul (by omega) (by omega)
  rw [ha, hb, ← Int.natCast_mul]
  omega
def s_key (Y : Nat → Int) (n : Nat) : Int := (100 * s_dp (zb Y n) + 48 - s_cl (zb Y n)) * 10 + (n : Int)
theorem s_key_bd {Y : Nat → Int} (hY : gY Y) {n : Nat} (hn : (n : Int) < Y 0) : 0 ≤ s_key Y n ∧ s_key Y n ≤ 100000 := by
  have h0 := hY.1
  have b1 := s_dp_bd (hY.2 n hn)
  have b2 := s_cl_bd (hY.2 n hn)
  unfold s_key
  omega
def s_ah (Y : Nat → Int) (n : Nat) : Int := gSum (fun m => gB1 (s_key Y m < s_key Y n)) (Y 0).toNat
def s_rk (Y : Nat → Int) (p : Int) : Int := gFst (fun n => decide (s_ah Y n = p)) 0 (Y 0).toNat
def s_sr (w : Nat) (z : Nat → Int) : Int := if w = 0 then 1 else if w = 1 then z 2 else if w = 2 then (if z 3 = -1 then 0 else 1) else if w = 3 then s_cl z else if w = 4 then s_sm z else s_db z
def s_au (Y : Nat → Int) (w : Nat) : Int := gSum (fun n => s_sr w (zb Y n)) (Y 0).toNat
def s_me (Y : Nat → Int) : Int := gSum (fun n => zb Y n 4) (Y 0).toNat
def s_fi (Y : Nat → Int) : Int := gSum (fun n => zb Y n 5) (Y 0).toNat
def s_well (Y : Nat → Int) : Int := gB1 (Int32.ofInt (s_me Y) = Int32.ofInt (Y 3) ∧ Int32.ofInt (s_fi Y) = Int32.ofInt (Y 4))
theorem c5_rankKey {E : gE} {σ : gS} (sh : Nat) (hs : sh < 11) (Y : Nat → Int) (h : gSh σ sh Y) (hY : gY Y) (n : Nat) (hn : (n : Int) < Y 0) : gCt E mX5_rankKey 5 0 [rf 1 sh, iv (n : Int)] σ (.inl (some (iv (s_key Y n)))) σ := by
  refine gCt_of (L := [some (rf 1 sh), some (iv (n : Int)), none]) (by decide +kernel) rfl rfl (Nat.le_of_ble_eq_true rfl) (fun X K hE => ?_)
  have hN := K.2.2.2.2.1
  have ⟨⟨f1, f2, f3, f4, f5⟩, hsc⟩ := h
  have hY0 := hY.1
  have hi : 5 * sh + n < 56 := by omega
  have hz := hY.2 n hn
  have hgs := hsc n hn
  have ⟨e0, e1, _⟩ := hgs
  refine x_aload_0 K dX5_rankKey_0 ?_
  refine x_iload_1 K dX5_rankKey_1 ?_
  refine x_callV1 K (c5_findG sh hs (Y 0) f1 (by omega) n (by omega)) mtX5_find miX5_find rc1 ⟨by decide, hs⟩ lkRX5_34 ⟨by decide, by decide, by decide⟩ rfl (Nat.le_of_ble_eq_true rfl) dX5_rankKey_2 ?_
  refine x_astore_2 K dX5_rankKey_5 rfl ?_
  refine x_aload_2 K dX5_rankKey_6 ?_
  refine x_ifnonnull (tgt := 12) K dX5_rankKey_7 (by decide) ?_
  refine x_bipush K dX5_rankKey_12 rfl ?_
  refine x_aload_2 K dX5_rankKey_14 ?_
  refine x_callV0 K (c4_doubtsByProduct (5 * sh + n) hi (zb Y n) hgs hz) mtX4_doubtsByProduct miX4_doubtsByProduct rc3 ⟨by decide, hi⟩ lkRX5_134 ⟨by decide, by decide, by decide⟩ rfl (Nat.le_of_ble_eq_true rfl) dX5_rankKey_15 ?_
  refine x_imul K dX5_rankKey_18 ?_
  refine x_bipush K dX5_rankKey_19 rfl ?_
  refine x_iadd K dX5_rankKey_21 ?_
  refine x_aload_2 K dX5_rankKey_22 ?_
  refine x_callV0 K (c4_cells (5 * sh + n) hi) mtX4_cells miX4_cells rc3 ⟨by decide, hi⟩ lkRX5_137 ⟨by decide, by decide, by decide⟩ rfl (Nat.le_of_ble_eq_true rfl) dX5_rankKey_23 ?_
  refine gWX.top (b := s_cl (zb Y n)) (by unfold s_cl; rw [e0, e1]) ?_
  refine x_isub K dX5_rankKey_26 ?_
  refine x_bipush K dX5_rankKey_27 rfl ?_
  refine x_imul K dX5_rankKey_29 ?_
  refine x_iload_1 K dX5_rankKey_30 ?_
  refine x_iadd K dX5_rankKey_31 ?_
  exact x_iret K hE rfl dX5_rankKey_32 (by decide) (by decide) rfl rfl
theorem c5_numberAtRank {E : gE} {σ : gS} (sh : Nat) (hs : sh < 11) (Y : Nat → Int) (h : gSh σ sh Y) (hY : gY Y) (p : Int) (hp : -2147483648 ≤ p ∧ p < 2147483648) : gCt E mX5_numberAtRank 6 0 [rf 1 sh, iv p] σ (.inl (some (iv (s_rk Y p)))) σ := by
  refine gCt_of (L := [some (rf 1 sh), some (iv p), none, none, none]) (by decide +kernel) rfl rfl (Nat.le_of_ble_eq_true rfl) (fun X K hE => ?_)
  have hN := K.2.2.2.2.1
  have ⟨⟨f1, f2, f3, f4, f5⟩, hsc⟩ := h
  have hY0 := hY.1
  refine x_iconst K dX5_numberAtRank_0 ?_
  refine x_istore_2 K dX5_numberAtRank_1 rfl ?_
  refine gLp (P := fun n : Nat => (s_rk Y p = gFst (fun n => decide (s_ah Y n = p)) n ((Y 0).toNat - n)) → gWX X E 0 0 2 [some (rf 1 sh), some (iv p), some (iv (n : Int)), none, none] [] (σ)) ((Y 0).toNat) (fun k0 => ?_) (fun n hn ih => ?_) ?_
  · exact gWX.to rfl rfl (k0 rfl)
  · intro hy
    rw [show (Y 0).toNat - n = ((Y 0).toNat - (n + 1)) + 1 by omega] at hy
    unfold gFst at hy
    refine x_iload_2 K dX5_numberAtRank_2 ?_
    refine x_aload_0 K dX5_numberAtRank_3 ?_
    refine x_getI K gfRX5_18 ⟨by decide, hs⟩ dX5_numberAtRank_4 ?_
    refine x_icmp_ge (tgt := 65) K (by omega) dX5_numberAtRank_7 (by decide) (fun h7 => absurd h7 (by omega)) (fun h7 => ?_)
    refine x_iconst K dX5_numberAtRank_10 ?_
    refine x_istore_3 K dX5_numberAtRank_11 rfl ?_
    refine x_iconst K dX5_numberAtRank_12 ?_
    refine x_istore_4 K dX5_numberAtRank_13 rfl ?_
    refine gLp (P := fun m : Nat => gWX X E 0 0 15 [some (rf 1 sh), some (iv p), some (iv (n : Int)), some (iv (gSum (fun m => gB1 (s_key Y m < s_key Y n)) m)), some (iv (m : Int))] [] (σ)) ((Y 0).toNat) (fun k0 => ?_) (fun m hm ih => ?_) ?_
    · exact gWX.to rfl rfl (k0)
    · refine x_iload_4 K dX5_numberAtRank_15 ?_
      refine x_aload_0 K dX5_numberAtRank_17 ?_
      refine x_getI K gfRX5_18 ⟨by decide, hs⟩ dX5_numberAtRank_18 ?_
      refine x_icmp_ge (tgt := 52) K (by omega) dX5_numberAtRank_21 (by decide) (fun h21 => absurd h21 (by omega)) (fun h21 => ?_)
      refine x_iload_3 K dX5_numberAtRank_24 ?_
      refine x_aload_0 K dX5_numberAtRank_25 ?_
      refine x_iload_4 K dX5_numberAtRank_26 ?_
      refine x_callV1 K (c5_rankKey sh hs Y h hY m (by omega)) mtX5_rankKey miX5_rankKey rc1 ⟨by decide, hs⟩ lkRX5_131 ⟨by decide, by decide, by decide⟩ rfl (Nat.le_of_ble_eq_true rfl) dX5_numberAtRank_28 ?_
      have k1 := s_key_bd hY (n := m) (by omega)
      have k2 := s_key_bd hY (n := n) (by omega)
      refine x_aload_0 K dX5_numberAtRank_31 ?_
      refine x_iload_2 K dX5_numberAtRank_32 ?_
      refine x_callV1 K (c5_rankKey sh hs Y h hY n (by omega)) mtX5_rankKey miX5_rankKey rc1 ⟨by decide, hs⟩ lkRX5_131 ⟨by decide, by decide, by decide⟩ rfl (Nat.le_of_ble_eq_true rfl) dX5_numberAtRank_33 ?_
      refine gTern (fun kt kf => x_icmp_ge (tgt := 43) K (by omega) dX5_numberAtRank_36 (by decide) kt kf) (fun k => x_iconst K dX5_numberAtRank_43 k) (fun k => x_iconst K dX5_numberAtRank_39 (x_goto K dX5_numberAtRank_40 (by decide) k)) ?_
      refine gWX.top (b := gB1 (s_key Y m < s_key Y n)) (by unfold gB1; split <;> split <;> omega) ?_
      refine x_iadd K dX5_numberAtRank_44 ?_
      refine x_istore_3 K dX5_numberAtRank_45 rfl ?_
      refine x_iinc_4 K dX5_numberAtRank_46 rfl ?_
      refine x_goto (tgt := 15) K dX5_numberAtRank_49 (by decide) ?_
      exact gWX.to rfl rfl (ih)
    · refine x_iload_4 K dX5_numberAtRank_15 ?_
      refine x_aload_0 K dX5_numberAtRank_17 ?_
      refine x_getI K gfRX5_18 ⟨by decide, hs⟩ dX5_numberAtRank_18 ?_
      refine x_icmp_ge (tgt := 52) K (by omega) dX5_numberAtRank_21 (by decide) (fun h21 => ?_) (fun h21 => absurd h21 (by omega))
      refine x_iload_3 K dX5_numberAtRank_52 ?_
      refine x_iload_1 K dX5_numberAtRank_53 ?_
      have ka := gSum_le (f := fun m => gB1 (s_key Y m < s_key Y n)) (c := 1) (fun k => gB1_bd _) (Y 0).toNat
      have ka2 : s_ah Y n = gSum (fun m => gB1 (s_key Y m < s_key Y n)) (Y 0).toNat := rfl
      refine x_icmp_ne (tgt := 59) K (by omega) dX5_numberAtRank_54 (by decide) (fun h54 => ?_) (fun h54 => ?_)
      · have hw : ¬ decide (s_ah Y n = p) = true := fun q => h54 (of_decide_eq_true q)
        rw [if_neg hw] at hy
        have hy2 : s_rk Y p = gFst (fun n => decide (s_ah Y n = p)) (n + 1) ((Y 0).toNat - (n + 1)) := hy
        refine x_iinc_2 K dX5_numberAtRank_59 rfl ?_
        refine x_goto (tgt := 2) K dX5_numberAtRank_62 (by decide) ?_
        exact gWX.fgt 3 (gWX.fgt 4 (gWX.to rfl rfl (ih hy2)))
      · have hw : decide (s_ah Y n = p) = true := decide_eq_true h54
        rw [if_pos hw] at hy
        refine x_iload_2 K dX5_numberAtRank_57 ?_
        exact x_iret K hE rfl dX5_numberAtRank_58 (by decide) (by decide) hy.symm rfl
  · intro hy
    rw [Nat.sub_self] at hy
    refine x_iload_2 K dX5_numberAtRank_2 ?_
    refine x_aload_0 K dX5_numberAtRank_3 ?_
    refine x_getI K gfRX5_18 ⟨by decide, hs⟩ dX5_numberAtRank_4 ?_
    refine x_icmp_ge (tgt := 65) K (by omega) dX5_numberAtRank_7 (by decide) (fun h7 => ?_) (fun h7 => absurd h7 (by omega))
    refine x_iconst K dX5_numberAtRank_65 ?_
    exact x_iret K hE rfl dX5_numberAtRank_66 (by decide) (by decide) hy.symm rfl
theorem c5_share {E : gE} {σ : gS} (i : Nat) (hi : i < 56) (z : Nat → Int) (h : gScr σ i z) (hz : gZ z) (w : Nat) (hw : w ≤ 5) : gCt E mX5_share 5 0 [rf 3 i, iv (w : Int)] σ (.inl (some (iv (s_sr w z)))) σ := by
  refine gCt_of (L := [some (rf 3 i), some (iv (w : Int))]) (by decide +kernel) rfl rfl (Nat.le_of_ble_eq_true rfl) (fun X K hE => ?_)
  have ⟨e0, e1, e2, e3, e4, e5, es, eb, em, et⟩ := h
  have ⟨q0, q1, q2, q3, q4, q5, q6, q7, q8⟩ := hz
  refine x_iload_1 K dX5_share_0 ?_
  obtain rfl | rfl | rfl | rfl | rfl | rfl : w = 0 ∨ w = 1 ∨ w = 2 ∨ w = 3 ∨ w = 4 ∨ w = 5 := by omega
  · refine x_tblIn (tgt := 36) K 0 (by decide) (by decide) (by decide) rfl dX5_share_1 (by decide) ?_
    refine x_iconst K dX5_share_36 ?_
    exact x_iret K hE rfl dX5_share_37 (by decide) (by decide) rfl rfl
  · refine x_tblIn (tgt := 38) K 1 (by decide) (by decide) (by decide) rfl dX5_share_1 (by decide) ?_
    refine x_aload_0 K dX5_share_38 ?_
    refine x_getI K gfRX5_143 ⟨by decide, hi⟩ dX5_share_39 ?_
    refine x_if_eq (tgt := 49) K (by omega) dX5_share_42 (by decide) (fun h42 => ?_) (fun h42 => ?_)
    · refine x_iconst K dX5_share_49 ?_
      exact x_iret K hE rfl dX5_share_50 (by decide) (by decide) (by show _ = z 2; omega) rfl
    · refine x_iconst K dX5_share_45 ?_
      refine x_goto (tgt := 50) K dX5_share_46 (by decide) ?_
      exact x_iret K hE rfl dX5_share_50 (by decide) (by decide) (by show _ = z 2; omega) rfl
  · refine x_tblIn (tgt := 51) K 2 (by decide) (by decide) (by decide) rfl dX5_share_1 (by decide) ?_
    refine x_aload_0 K dX5_share_51 ?_
    refine x_getI K gfRX5_146 ⟨by decide, hi⟩ dX5_share_52 ?_
    refine x_iconst K dX5_share_55 ?_
    refine x_icmp_ne (tgt := 63) K (by omega) dX5_share_56 (by decide) (fun h56 => ?_) (fun h56 => ?_)
    · refine x_iconst K dX5_share_63 ?_
      exact x_iret K hE rfl dX5_share_64 (by decide) (by decide) (by show _ = if z 3 = -1 then (0 : Int) else 1; split <;> omega) rfl
    · refine x_iconst K dX5_share_59 ?_
      refine x_goto (tgt := 64) K dX5_share_60 (by decide) ?_
      exact x_iret K hE rfl dX5_share_64 (by decide) (by decide) (by show _ = if z 3 = -1 then (0 : Int) else 1; split <;> omega) rfl
  · refine x_tblIn (tgt := 65) K 3 (by decide) (by decide) (by decide) rfl dX5_share_1 (by decide) ?_
    refine x_aload_0 K dX5_share_65 ?_
    refine x_callV0 K (c4_cells i hi) mtX4_cells miX4_cells rc3 ⟨by decide, hi⟩ lkRX5_137 ⟨by decide, by decide, by decide⟩ rfl (Nat.le_of_ble_eq_true rfl) dX5_share_66 ?_
    exact x_iret K hE rfl dX5_share_69 (by decide) (by decide) (by show _ = s_cl z; unfold s_cl; rw [e0, e1]) rfl
  · refine x_tblIn (tgt := 70) K 4 (by decide) (by decide) (by decide) rfl dX5_share_1 (by decide) ?_
    refine x_aload_0 K dX5_share_70 ?_
    refine x_callV0 K (c4_smudgedCells i hi z h hz) mtX4_smudgedCells miX4_smudgedCells rc3 ⟨by decide, hi⟩ lkRX5_107 ⟨by decide, by decide, by decide⟩ rfl (Nat.le_of_ble_eq_true rfl) dX5_share_71 ?_
    exact x_iret K hE rfl dX5_share_74 (by decide) (by decide) rfl rfl
  · refine x_tblOut (tgt := 75) K (by decide) (by decide) dX5_share_1 (by decide) ?_
    refine x_aload_0 K dX5_share_75 ?_
    refine x_callV0 K (c4_doubtsByCell i hi z h hz) mtX4_doubtsByCell miX4_doubtsByCell rc3 ⟨by decide, hi⟩ lkRX5_149 ⟨by decide, by decide, by decide⟩ rfl (Nat.le_of_ble_eq_true rfl) dX5_share_76 ?_
    exact x_iret K hE rfl dX5_share_79 (by decide) (by decide) rfl rfl
theorem c5_addedUp {E : gE} {σ : gS} (sh : Nat) (hs : sh < 11) (Y : Nat → Int) (h : gSh σ sh Y) (hY : gY Y) (w : Nat) (hw : w ≤ 5) : gCt E mX5_addedUp 6 0 [rf 1 sh, iv (w : Int)] σ (.inl (some (iv (s_au Y w)))) σ := by
  refine gCt_of (L := [some (rf 1 sh), some (iv (w : Int)), none, none, none]) (by decide +kernel) rfl rfl (Nat.le_of_ble_eq_true rfl) (fun X K hE => ?_)
  have hN := K.2.2.2.2.1
  have ⟨⟨f1, f2, f3, f4, f5⟩, hsc⟩ := h
  have hY0 := hY.1
  refine x_iconst K dX5_addedUp_0 ?_
  refine x_istore_2 K dX5_addedUp_1 rfl ?_
  refine x_iconst K dX5_addedUp_2 ?_
  refine x_istore_3 K dX5_addedUp_3 rfl ?_
  refine gLp (P := fun n : Nat => gWX X E 0 0 4 [some (rf 1 sh), some (iv (w : Int)), some (iv (gSum (fun n => s_sr w (zb Y n)) n)), some (iv (n : Int)), none] [] (σ)) ((Y 0).toNat) (fun k0 => ?_) (fun n hn ih => ?_) ?_
  · exact gWX.to rfl rfl (k0)
  · refine x_iload_3 K dX5_addedUp_4 ?_
    refine x_aload_0 K dX5_addedUp_5 ?_
    refine x_getI K gfRX5_18 ⟨by decide, hs⟩ dX5_addedUp_6 ?_
    refine x_icmp_ge (tgt := 43) K (by omega) dX5_addedUp_9 (by decide) (fun h9 => absurd h9 (by omega)) (fun h9 => ?_)
    refine x_aload_0 K dX5_addedUp_12 ?_
    refine x_iload_3 K dX5_addedUp_13 ?_
    refine x_callV1 K (c5_findG sh hs (Y 0) f1 (by omega) n (by omega)) mtX5_find miX5_find rc1 ⟨by decide, hs⟩ lkRX5_34 ⟨by decide, by decide, by decide⟩ rfl (Nat.le_of_ble_eq_true rfl) dX5_addedUp_14 ?_
    refine x_astore_4 K dX5_addedUp_17 rfl ?_
    refine x_iload_2 K dX5_addedUp_19 ?_
    refine x_aload_4 K dX5_addedUp_20 ?_
    refine x_ifnonnull (tgt := 29) K dX5_addedUp_22 (by decide) ?_
    refine x_aload_4 K dX5_addedUp_29 ?_
    refine x_iload_1 K dX5_addedUp_31 ?_
    have hi : 5 * sh + n < 56 := by omega
    refine x_callS2 K (c5_share (5 * sh + n) hi (zb Y n) (hsc n (by omega)) (hY.2 n (by omega)) w hw) mtX5_share msX5_share lkRX5_140 ⟨by decide, by decide, by decide⟩ rfl (Nat.le_of_ble_eq_true rfl) dX5_addedUp_32 ?_
    refine x_iadd K dX5_addedUp_35 ?_
    refine x_istore_2 K dX5_addedUp_36 rfl ?_
    refine x_iinc_3 K dX5_addedUp_37 rfl ?_
    refine x_goto (tgt := 4) K dX5_addedUp_40 (by decide) ?_
    exact gWX.fgt 4 (gWX.to rfl rfl ih)
  · refine x_iload_3 K dX5_addedUp_4 ?_
    refine x_aload_0 K dX5_addedUp_5 ?_
    refine x_getI K gfRX5_18 ⟨by decide, hs⟩ dX5_addedUp_6 ?_
    refine x_icmp_ge (tgt := 43) K (by omega) dX5_addedUp_9 (by decide) (fun h9 => ?_) (fun h9 => absurd h9 (by omega))
    refine x_iload_2 K dX5_addedUp_43 ?_
    exact x_iret K hE rfl dX5_addedUp_44 (by decide) (by decide) rfl rfl
set_option maxHeartbeats 4000000 in
theorem c5_isConsistent {E : gE} {σ : gS} (sh : Nat) (hs : sh < 11) (Y : Nat → Int) (h : gSh σ sh Y) (hY : gY Y) : gCt E mX5_isConsistent 6 0 [rf 1 sh] σ (.inl (some (iv (s_well Y)))) σ := by
  refine gCt_of (L := [some (rf 1 sh), none, none, none, none, none, none]) (by decide +kernel) rfl rfl (Nat.le_of_ble_eq_true rfl) (fun X K hE => ?_)
  have hN := K.2.2.2.2.1
  have ⟨⟨f1, f2, f3, f4, f5⟩, hsc⟩ := h
  have hY0 := hY.1
  refine x_iconst K dX5_isConsistent_0 ?_
  refine x_istore_1 K dX5_isConsistent_1 rfl ?_
  refine x_iconst K dX5_isConsistent_2 ?_
  refine x_istore_2 K dX5_isConsistent_3 rfl ?_
  refine x_iconst K dX5_isConsistent_4 ?_
  refine x_istore_3 K dX5_isConsistent_5 rfl ?_
  refine x_iconst K dX5_isConsistent_6 ?_
  refine x_istore_4 K dX5_isConsistent_7 rfl ?_
  refine gLp (P := fun n : Nat => gWX X E 0 0 9 [some (rf 1 sh), some (iv (gSum (fun n => zb Y n 4) n)), some (iv (gSum (fun n => zb Y n 5) n)), some (iv 1), some (iv (n : Int)), none, none] [] (σ)) ((Y 0).toNat) (fun k0 => ?_) (fun n hn ih => ?_) ?_
  · exact gWX.to rfl rfl (k0)
  · refine x_iload_4 K dX5_isConsistent_9 ?_
    refine x_aload_0 K dX5_isConsistent_11 ?_
    refine x_getI K gfRX5_18 ⟨by decide, hs⟩ dX5_isConsistent_12 ?_
    refine x_icmp_ge (tgt := 107) K (by omega) dX5_isConsistent_15 (by decide) (fun h15 => absurd h15 (by omega)) (fun h15 => ?_)
    refine x_aload_0 K dX5_isConsistent_18 ?_
    refine x_iload_4 K dX5_isConsistent_19 ?_
    refine x_callV1 K (c5_findG sh hs (Y 0) f1 (by omega) n (by omega)) mtX5_find miX5_find rc1 ⟨by decide, hs⟩ lkRX5_34 ⟨by decide, by decide, by decide⟩ rfl (Nat.le_of_ble_eq_true rfl) dX5_isConsistent_21 ?_
    refine x_astore_5 K dX5_isConsistent_24 rfl ?_
    refine x_aload_5 K dX5_isConsistent_26 ?_
    have hi : 5 * sh + n < 56 := by omega
    have hz := hY.2 n (by omega)
    have hgs := hsc n (by omega)
    have ⟨e0, e1, e2, e3, e4, e5, es, eb, em, et⟩ := hgs
    have z2 := hz.2.2.1
    have bsm := s_sm_bd hz
    have ball := gB1_bd (s_fw (zb Y n) 0 = -1)
    refine x_ifnull K dX5_isConsistent_28 ?_
    refine x_iload_1 K dX5_isConsistent_31 ?_
    refine x_aload_5 K dX5_isConsistent_32 ?_
    refine x_getI K gfRX5_152 ⟨by decide, hi⟩ dX5_isConsistent_34 ?_
    refine gWX.top (b := zb Y n 4) e4 ?_
    refine x_iadd K dX5_isConsistent_37 ?_
    refine x_istore_1 K dX5_isConsistent_38 rfl ?_
    refine x_iload_2 K dX5_isConsistent_39 ?_
    refine x_aload_5 K dX5_isConsistent_40 ?_
    refine x_getI K gfRX5_153 ⟨by decide, hi⟩ dX5_isConsistent_42 ?_
    refine gWX.top (b := zb Y n 5) e5 ?_
    refine x_iadd K dX5_isConsistent_45 ?_
    refine x_istore_2 K dX5_isConsistent_46 rfl ?_
    refine x_aload_5 K dX5_isConsistent_47 ?_
    refine x_getI K gfRX5_143 ⟨by decide, hi⟩ dX5_isConsistent_49 ?_
    refine x_if_eq (tgt := 75) K (by omega) dX5_isConsistent_52 (by decide) (fun h52 => ?_) (fun h52 => ?_)
    · refine x_iconst K dX5_isConsistent_75 ?_
      refine x_istore_6 K dX5_isConsistent_76 rfl ?_
      refine x_iload_3 K dX5_isConsistent_78 ?_
      refine x_if_eq (tgt := 99) K (by omega) dX5_isConsistent_79 (by decide) (fun h79 => absurd h79 (by omega)) (fun h79 => ?_)
      refine x_iload_6 K dX5_isConsistent_82 ?_
      refine x_if_eq (tgt := 95) K (by omega) dX5_isConsistent_84 (by decide) (fun h84 => ?_) (fun h84 => absurd rfl h84)
      refine x_iconst K dX5_isConsistent_95 ?_
      refine x_goto (tgt := 100) K dX5_isConsistent_96 (by decide) ?_
      refine x_istore_3 K dX5_isConsistent_100 rfl ?_
      refine x_iinc_4 K dX5_isConsistent_101 rfl ?_
      refine x_goto (tgt := 9) K dX5_isConsistent_104 (by decide) ?_
      exact gWX.fgt 5 (gWX.fgt 6 (gWX.to rfl rfl ih))
    · refine x_aload_5 K dX5_isConsistent_55 ?_
      refine x_callV0 K (c4_smudgedCells (5 * sh + n) hi (zb Y n) hgs hz) mtX4_smudgedCells miX4_smudgedCells rc3 ⟨by decide, hi⟩ lkRX5_107 ⟨by decide, by decide, by decide⟩ rfl (Nat.le_of_ble_eq_true rfl) dX5_isConsistent_57 ?_
      refine x_if_ne (tgt := 75) K (by omega) dX5_isConsistent_60 (by decide) (fun h60 => ?_) (fun h60 => ?_)
      · refine x_iconst K dX5_isConsistent_75 ?_
        refine x_istore_6 K dX5_isConsistent_76 rfl ?_
        refine x_iload_3 K dX5_isConsistent_78 ?_
        refine x_if_eq (tgt := 99) K (by omega) dX5_isConsistent_79 (by decide) (fun h79 => absurd h79 (by omega)) (fun h79 => ?_)
        refine x_iload_6 K dX5_isConsistent_82 ?_
        refine x_if_eq (tgt := 95) K (by omega) dX5_isConsistent_84 (by decide) (fun h84 => ?_) (fun h84 => absurd rfl h84)
        refine x_iconst K dX5_isConsistent_95 ?_
        refine x_goto (tgt := 100) K dX5_isConsistent_96 (by decide) ?_
        refine x_istore_3 K dX5_isConsistent_100 rfl ?_
        refine x_iinc_4 K dX5_isConsistent_101 rfl ?_
        refine x_goto (tgt := 9) K dX5_isConsistent_104 (by decide) ?_
        exact gWX.fgt 5 (gWX.fgt 6 (gWX.to rfl rfl ih))
      · refine x_aload_5 K dX5_isConsistent_63 ?_
        refine x_callV0 K (c4_isAllRight (5 * sh + n) hi (zb Y n) hgs hz) mtX4_isAllRight miX4_isAllRight rc3 ⟨by decide, hi⟩ lkRX5_154 ⟨by decide, by decide, by decide⟩ rfl (Nat.le_of_ble_eq_true rfl) dX5_isConsistent_65 ?_
        refine x_if_eq (tgt := 75) K (by omega) dX5_isConsistent_68 (by decide) (fun h68 => ?_) (fun h68 => ?_)
        · refine x_iconst K dX5_isConsistent_75 ?_
          refine x_istore_6 K dX5_isConsistent_76 rfl ?_
          refine x_iload_3 K dX5_isConsistent_78 ?_
          refine x_if_eq (tgt := 99) K (by omega) dX5_isConsistent_79 (by decide) (fun h79 => absurd h79 (by omega)) (fun h79 => ?_)
          refine x_iload_6 K dX5_isConsistent_82 ?_
          refine x_if_eq (tgt := 95) K (by omega) dX5_isConsistent_84 (by decide) (fun h84 => ?_) (fun h84 => absurd rfl h84)
          refine x_iconst K dX5_isConsistent_95 ?_
          refine x_goto (tgt := 100) K dX5_isConsistent_96 (by decide) ?_
          refine x_istore_3 K dX5_isConsistent_100 rfl ?_
          refine x_iinc_4 K dX5_isConsistent_101 rfl ?_
          refine x_goto (tgt := 9) K dX5_isConsistent_104 (by decide) ?_
          exact gWX.fgt 5 (gWX.fgt 6 (gWX.to rfl rfl ih))
        · have hfl : ∀ b, b < 14 → zb Y n (6 + b) = s_b (zb Y n) b % 10 := fun b hb => Classical.byContradiction (fun q => by
            have q2 := s_fw_none.mp (Classical.byContradiction (fun q3 => h68 (gB1_f q3))) b hb
            rw [(s_w_iff (zb Y n) b).mpr ⟨by omega, s_m_all (fun r hr c hc => s_sm_no hz (by omega) hr hc) hb, q⟩] at q2
            cases q2)
          have hpos : ∀ r, r < 6 → ∀ c, c < 8 → 0 ≤ zb Y n (20 + (8 * r + c)) := fun r hr c hc => by
            have q1 := gZ_s hz hr hc
            have q2 := s_sm_no hz (by omega) hr hc
            omega
          refine x_iconst K dX5_isConsistent_71 ?_
          refine x_goto (tgt := 76) K dX5_isConsistent_72 (by decide) ?_
          refine x_istore_6 K dX5_isConsistent_76 rfl ?_
          refine x_iload_3 K dX5_isConsistent_78 ?_
          refine x_if_eq (tgt := 99) K (by omega) dX5_isConsistent_79 (by decide) (fun h79 => absurd h79 (by omega)) (fun h79 => ?_)
          refine x_iload_6 K dX5_isConsistent_82 ?_
          refine x_if_eq (tgt := 95) K (by omega) dX5_isConsistent_84 (by decide) (fun h84 => absurd h84 (by omega)) (fun h84 => ?_)
          refine x_aload_5 K dX5_isConsistent_87 ?_
          refine x_callV0 K (c4_hasToldSums (5 * sh + n) hi (zb Y n) hgs hz hfl hpos) mtX4_hasToldSums miX4_hasToldSums rc3 ⟨by decide, hi⟩ lkRX5_158 ⟨by decide, by decide, by decide⟩ rfl (Nat.le_of_ble_eq_true rfl) dX5_isConsistent_89 ?_
          refine x_if_eq (tgt := 99) K (by omega) dX5_isConsistent_92 (by decide) (fun h92 => absurd h92 (by omega)) (fun h92 => ?_)
          refine x_iconst K dX5_isConsistent_95 ?_
          refine x_goto (tgt := 100) K dX5_isConsistent_96 (by decide) ?_
          refine x_istore_3 K dX5_isConsistent_100 rfl ?_
          refine x_iinc_4 K dX5_isConsistent_101 rfl ?_
          refine x_goto (tgt := 9) K dX5_isConsistent_104 (by decide) ?_
          exact gWX.fgt 5 (gWX.fgt 6 (gWX.to rfl rfl ih))
  · refine x_iload_4 K dX5_isConsistent_9 ?_
    refine x_aload_0 K dX5_isConsistent_11 ?_
    refine x_getI K gfRX5_18 ⟨by decide, hs⟩ dX5_isConsistent_12 ?_
    refine x_icmp_ge (tgt := 107) K (by omega) dX5_isConsistent_15 (by decide) (fun h15 => ?_) (fun h15 => absurd h15 (by omega))
    refine x_iload_3 K dX5_isConsistent_107 ?_
    refine x_if_eq (tgt := 131) K (by omega) dX5_isConsistent_108 (by decide) (fun h108 => absurd h108 (by omega)) (fun h108 => ?_)
    refine x_iload_1 K dX5_isConsistent_111 ?_
    refine x_aload_0 K dX5_isConsistent_112 ?_
    refine x_getI K gfRX5_28 ⟨by decide, hs⟩ dX5_isConsistent_113 ?_
    refine gWX.top (b := Y 3) f4 ?_
    refine x_icmpu_ne (tgt := 131) K dX5_isConsistent_116 (by decide) (fun h116 => ?_) (fun h116 => ?_)
    · refine x_iconst K dX5_isConsistent_131 ?_
      exact x_zret K hE rfl dX5_isConsistent_132 (by decide) (by decide) (by omega) (by
  first
    | exact (gB1_t ⟨h116, h124⟩).symm
    | exact (gB1_f (fun q => h116 q.1)).symm
    | exact (gB1_f (fun q => h124 q.2)).symm) rfl
    · refine x_iload_2 K dX5_isConsistent_119 ?_
      refine x_aload_0 K dX5_isConsistent_120 ?_
      refine x_getI K gfRX5_31 ⟨by decide, hs⟩ dX5_isConsistent_121 ?_
      refine gWX.top (b := Y 4) f5 ?_
      refine x_icmpu_ne (tgt := 131) K dX5_isConsistent_124 (by decide) (fun h124 => ?_) (fun h124 => ?_)
      · refine x_iconst K dX5_isConsistent_131 ?_
        exact x_zret K hE rfl dX5_isConsistent_132 (by decide) (by decide) (by omega) (by
  first
    | exact (gB1_t ⟨h116, h124⟩).symm
    | exact (gB1_f (fun q => h116 q.1)).symm
    | exact (gB1_f (fun q => h124 q.2)).symm) rfl
      · refine x_iconst K dX5_isConsistent_127 ?_
        refine x_goto (tgt := 132) K dX5_isConsistent_128 (by decide) ?_
        exact x_zret K hE rfl dX5_isConsistent_132 (by decide) (by decide) (by omega) (by
  first
    | exact (gB1_t ⟨h116, h124⟩).symm
    | exact (gB1_f (fun q => h116 q.1)).symm
    | exact (gB1_f (fun q => h124 q.2)).symm) rfl
