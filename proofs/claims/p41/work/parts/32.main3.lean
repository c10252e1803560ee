/-! ===== ScrollChecks: changes ===== -/
section GC1x
variable {X : gM} {E : gE} {M : gMt} {D n cells slots pc : Nat} {L : List (Option gV)} {st : List gV} {σ : gS}
theorem x_aloadz_1 (K : gK X E M D n) {a0 : Option gV} {t : List (Option gV)} (d : decode M.2.1 pc = .ok (.aload_n 1, 1)) (k : gWX X E cells slots (pc + 1) (a0 :: some (.inl .null) :: t) (.inl .null :: st) σ) : gWX X E cells slots pc (a0 :: some (.inl .null) :: t) st σ :=
  fun H locs ls hP hS hl => lv_aload_nN K.1 K.2.1 d rfl (gLd (i := 1) hl rfl) (k H locs ls hP hS hl)
theorem x_astorez_1 (K : gK X E M D n) {a0 x : Option gV} {t : List (Option gV)} (d : decode M.2.1 pc = .ok (.astore_n 1, 1)) (h1 : gC1 a0 = true) (k : gWX X E cells slots (pc + 1) (a0 :: some (.inl .null) :: t) st σ) : gWX X E cells slots pc (a0 :: x :: t) (.inl .null :: st) σ :=
  fun H locs ls hP hS hl => lv_astore_nN K.1 K.2.1 d rfl hl (by simp only [List.length_cons]; show 1 < _; omega) rfl (fun ls' hl' => k H locs ls' hP hS (gSt1 (E := E) (L := a0 :: x :: t) (i := 1) (v := .inl .null) hl' h1))
end GC1x
theorem s_om_hi {z : Nat → Int} (hz : gZ z) {n : Int} (hn : 0 ≤ n) : s_om z n = 0 ∨ 100 ≤ s_om z n := by
  have b1 := s_sm_bd hz
  have b2 := s_wr_bd z
  have b3 := s_wc_bd z
  unfold s_om
  split
  · omega
  split
  · omega
  split
  · omega
  split
  · omega
  have f1 := s_fw_row (z := z) (by omega)
  have f2 := s_fw_col (z := z) (by omega)
  have g1 := s_f_bd hz (b := s_r1 z) (by omega)
  have g2 := s_f_bd hz (b := 6 + s_c1 z) (by omega)
  split <;> omega
theorem gOb_bd {d : Nat} {Y : Nat → Int} {s r c k : Int} (hY : gY Y) (hd : d < 8) : 0 ≤ gOb d Y s r c k ∧ gOb d Y s r c k < 1000 ∧ (gOb d Y s r c k ≤ 2 ∨ 100 ≤ gOb d Y s r c k) := by
  have hY0 := hY.1
  unfold gOb
  by_cases d0 : d = 0
  · rw [if_pos d0]
    unfold o_ad
    split
    · split <;> omega
    · omega
  rw [if_neg d0]
  by_cases hh : gHit Y s
  · rw [if_neg (fun q => q hh)]
    have hz := hY.2 s.toNat (by omega)
    have hsm := s_sm_bd hz
    have h0 := hz.1
    have h1 := hz.2.1
    by_cases hc : d ≤ 3 ∧ ¬ ((0 ≤ r ∧ r < zb Y s.toNat 0) ∧ 0 ≤ c ∧ c < zb Y s.toNat 1)
    · rw [if_pos hc]; omega
    rw [if_neg hc]
    by_cases q1 : d = 1
    · rw [if_pos q1]; split <;> omega
    rw [if_neg q1]
    by_cases q2 : d = 2
    · have hcc := Classical.byContradiction (fun q => hc ⟨by omega, q⟩)
      rw [if_pos q2]; unfold o_t; split
      · split <;> omega
      · omega
    rw [if_neg q2]
    by_cases q3 : d = 3
    · have hcc := Classical.byContradiction (fun q => hc ⟨by omega, q⟩)
      rw [if_pos q3]; unfold o_t; split <;> omega
    rw [if_neg q3]
    by_cases q4 : d = 4
    · rw [if_pos q4]; unfold o_s; split <;> omega
    rw [if_neg q4]
    by_cases q5 : d = 5
    · rw [if_pos q5]; unfold o_ad; split <;> omega
    rw [if_neg q5]
    by_cases q6 : d = 6
    · rw [if_pos q6]
      have b1 := s_om_bd hz (n := s) (by omega)
      have b2 := s_om_hi hz (n := s) hh.1
      omega
    rw [if_neg q6]
    unfold o_fl; split <;> omega
  · rw [if_pos hh]; omega
/-- where the history's shelves stand -/
def gHp (σ : gS) : Prop := (∀ j, j < 8 → 3 ≤ σ.2.1 j ∧ σ.2.1 j < 11) ∧ (∀ i j, i < 8 → j < 8 → σ.2.1 i = σ.2.1 j → i = j) ∧ 0 ≤ σ.1 8 0 1 ∧ σ.1 8 0 1 ≤ 8
theorem gRem_off {σ : gS} (hp : gHp σ) (Y : Nat → Int) {a b c : Nat} (h1 : a = 1 → b < 3) (h2 : 3 ≤ a → a ≤ 7 → b / 5 < 3) (h8 : a ≠ 8) : (gRem σ Y).1 a b c = σ.1 a b c := by
  unfold gRem
  split
  · have := hp.1 0 (by omega)
    rw [gU_at, if_neg (by omega), gShPut, gShPm_off _ _ _ _ (by unfold gShC; omega), gU_at, if_neg (by omega)]
    rfl
  · have := hp.1 (σ.1 8 0 1).toNat (by have := hp.2.2; omega)
    rw [gU_at, if_neg (by omega), gShPut, gShPm_off _ _ _ _ (by unfold gShC; omega)]
theorem gRem_sh {σ : gS} (hp : gHp σ) (Y : Nat → Int) {sh : Nat} {Y2 : Nat → Int} (hsh : sh < 3) (h0 : Y2 0 ≤ 5) (h : gSh σ sh Y2) : gSh (gRem σ Y) sh Y2 :=
  gSh_ext h0 (fun c _ _ => gRem_off hp Y (by omega) (by omega) (by omega)) (fun a b c _ _ hb => gRem_off hp Y (by omega) (by omega) (by omega)) h
theorem c6_stopFor {E : gE} {σ : gS}  : gCt E mX6_stopFor 8 0 [rf 0 0, iv 0] σ (.inl none) σ := by
  refine gCt_of (L := [some (rf 0 0), some (iv 0)]) (by decide +kernel) rfl rfl (Nat.le_of_ble_eq_true rfl) (fun X K hE => ?_)
  refine x_iload_1 K dX6_stopFor_0 ?_
  refine x_iconst K dX6_stopFor_1 ?_
  refine x_icmp_ne (tgt := 16) K (by omega) dX6_stopFor_2 (by decide) (fun h2 => ?_) (fun h2 => absurd h2 (by omega))
  refine x_iload_1 K dX6_stopFor_16 ?_
  refine x_iconst K dX6_stopFor_17 ?_
  refine x_icmp_ne (tgt := 32) K (by omega) dX6_stopFor_18 (by decide) (fun h18 => ?_) (fun h18 => absurd h18 (by omega))
  refine x_iload_1 K dX6_stopFor_32 ?_
  refine x_bipush K dX6_stopFor_33 rfl ?_
  refine x_icmp_lt (tgt := 65) K (by omega) dX6_stopFor_35 (by decide) (fun h35 => ?_) (fun h35 => absurd h35 (by omega))
  exact x_vret K hE rfl dX6_stopFor_65 (by decide) (by decide) rfl
theorem c6_stopFor_1 {E : gE} {σ : gS}  : gCt E mX6_stopFor 8 1 [rf 0 0, iv 1] σ (.inr "java/lang/IndexOutOfBoundsException") σ := by
  refine gCt_of (L := [some (rf 0 0), some (iv 1)]) (by decide +kernel) rfl rfl (Nat.le_of_ble_eq_true rfl) (fun X K hE => ?_)
  refine x_iload_1 K dX6_stopFor_0 ?_
  refine x_iconst K dX6_stopFor_1 ?_
  refine x_icmp_ne (tgt := 16) K (by omega) dX6_stopFor_2 (by decide) (fun h2 => absurd rfl h2) (fun h2 => ?_)
  exact x_throww K gThr_IndexOutOfBoundsException gTxt_366 hE rfl ⟨by decide, (Nat.le_of_ble_eq_true rfl)⟩ (by decide) (by decide) dX6_stopFor_5 dX6_stopFor_8 dX6_stopFor_9 dX6_stopFor_12 dX6_stopFor_15
theorem c6_stopFor_2 {E : gE} {σ : gS}  : gCt E mX6_stopFor 8 1 [rf 0 0, iv 2] σ (.inr "java/lang/IllegalArgumentException") σ := by
  refine gCt_of (L := [some (rf 0 0), some (iv 2)]) (by decide +kernel) rfl rfl (Nat.le_of_ble_eq_true rfl) (fun X K hE => ?_)
  refine x_iload_1 K dX6_stopFor_0 ?_
  refine x_iconst K dX6_stopFor_1 ?_
  refine x_icmp_ne (tgt := 16) K (by omega) dX6_stopFor_2 (by decide) (fun h2 => ?_) (fun h2 => absurd h2 (by omega))
  refine x_iload_1 K dX6_stopFor_16 ?_
  refine x_iconst K dX6_stopFor_17 ?_
  refine x_icmp_ne (tgt := 32) K (by omega) dX6_stopFor_18 (by decide) (fun h18 => absurd rfl h18) (fun h18 => ?_)
  exact x_throww K gThr_IllegalArgumentException gTxt_368 hE rfl ⟨by decide, (Nat.le_of_ble_eq_true rfl)⟩ (by decide) (by decide) dX6_stopFor_21 dX6_stopFor_24 dX6_stopFor_25 dX6_stopFor_28 dX6_stopFor_31
def gRf (σ : gS) (b : Int) : gS := gU (gU σ 0 0 9 (b / 100)) 0 0 10 (b % 100)
theorem c6_stopFor_3 {E : gE} {σ : gS} (b : Int) (hb : 100 ≤ b ∧ b < 1000) : gCt E mX6_stopFor 8 1 [rf 0 0, iv b] σ (.inr "java/lang/UnsupportedOperationException") (gRf σ b) := by
  refine gCt_of (L := [some (rf 0 0), some (iv b)]) (by decide +kernel) rfl rfl (Nat.le_of_ble_eq_true rfl) (fun X K hE => ?_)
  refine x_iload_1 K dX6_stopFor_0 ?_
  refine x_iconst K dX6_stopFor_1 ?_
  refine x_icmp_ne (tgt := 16) K (by omega) dX6_stopFor_2 (by decide) (fun h2 => ?_) (fun h2 => absurd h2 (by omega))
  refine x_iload_1 K dX6_stopFor_16 ?_
  refine x_iconst K dX6_stopFor_17 ?_
  refine x_icmp_ne (tgt := 32) K (by omega) dX6_stopFor_18 (by decide) (fun h18 => ?_) (fun h18 => absurd h18 (by omega))
  refine x_iload_1 K dX6_stopFor_32 ?_
  refine x_bipush K dX6_stopFor_33 rfl ?_
  refine x_icmp_lt (tgt := 65) K (by omega) dX6_stopFor_35 (by decide) (fun h35 => absurd h35 (by omega)) (fun h35 => ?_)
  refine x_aload_0 K dX6_stopFor_38 ?_
  refine x_iload_1 K dX6_stopFor_39 ?_
  refine x_bipush K dX6_stopFor_40 rfl ?_
  refine x_idiv K (by omega) dX6_stopFor_42 ?_
  refine x_putI K gpRX6_274 ⟨by decide, (by decide)⟩ dX6_stopFor_43 ?_
  refine x_aload_0 K dX6_stopFor_46 ?_
  refine x_iload_1 K dX6_stopFor_47 ?_
  refine x_bipush K dX6_stopFor_48 rfl ?_
  refine x_irem K (by omega) dX6_stopFor_50 ?_
  refine x_putI K gpRX6_279 ⟨by decide, (by decide)⟩ dX6_stopFor_51 ?_
  exact x_throww K gThr_UnsupportedOperationException gTxt_372 hE rfl ⟨by decide, (Nat.le_of_ble_eq_true rfl)⟩ (by decide) (by decide) dX6_stopFor_54 dX6_stopFor_57 dX6_stopFor_58 dX6_stopFor_61 dX6_stopFor_64
theorem c6_change {E : gE} {σ : gS} (Y : Nat → Int) (h : gSh σ 0 Y) (hY : gY Y) (d : Nat) (hd : d < 8) (s r c k : Int) (hs : -2147483648 ≤ s ∧ s < 2147483648) (hr : -2147483648 ≤ r ∧ r < 2147483648) (hc : -2147483648 ≤ c ∧ c < 2147483648) (hk9 : -2147483648 ≤ k ∧ k < 2147483648) (hp : gHp σ) (hob : gOb d Y s r c k = 0) : gCt E mX6_change 9 0 [rf 0 0, gDv E d, iv s, iv r, iv c, iv k] σ (.inl (some (iv (gCoA d Y s r c k)))) (gShPut (gRem σ Y) 0 (gCoY d Y s r c k)) := by
  refine gCt_of (L := [some (rf 0 0), some (gDv E d), some (iv s), some (iv r), some (iv c), some (iv k)]) (by decide +kernel) rfl rfl (Nat.le_of_ble_eq_true rfl) (fun X K hE => ?_)
  refine x_aload_0 K dX6_change_0 ?_
  refine x_aload_0 K dX6_change_1 ?_
  refine x_getC K gfRX6_12 ⟨by decide, (by decide)⟩ dX6_change_2 ?_
  refine x_aloadc_1 K dX6_change_5 ?_
  refine x_iload_2 K dX6_change_6 ?_
  refine x_iload_3 K dX6_change_7 ?_
  refine x_iload_4 K dX6_change_8 ?_
  refine x_iload_5 K dX6_change_10 ?_
  refine x_callV5 K (c5_obstacleTo 0 (by omega) Y h hY d hd s r c k hs hr hc hk9) mtX5_obstacleTo miX5_obstacleTo rc1 ⟨by decide, by decide⟩ lkRX6_352 ⟨by decide, by decide, by decide⟩ rfl (Nat.le_of_ble_eq_true rfl) dX6_change_12 ?_
  refine gWX.top (b := 0) hob ?_
  refine x_callV1v K c6_stopFor mtX6_stopFor miX6_stopFor rc0 ⟨by decide, (by decide)⟩ lkRX6_268 ⟨by decide, by decide, by decide⟩ rfl (Nat.le_of_ble_eq_true rfl) dX6_change_15 ?_
  refine x_aload_0 K dX6_change_18 ?_
  refine x_getC K gfRX6_25 ⟨by decide, (by decide)⟩ dX6_change_19 ?_
  refine x_aload_0 K dX6_change_22 ?_
  refine x_getC K gfRX6_12 ⟨by decide, (by decide)⟩ dX6_change_23 ?_
  refine x_callV1v K (c2_remember (fun j hj => (hp.1 j hj).2) 0 (by omega) (fun j hj => (hp.1 j hj).1) Y h hY hp.2.2) mtX2_remember miX2_remember rc8 ⟨by decide, by decide⟩ lkRX6_271 ⟨by decide, by decide, by decide⟩ rfl (Nat.le_of_ble_eq_true rfl) dX6_change_26 ?_
  refine x_aload_0 K dX6_change_29 ?_
  refine x_getC K gfRX6_12 ⟨by decide, (by decide)⟩ dX6_change_30 ?_
  refine x_aloadc_1 K dX6_change_33 ?_
  refine x_iload_2 K dX6_change_34 ?_
  refine x_iload_3 K dX6_change_35 ?_
  refine x_iload_4 K dX6_change_36 ?_
  refine x_iload_5 K dX6_change_38 ?_
  refine x_callV5 K (c5_carryOut (σ := gRem σ Y) 0 (by omega) Y (gRem_sh hp Y (by omega) hY.1.2 h) hY d hd s r c k hob) mtX5_carryOut miX5_carryOut rc1 ⟨by decide, by decide⟩ lkRX6_355 ⟨by decide, by decide, by decide⟩ rfl (Nat.le_of_ble_eq_true rfl) dX6_change_40 ?_
  exact x_iret K hE rfl dX6_change_43 (by decide) (by decide) rfl rfl
theorem c6_change_1 {E : gE} {σ : gS} (Y : Nat → Int) (h : gSh σ 0 Y) (hY : gY Y) (d : Nat) (hd : d < 8) (s r c k : Int) (hs : -2147483648 ≤ s ∧ s < 2147483648) (hr : -2147483648 ≤ r ∧ r < 2147483648) (hc : -2147483648 ≤ c ∧ c < 2147483648) (hk9 : -2147483648 ≤ k ∧ k < 2147483648) (hob : gOb d Y s r c k = 1) : gCt E mX6_change 9 1 [rf 0 0, gDv E d, iv s, iv r, iv c, iv k] σ (.inr "java/lang/IndexOutOfBoundsException") σ := by
  refine gCt_of (L := [some (rf 0 0), some (gDv E d), some (iv s), some (iv r), some (iv c), some (iv k)]) (by decide +kernel) rfl rfl (Nat.le_of_ble_eq_true rfl) (fun X K hE => ?_)
  refine x_aload_0 K dX6_change_0 ?_
  refine x_aload_0 K dX6_change_1 ?_
  refine x_getC K gfRX6_12 ⟨by decide, (by decide)⟩ dX6_change_2 ?_
  refine x_aloadc_1 K dX6_change_5 ?_
  refine x_iload_2 K dX6_change_6 ?_
  refine x_iload_3 K dX6_change_7 ?_
  refine x_iload_4 K dX6_change_8 ?_
  refine x_iload_5 K dX6_change_10 ?_
  refine x_callV5 K (c5_obstacleTo 0 (by omega) Y h hY d hd s r c k hs hr hc hk9) mtX5_obstacleTo miX5_obstacleTo rc1 ⟨by decide, by decide⟩ lkRX6_352 ⟨by decide, by decide, by decide⟩ rfl (Nat.le_of_ble_eq_true rfl) dX6_change_12 ?_
  refine gWX.top (b := 1) hob ?_
  refine x_callV1x K c6_stopFor_1 mtX6_stopFor miX6_stopFor rc0 ⟨by decide, (by decide)⟩ lkRX6_268 ⟨by decide, by decide, by decide⟩ rfl (Nat.le_of_ble_eq_true rfl) dX6_change_15 hE
theorem c6_change_2 {E : gE} {σ : gS} (Y : Nat → Int) (h : gSh σ 0 Y) (hY : gY Y) (d : Nat) (hd : d < 8) (s r c k : Int) (hs : -2147483648 ≤ s ∧ s < 2147483648) (hr : -2147483648 ≤ r ∧ r < 2147483648) (hc : -2147483648 ≤ c ∧ c < 2147483648) (hk9 : -2147483648 ≤ k ∧ k < 2147483648) (hob : gOb d Y s r c k = 2) : gCt E mX6_change 9 1 [rf 0 0, gDv E d, iv s, iv r, iv c, iv k] σ (.inr "java/lang/IllegalArgumentException") σ := by
  refine gCt_of (L := [some (rf 0 0), some (gDv E d), some (iv s), some (iv r), some (iv c), some (iv k)]) (by decide +kernel) rfl rfl (Nat.le_of_ble_eq_true rfl) (fun X K hE => ?_)
  refine x_aload_0 K dX6_change_0 ?_
  refine x_aload_0 K dX6_change_1 ?_
  refine x_getC K gfRX6_12 ⟨by decide, (by decide)⟩ dX6_change_2 ?_
  refine x_aloadc_1 K dX6_change_5 ?_
  refine x_iload_2 K dX6_change_6 ?_
  refine x_iload_3 K dX6_change_7 ?_
  refine x_iload_4 K dX6_change_8 ?_
  refine x_iload_5 K dX6_change_10 ?_
  refine x_callV5 K (c5_obstacleTo 0 (by omega) Y h hY d hd s r c k hs hr hc hk9) mtX5_obstacleTo miX5_obstacleTo rc1 ⟨by decide, by decide⟩ lkRX6_352 ⟨by decide, by decide, by decide⟩ rfl (Nat.le_of_ble_eq_true rfl) dX6_change_12 ?_
  refine gWX.top (b := 2) hob ?_
  refine x_callV1x K c6_stopFor_2 mtX6_stopFor miX6_stopFor rc0 ⟨by decide, (by decide)⟩ lkRX6_268 ⟨by decide, by decide, by decide⟩ rfl (Nat.le_of_ble_eq_true rfl) dX6_change_15 hE
theorem c6_change_3 {E : gE} {σ : gS} (Y : Nat → Int) (h : gSh σ 0 Y) (hY : gY Y) (d : Nat) (hd : d < 8) (s r c k : Int) (hs : -2147483648 ≤ s ∧ s < 2147483648) (hr : -2147483648 ≤ r ∧ r < 2147483648) (hc : -2147483648 ≤ c ∧ c < 2147483648) (hk9 : -2147483648 ≤ k ∧ k < 2147483648) (hob : 100 ≤ gOb d Y s r c k) : gCt E mX6_change 9 1 [rf 0 0, gDv E d, iv s, iv r, iv c, iv k] σ (.inr "java/lang/UnsupportedOperationException") (gRf σ (gOb d Y s r c k)) := by
  refine gCt_of (L := [some (rf 0 0), some (gDv E d), some (iv s), some (iv r), some (iv c), some (iv k)]) (by decide +kernel) rfl rfl (Nat.le_of_ble_eq_true rfl) (fun X K hE => ?_)
  refine x_aload_0 K dX6_change_0 ?_
  refine x_aload_0 K dX6_change_1 ?_
  refine x_getC K gfRX6_12 ⟨by decide, (by decide)⟩ dX6_change_2 ?_
  refine x_aloadc_1 K dX6_change_5 ?_
  refine x_iload_2 K dX6_change_6 ?_
  refine x_iload_3 K dX6_change_7 ?_
  refine x_iload_4 K dX6_change_8 ?_
  refine x_iload_5 K dX6_change_10 ?_
  refine x_callV5 K (c5_obstacleTo 0 (by omega) Y h hY d hd s r c k hs hr hc hk9) mtX5_obstacleTo miX5_obstacleTo rc1 ⟨by decide, by decide⟩ lkRX6_352 ⟨by decide, by decide, by decide⟩ rfl (Nat.le_of_ble_eq_true rfl) dX6_change_12 ?_
  have hbd := gOb_bd (s := s) (r := r) (c := c) (k := k) hY hd
  refine x_callV1x K (c6_stopFor_3 (gOb d Y s r c k) (by omega)) mtX6_stopFor miX6_stopFor rc0 ⟨by decide, (by decide)⟩ lkRX6_268 ⟨by decide, by decide, by decide⟩ rfl (Nat.le_of_ble_eq_true rfl) dX6_change_15 hE
theorem c6_scroll {E : gE} {σ : gS} (Y : Nat → Int) (h : gSh σ 0 Y) (hY : gY Y) (r c : Int) (hr : -2147483648 ≤ r ∧ r < 2147483648) (hc : -2147483648 ≤ c ∧ c < 2147483648) (hp : gHp σ) (hob : gOb 0 Y (-1) (r) (c) (0) = 0) : gCt E mX6_scroll 12 0 [rf 0 0, iv r, iv c] σ (.inl (some (iv (gCoA 0 Y (-1) (r) (c) (0))))) (gShPut (gRem σ Y) 0 (gCoY 0 Y (-1) (r) (c) (0))) := by
  refine gCt_of (L := [some (rf 0 0), some (iv r), some (iv c)]) (by decide +kernel) rfl rfl (Nat.le_of_ble_eq_true rfl) (fun X K hE => ?_)
  refine x_aload_0 K dX6_scroll_0 ?_
  refine x_gets K (g_mem 352 (by decide +kernel)) (g_mem 11 (by decide +kernel)) (g_mem 351 (by decide +kernel)) (gD_rd K.2.2.2.2.1 (i := 0) (by omega)) dX6_scroll_1 ?_
  refine gWX.topv (u := gDv E 0) rfl ?_
  refine x_iconst K dX6_scroll_4 ?_
  refine x_iload_1 K dX6_scroll_5 ?_
  refine x_iload_2 K dX6_scroll_6 ?_
  refine x_iconst K dX6_scroll_7 ?_
  refine x_callV5 K (c6_change Y h hY 0 (by omega) (-1) (r) (c) (0) (by omega) hr hc (by omega) hp hob) mtX6_change miX6_change rc0 ⟨by decide, (by decide)⟩ lkRX6_60 ⟨by decide, by decide, by decide⟩ rfl (Nat.le_of_ble_eq_true rfl) dX6_scroll_8 ?_
  exact x_iret K hE rfl dX6_scroll_11 (by decide) (by decide) rfl rfl
theorem c6_scroll_2 {E : gE} {σ : gS} (Y : Nat → Int) (h : gSh σ 0 Y) (hY : gY Y) (r c : Int) (hr : -2147483648 ≤ r ∧ r < 2147483648) (hc : -2147483648 ≤ c ∧ c < 2147483648) (hob : gOb 0 Y (-1) (r) (c) (0) = 2) : gCt E mX6_scroll 12 1 [rf 0 0, iv r, iv c] σ (.inr "java/lang/IllegalArgumentException") σ := by
  refine gCt_of (L := [some (rf 0 0), some (iv r), some (iv c)]) (by decide +kernel) rfl rfl (Nat.le_of_ble_eq_true rfl) (fun X K hE => ?_)
  refine x_aload_0 K dX6_scroll_0 ?_
  refine x_gets K (g_mem 352 (by decide +kernel)) (g_mem 11 (by decide +kernel)) (g_mem 351 (by decide +kernel)) (gD_rd K.2.2.2.2.1 (i := 0) (by omega)) dX6_scroll_1 ?_
  refine gWX.topv (u := gDv E 0) rfl ?_
  refine x_iconst K dX6_scroll_4 ?_
  refine x_iload_1 K dX6_scroll_5 ?_
  refine x_iload_2 K dX6_scroll_6 ?_
  refine x_iconst K dX6_scroll_7 ?_
  refine x_callV5x K (c6_change_2 Y h hY 0 (by omega) (-1) (r) (c) (0) (by omega) hr hc (by omega) hob) mtX6_change miX6_change rc0 ⟨by decide, (by decide)⟩ lkRX6_60 ⟨by decide, by decide, by decide⟩ rfl (Nat.le_of_ble_eq_true rfl) dX6_scroll_8 hE
theorem c6_scroll_3 {E : gE} {σ : gS} (Y : Nat → Int) (h : gSh σ 0 Y) (hY : gY Y) (r c : Int) (hr : -2147483648 ≤ r ∧ r < 2147483648) (hc : -2147483648 ≤ c ∧ c < 2147483648) (hob : 100 ≤ gOb 0 Y (-1) (r) (c) (0)) : gCt E mX6_scroll 12 1 [rf 0 0, iv r, iv c] σ (.inr "java/lang/UnsupportedOperationException") (gRf σ (gOb 0 Y (-1) (r) (c) (0))) := by
  refine gCt_of (L := [some (rf 0 0), some (iv r), some (iv c)]) (by decide +kernel) rfl rfl (Nat.le_of_ble_eq_true rfl) (fun X K hE => ?_)
  refine x_aload_0 K dX6_scroll_0 ?_
  refine x_gets K (g_mem 352 (by decide +kernel)) (g_mem 11 (by decide +kernel)) (g_mem 351 (by decide +kernel)) (gD_rd K.2.2.2.2.1 (i := 0) (by omega)) dX6_scroll_1 ?_
  refine gWX.topv (u := gDv E 0) rfl ?_
  refine x_iconst K dX6_scroll_4 ?_
  refine x_iload_1 K dX6_scroll_5 ?_
  refine x_iload_2 K dX6_scroll_6 ?_
  refine x_iconst K dX6_scroll_7 ?_
  refine x_callV5x K (c6_change_3 Y h hY 0 (by omega) (-1) (r) (c) (0) (by omega) hr hc (by omega) hob) mtX6_change miX6_change rc0 ⟨by decide, (by decide)⟩ lkRX6_60 ⟨by decide, by decide, by decide⟩ rfl (Nat.le_of_ble_eq_true rfl) dX6_scroll_8 hE
theorem c6_write {E : gE} {σ : gS} (Y : Nat → Int) (h : gSh σ 0 Y) (hY : gY Y) (s r c k : Int) (hs : -2147483648 ≤ s ∧ s < 2147483648) (hr : -2147483648 ≤ r ∧ r < 2147483648) (hc : -2147483648 ≤ c ∧ c < 2147483648) (hk : -2147483648 ≤ k ∧ k < 2147483648) (hp : gHp σ) (hob : gOb 1 Y (s) (r) (c) (k) = 0) : gCt E mX6_write 12 0 [rf 0 0, iv s, iv r, iv c, iv k] σ (.inl (some (iv (gCoA 1 Y (s) (r) (c) (k))))) (gShPut (gRem σ Y) 0 (gCoY 1 Y (s) (r) (c) (k))) := by
  refine gCt_of (L := [some (rf 0 0), some (iv s), some (iv r), some (iv c), some (iv k)]) (by decide +kernel) rfl rfl (Nat.le_of_ble_eq_true rfl) (fun X K hE => ?_)
  refine x_aload_0 K dX6_write_0 ?_
  refine x_gets K (g_mem 596 (by decide +kernel)) (g_mem 11 (by decide +kernel)) (g_mem 595 (by decide +kernel)) (gD_rd K.2.2.2.2.1 (i := 1) (by omega)) dX6_write_1 ?_
  refine gWX.topv (u := gDv E 1) rfl ?_
  refine x_iload_1 K dX6_write_4 ?_
  refine x_iload_2 K dX6_write_5 ?_
  refine x_iload_3 K dX6_write_6 ?_
  refine x_iload_4 K dX6_write_7 ?_
  refine x_callV5 K (c6_change Y h hY 1 (by omega) (s) (r) (c) (k) hs hr hc hk hp hob) mtX6_change miX6_change rc0 ⟨by decide, (by decide)⟩ lkRX6_60 ⟨by decide, by decide, by decide⟩ rfl (Nat.le_of_ble_eq_true rfl) dX6_write_9 ?_
  exact x_iret K hE rfl dX6_write_12 (by decide) (by decide) rfl rfl
theorem c6_write_1 {E : gE} {σ : gS} (Y : Nat → Int) (h : gSh σ 0 Y) (hY : gY Y) (s r c k : Int) (hs : -2147483648 ≤ s ∧ s < 2147483648) (hr : -2147483648 ≤ r ∧ r < 2147483648) (hc : -2147483648 ≤ c ∧ c < 2147483648) (hk : -2147483648 ≤ k ∧ k < 2147483648) (hob : gOb 1 Y (s) (r) (c) (k) = 1) : gCt E mX6_write 12 1 [rf 0 0, iv s, iv r, iv c, iv k] σ (.inr "java/lang/IndexOutOfBoundsException") σ := by
  refine gCt_of (L := [some (rf 0 0), some (iv s), some (iv r), some (iv c), some (iv k)]) (by decide +kernel) rfl rfl (Nat.le_of_ble_eq_true rfl) (fun X K hE => ?_)
  refine x_aload_0 K dX6_write_0 ?_
  refine x_gets K (g_mem 596 (by decide +kernel)) (g_mem 11 (by decide +kernel)) (g_mem 595 (by decide +kernel)) (gD_rd K.2.2.2.2.1 (i := 1) (by omega)) dX6_write_1 ?_
  refine gWX.topv (u := gDv E 1) rfl ?_
  refine x_iload_1 K dX6_write_4 ?_
  refine x_iload_2 K dX6_write_5 ?_
  refine x_iload_3 K dX6_write_6 ?_
  refine x_iload_4 K dX6_write_7 ?_
  refine x_callV5x K (c6_change_1 Y h hY 1 (by omega) (s) (r) (c) (k) hs hr hc hk hob) mtX6_change miX6_change rc0 ⟨by decide, (by decide)⟩ lkRX6_60 ⟨by decide, by decide, by decide⟩ rfl (Nat.le_of_ble_eq_true rfl) dX6_write_9 hE
theorem c6_write_2 {E : gE} {σ : gS} (Y : Nat → Int) (h : gSh σ 0 Y) (hY : gY Y) (s r c k : Int) (hs : -2147483648 ≤ s ∧ s < 2147483648) (hr : -2147483648 ≤ r ∧ r < 2147483648) (hc : -2147483648 ≤ c ∧ c < 2147483648) (hk : -2147483648 ≤ k ∧ k < 2147483648) (hob : gOb 1 Y (s) (r) (c) (k) = 2) : gCt E mX6_write 12 1 [rf 0 0, iv s, iv r, iv c, iv k] σ (.inr "java/lang/IllegalArgumentException") σ := by
  refine gCt_of (L := [some (rf 0 0), some (iv s), some (iv r), some (iv c), some (iv k)]) (by decide +kernel) rfl rfl (Nat.le_of_ble_eq_true rfl) (fun X K hE => ?_)
  refine x_aload_0 K dX6_write_0 ?_
  refine x_gets K (g_mem 596 (by decide +kernel)) (g_mem 11 (by decide +kernel)) (g_mem 595 (by decide +kernel)) (gD_rd K.2.2.2.2.1 (i := 1) (by omega)) dX6_write_1 ?_
  refine gWX.topv (u := gDv E 1) rfl ?_
  refine x_iload_1 K dX6_write_4 ?_
  refine x_iload_2 K dX6_write_5 ?_
  refine x_iload_3 K dX6_write_6 ?_
  refine x_iload_4 K dX6_write_7 ?_
  refine x_callV5x K (c6_change_2 Y h hY 1 (by omega) (s) (r) (c) (k) hs hr hc hk hob) mtX6_change miX6_change rc0 ⟨by decide, (by decide)⟩ lkRX6_60 ⟨by decide, by decide, by decide⟩ rfl (Nat.le_of_ble_eq_true rfl) dX6_write_9 hE
theorem c6_write_3 {E : gE} {σ : gS} (Y : Nat → Int) (h : gSh σ 0 Y) (hY : gY Y) (s r c k : Int) (hs : -2147483648 ≤ s ∧ s < 2147483648) (hr : -2147483648 ≤ r ∧ r < 2147483648) (hc : -2147483648 ≤ c ∧ c < 2147483648) (hk : -2147483648 ≤ k ∧ k < 2147483648) (hob : 100 ≤ gOb 1 Y (s) (r) (c) (k)) : gCt E mX6_write 12 1 [rf 0 0, iv s, iv r, iv c, iv k] σ (.inr "java/lang/UnsupportedOperationException") (gRf σ (gOb 1 Y (s) (r) (c) (k))) := by
  refine gCt_of (L := [some (rf 0 0), some (iv s), some (iv r), some (iv c), some (iv k)]) (by decide +kernel) rfl rfl (Nat.le_of_ble_eq_true rfl) (fun X K hE => ?_)
  refine x_aload_0 K dX6_write_0 ?_
  refine x_gets K (g_mem 596 (by decide +kernel)) (g_mem 11 (by decide +kernel)) (g_mem 595 (by decide +kernel)) (gD_rd K.2.2.2.2.1 (i := 1) (by omega)) dX6_write_1 ?_
  refine gWX.topv (u := gDv E 1) rfl ?_
  refine x_iload_1 K dX6_write_4 ?_
  refine x_iload_2 K dX6_write_5 ?_
  refine x_iload_3 K dX6_write_6 ?_
  refine x_iload_4 K dX6_write_7 ?_
  refine x_callV5x K (c6_change_3 Y h hY 1 (by omega) (s) (r) (c) (k) hs hr hc hk hob) mtX6_change miX6_change rc0 ⟨by decide, (by decide)⟩ lkRX6_60 ⟨by decide, by decide, by decide⟩ rfl (Nat.le_of_ble_eq_true rfl) dX6_write_9 hE
theorem c6_slip {E : gE} {σ : gS} (Y : Nat → Int) (h : gSh σ 0 Y) (hY : gY Y) (s r c k : Int) (hs : -2147483648 ≤ s ∧ s < 2147483648) (hr : -2147483648 ≤ r ∧ r < 2147483648) (hc : -2147483648 ≤ c ∧ c < 2147483648) (hk : -2147483648 ≤ k ∧ k < 2147483648) (hp : gHp σ) (hob : gOb 2 Y (s) (r) (c) (k) = 0) : gCt E mX6_slip 12 0 [rf 0 0, iv s, iv r, iv c, iv k] σ (.inl (some (iv (gCoA 2 Y (s) (r) (c) (k))))) (gShPut (gRem σ Y) 0 (gCoY 2 Y (s) (r) (c) (k))) := by
  refine gCt_of (L := [some (rf 0 0), some (iv s), some (iv r), some (iv c), some (iv k)]) (by decide +kernel) rfl rfl (Nat.le_of_ble_eq_true rfl) (fun X K hE => ?_)
  refine x_aload_0 K dX6_slip_0 ?_
  refine x_gets K (g_mem 638 (by decide +kernel)) (g_mem 11 (by decide +kernel)) (g_mem 637 (by decide +kernel)) (gD_rd K.2.2.2.2.1 (i := 2) (by omega)) dX6_slip_1 ?_
  refine gWX.topv (u := gDv E 2) rfl ?_
  refine x_iload_1 K dX6_slip_4 ?_
  refine x_iload_2 K dX6_slip_5 ?_
  refine x_iload_3 K dX6_slip_6 ?_
  refine x_iload_4 K dX6_slip_7 ?_
  refine x_callV5 K (c6_change Y h hY 2 (by omega) (s) (r) (c) (k) hs hr hc hk hp hob) mtX6_change miX6_change rc0 ⟨by decide, (by decide)⟩ lkRX6_60 ⟨by decide, by decide, by decide⟩ rfl (Nat.le_of_ble_eq_true rfl) dX6_slip_9 ?_
  exact x_iret K hE rfl dX6_slip_12 (by decide) (by decide) rfl rfl
theorem c6_slip_1 {E : gE} {σ : gS} (Y : Nat → Int) (h : gSh σ 0 Y) (hY : gY Y) (s r c k : Int) (hs : -2147483648 ≤ s ∧ s < 2147483648) (hr : -2147483648 ≤ r ∧ r < 2147483648) (hc : -2147483648 ≤ c ∧ c < 2147483648) (hk : -2147483648 ≤ k ∧ k < 2147483648) (hob : gOb 2 Y (s) (r) (c) (k) = 1) : gCt E mX6_slip 12 1 [rf 0 0, iv s, iv r, iv c, iv k] σ (.inr "java/lang/IndexOutOfBoundsException") σ := by
  refine gCt_of (L := [some (rf 0 0), some (iv s), some (iv r), some (iv c), some (iv k)]) (by decide +kernel) rfl rfl (Nat.le_of_ble_eq_true rfl) (fun X K hE => ?_)
  refine x_aload_0 K dX6_slip_0 ?_
  refine x_gets K (g_mem 638 (by decide +kernel)) (g_mem 11 (by decide +kernel)) (g_mem 637 (by decide +kernel)) (gD_rd K.2.2.2.2.1 (i := 2) (by omega)) dX6_slip_1 ?_
  refine gWX.topv (u := gDv E 2) rfl ?_
  refine x_iload_1 K dX6_slip_4 ?_
  refine x_iload_2 K dX6_slip_5 ?_
  refine x_iload_3 K dX6_slip_6 ?_
  refine x_iload_4 K dX6_slip_7 ?_
  refine x_callV5x K (c6_change_1 Y h hY 2 (by omega) (s) (r) (c) (k) hs hr hc hk hob) mtX6_change miX6_change rc0 ⟨by decide, (by decide)⟩ lkRX6_60 ⟨by decide, by decide, by decide⟩ rfl (Nat.le_of_ble_eq_true rfl) dX6_slip_9 hE
theorem c6_slip_2 {E : gE} {σ : gS} (Y : Nat → Int) (h : gSh σ 0 Y) (hY : gY Y) (s r c k : Int) (hs : -2147483648 ≤ s ∧ s < 2147483648) (hr : -2147483648 ≤ r ∧ r < 2147483648) (hc : -2147483648 ≤ c ∧ c < 2147483648) (hk : -2147483648 ≤ k ∧ k < 2147483648) (hob : gOb 2 Y (s) (r) (c) (k) = 2) : gCt E mX6_slip 12 1 [rf 0 0, iv s, iv r, iv c, iv k] σ (.inr "java/lang/IllegalArgumentException") σ := by
  refine gCt_of (L := [some (rf 0 0), some (iv s), some (iv r), some (iv c), some (iv k)]) (by decide +kernel) rfl rfl (Nat.le_of_ble_eq_true rfl) (fun X K hE => ?_)
  refine x_aload_0 K dX6_slip_0 ?_
  refine x_gets K (g_mem 638 (by decide +kernel)) (g_mem 11 (by decide +kernel)) (g_mem 637 (by decide +kernel)) (gD_rd K.2.2.2.2.1 (i := 2) (by omega)) dX6_slip_1 ?_
  refine gWX.topv (u := gDv E 2) rfl ?_
  refine x_iload_1 K dX6_slip_4 ?_
  refine x_iload_2 K dX6_slip_5 ?_
  refine x_iload_3 K dX6_slip_6 ?_
  refine x_iload_4 K dX6_slip_7 ?_
  refine x_callV5x K (c6_change_2 Y h hY 2 (by omega) (s) (r) (c) (k) hs hr hc hk hob) mtX6_change miX6_change rc0 ⟨by decide, (by decide)⟩ lkRX6_60 ⟨by decide, by decide, by decide⟩ rfl (Nat.le_of_ble_eq_true rfl) dX6_slip_9 hE
theorem c6_slip_3 {E : gE} {σ : gS} (Y : Nat → Int) (h : gSh σ 0 Y) (hY : gY Y) (s r c k : Int) (hs : -2147483648 ≤ s ∧ s < 2147483648) (hr : -2147483648 ≤ r ∧ r < 2147483648) (hc : -2147483648 ≤ c ∧ c < 2147483648) (hk : -2147483648 ≤ k ∧ k < 2147483648) (hob : 100 ≤ gOb 2 Y (s) (r) (c) (k)) : gCt E mX6_slip 12 1 [rf 0 0, iv s, iv r, iv c, iv k] σ (.inr "java/lang/UnsupportedOperationException") (gRf σ (gOb 2 Y (s) (r) (c) (k))) := by
  refine gCt_of (L := [some (rf 0 0), some (iv s), some (iv r), some (iv c), some (iv k)]) (by decide +kernel) rfl rfl (Nat.le_of_ble_eq_true rfl) (fun X K hE => ?_)
  refine x_aload_0 K dX6_slip_0 ?_
  refine x_gets K (g_mem 638 (by decide +kernel)) (g_mem 11 (by decide +kernel)) (g_mem 637 (by decide +kernel)) (gD_rd K.2.2.2.2.1 (i := 2) (by omega)) dX6_slip_1 ?_
  refine gWX.topv (u := gDv E 2) rfl ?_
  refine x_iload_1 K dX6_slip_4 ?_
  refine x_iload_2 K dX6_slip_5 ?_
  refine x_iload_3 K dX6_slip_6 ?_
  refine x_iload_4 K dX6_slip_7 ?_
  refine x_callV5x K (c6_change_3 Y h hY 2 (by omega) (s) (r) (c) (k) hs hr hc hk hob) mtX6_change miX6_change rc0 ⟨by decide, (by decide)⟩ lkRX6_60 ⟨by decide, by decide, by decide⟩ rfl (Nat.le_of_ble_eq_true rfl) dX6_slip_9 hE
theorem c6_smudge {E : gE} {σ : gS} (Y : Nat → Int) (h : gSh σ 0 Y) (hY : gY Y) (s r c : Int) (hs : -2147483648 ≤ s ∧ s < 2147483648) (hr : -2147483648 ≤ r ∧ r < 2147483648) (hc : -2147483648 ≤ c ∧ c < 2147483648) (hp : gHp σ) (hob : gOb 3 Y (s) (r) (c) (0) = 0) : gCt E mX6_smudge 12 0 [rf 0 0, iv s, iv r, iv c] σ (.inl (some (iv (gCoA 3 Y (s) (r) (c) (0))))) (gShPut (gRem σ Y) 0 (gCoY 3 Y (s) (r) (c) (0))) := by
  refine gCt_of (L := [some (rf 0 0), some (iv s), some (iv r), some (iv c)]) (by decide +kernel) rfl rfl (Nat.le_of_ble_eq_true rfl) (fun X K hE => ?_)
  refine x_aload_0 K dX6_smudge_0 ?_
  refine x_gets K (g_mem 647 (by decide +kernel)) (g_mem 11 (by decide +kernel)) (g_mem 646 (by decide +kernel)) (gD_rd K.2.2.2.2.1 (i := 3) (by omega)) dX6_smudge_1 ?_
  refine gWX.topv (u := gDv E 3) rfl ?_
  refine x_iload_1 K dX6_smudge_4 ?_
  refine x_iload_2 K dX6_smudge_5 ?_
  refine x_iload_3 K dX6_smudge_6 ?_
  refine x_iconst K dX6_smudge_7 ?_
  refine x_callV5 K (c6_change Y h hY 3 (by omega) (s) (r) (c) (0) hs hr hc (by omega) hp hob) mtX6_change miX6_change rc0 ⟨by decide, (by decide)⟩ lkRX6_60 ⟨by decide, by decide, by decide⟩ rfl (Nat.le_of_ble_eq_true rfl) dX6_smudge_8 ?_
  exact x_iret K hE rfl dX6_smudge_11 (by decide) (by decide) rfl rfl
theorem c6_smudge_1 {E : gE} {σ : gS} (Y : Nat → Int) (h : gSh σ 0 Y) (hY : gY Y) (s r c : Int) (hs : -2147483648 ≤ s ∧ s < 2147483648) (hr : -2147483648 ≤ r ∧ r < 2147483648) (hc : -2147483648 ≤ c ∧ c < 2147483648) (hob : gOb 3 Y (s) (r) (c) (0) = 1) : gCt E mX6_smudge 12 1 [rf 0 0, iv s, iv r, iv c] σ (.inr "java/lang/IndexOutOfBoundsException") σ := by
  refine gCt_of (L := [some (rf 0 0), some (iv s), some (iv r), some (iv c)]) (by decide +kernel) rfl rfl (Nat.le_of_ble_eq_true rfl) (fun X K hE => ?_)
  refine x_aload_0 K dX6_smudge_0 ?_
  refine x_gets K (g_mem 647 (by decide +kernel)) (g_mem 11 (by decide +kernel)) (g_mem 646 (by decide +kernel)) (gD_rd K.2.2.2.2.1 (i := 3) (by omega)) dX6_smudge_1 ?_
  refine gWX.topv (u := gDv E 3) rfl ?_
  refine x_iload_1 K dX6_smudge_4 ?_
  refine x_iload_2 K dX6_smudge_5 ?_
  refine x_iload_3 K dX6_smudge_6 ?_
  refine x_iconst K dX6_smudge_7 ?_
  refine x_callV5x K (c6_change_1 Y h hY 3 (by omega) (s) (r) (c) (0) hs hr hc (by omega) hob) mtX6_change miX6_change rc0 ⟨by decide, (by decide)⟩ lkRX6_60 ⟨by decide, by decide, by decide⟩ rfl (Nat.le_of_ble_eq_true rfl) dX6_smudge_8 hE
theorem c6_smudge_2 {E : gE} {σ : gS} (Y : Nat → Int) (h : gSh σ 0 Y) (hY : gY Y) (s r c : Int) (hs : -2147483648 ≤ s ∧ s < 2147483648) (hr : -2147483648 ≤ r ∧ r < 2147483648) (hc : -2147483648 ≤ c ∧ c < 2147483648) (hob : gOb 3 Y (s) (r) (c) (0) = 2) : gCt E mX6_smudge 12 1 [rf 0 0, iv s, iv r, iv c] σ (.inr "java/lang/IllegalArgumentException") σ := by
  refine gCt_of (L := [some (rf 0 0), some (iv s), some (iv r), some (iv c)]) (by decide +kernel) rfl rfl (Nat.le_of_ble_eq_true rfl) (fun X K hE => ?_)
  refine x_aload_0 K dX6_smudge_0 ?_
  refine x_gets K (g_mem 647 (by decide +kernel)) (g_mem 11 (by decide +kernel)) (g_mem 646 (by decide +kernel)) (gD_rd K.2.2.2.2.1 (i := 3) (by omega)) dX6_smudge_1 ?_
  refine gWX.topv (u := gDv E 3) rfl ?_
  refine x_iload_1 K dX6_smudge_4 ?_
  refine x_iload_2 K dX6_smudge_5 ?_
  refine x_iload_3 K dX6_smudge_6 ?_
  refine x_iconst K dX6_smudge_7 ?_
  refine x_callV5x K (c6_change_2 Y h hY 3 (by omega) (s) (r) (c) (0) hs hr hc (by omega) hob) mtX6_change miX6_change rc0 ⟨by decide, (by decide)⟩ lkRX6_60 ⟨by decide, by decide, by decide⟩ rfl (Nat.le_of_ble_eq_true rfl) dX6_smudge_8 hE
theorem c6_smudge_3 {E : gE} {σ : gS} (Y : Nat → Int) (h : gSh σ 0 Y) (hY : gY Y) (s r c : Int) (hs : -2147483648 ≤ s ∧ s < 2147483648) (hr : -2147483648 ≤ r ∧ r < 2147483648) (hc : -2147483648 ≤ c ∧ c < 2147483648) (hob : 100 ≤ gOb 3 Y (s) (r) (c) (0)) : gCt E mX6_smudge 12 1 [rf 0 0, iv s, iv r, iv c] σ (.inr "java/lang/UnsupportedOperationException") (gRf σ (gOb 3 Y (s) (r) (c) (0))) := by
  refine gCt_of (L := [some (rf 0 0), some (iv s), some (iv r), some (iv c)]) (by decide +kernel) rfl rfl (Nat.le_of_ble_eq_true rfl) (fun X K hE => ?_)
  refine x_aload_0 K dX6_smudge_0 ?_
  refine x_gets K (g_mem 647 (by decide +kernel)) (g_mem 11 (by decide +kernel)) (g_mem 646 (by decide +kernel)) (gD_rd K.2.2.2.2.1 (i := 3) (by omega)) dX6_smudge_1 ?_
  refine gWX.topv (u := gDv E 3) rfl ?_
  refine x_iload_1 K dX6_smudge_4 ?_
  refine x_iload_2 K dX6_smudge_5 ?_
  refine x_iload_3 K dX6_smudge_6 ?_
  refine x_iconst K dX6_smudge_7 ?_
  refine x_callV5x K (c6_change_3 Y h hY 3 (by omega) (s) (r) (c) (0) hs hr hc (by omega) hob) mtX6_change miX6_change rc0 ⟨by decide, (by decide)⟩ lkRX6_60 ⟨by decide, by decide, by decide⟩ rfl (Nat.le_of_ble_eq_true rfl) dX6_smudge_8 hE
theorem c6_seal {E : gE} {σ : gS} (Y : Nat → Int) (h : gSh σ 0 Y) (hY : gY Y) (s : Int) (hs : -2147483648 ≤ s ∧ s < 2147483648) (hp : gHp σ) (hob : gOb 4 Y (s) (0) (0) (0) = 0) : gCt E mX6_seal 12 0 [rf 0 0, iv s] σ (.inl (some (iv (gCoA 4 Y (s) (0) (0) (0))))) (gShPut (gRem σ Y) 0 (gCoY 4 Y (s) (0) (0) (0))) := by
  refine gCt_of (L := [some (rf 0 0), some (iv s)]) (by decide +kernel) rfl rfl (Nat.le_of_ble_eq_true rfl) (fun X K hE => ?_)
  refine x_aload_0 K dX6_seal_0 ?_
  refine x_gets K (g_mem 605 (by decide +kernel)) (g_mem 11 (by decide +kernel)) (g_mem 604 (by decide +kernel)) (gD_rd K.2.2.2.2.1 (i := 4) (by omega)) dX6_seal_1 ?_
  refine gWX.topv (u := gDv E 4) rfl ?_
  refine x_iload_1 K dX6_seal_4 ?_
  refine x_iconst K dX6_seal_5 ?_
  refine x_iconst K dX6_seal_6 ?_
  refine x_iconst K dX6_seal_7 ?_
  refine x_callV5 K (c6_change Y h hY 4 (by omega) (s) (0) (0) (0) hs (by omega) (by omega) (by omega) hp hob) mtX6_change miX6_change rc0 ⟨by decide, (by decide)⟩ lkRX6_60 ⟨by decide, by decide, by decide⟩ rfl (Nat.le_of_ble_eq_true rfl) dX6_seal_8 ?_
  exact x_iret K hE rfl dX6_seal_11 (by decide) (by decide) rfl rfl
theorem c6_seal_1 {E : gE} {σ : gS} (Y : Nat → Int) (h : gSh σ 0 Y) (hY : gY Y) (s : Int) (hs : -2147483648 ≤ s ∧ s < 2147483648) (hob : gOb 4 Y (s) (0) (0) (0) = 1) : gCt E mX6_seal 12 1 [rf 0 0, iv s] σ (.inr "java/lang/IndexOutOfBoundsException") σ := by
  refine gCt_of (L := [some (rf 0 0), some (iv s)]) (by decide +kernel) rfl rfl (Nat.le_of_ble_eq_true rfl) (fun X K hE => ?_)
  refine x_aload_0 K dX6_seal_0 ?_
  refine x_gets K (g_mem 605 (by decide +kernel)) (g_mem 11 (by decide +kernel)) (g_mem 604 (by decide +kernel)) (gD_rd K.2.2.2.2.1 (i := 4) (by omega)) dX6_seal_1 ?_
  refine gWX.topv (u := gDv E 4) rfl ?_
  refine x_iload_1 K dX6_seal_4 ?_
  refine x_iconst K dX6_seal_5 ?_
  refine x_iconst K dX6_seal_6 ?_
  refine x_iconst K dX6_seal_7 ?_
  refine x_callV5x K (c6_change_1 Y h hY 4 (by omega) (s) (0) (0) (0) hs (by omega) (by omega) (by omega) hob) mtX6_change miX6_change rc0 ⟨by decide, (by decide)⟩ lkRX6_60 ⟨by decide, by decide, by decide⟩ rfl (Nat.le_of_ble_eq_true rfl) dX6_seal_8 hE
theorem c6_seal_2 {E : gE} {σ : gS} (Y : Nat → Int) (h : gSh σ 0 Y) (hY : gY Y) (s : Int) (hs : -2147483648 ≤ s ∧ s < 2147483648) (hob : gOb 4 Y (s) (0) (0) (0) = 2) : gCt E mX6_seal 12 1 [rf 0 0, iv s] σ (.inr "java/lang/IllegalArgumentException") σ := by
  refine gCt_of (L := [some (rf 0 0), some (iv s)]) (by decide +kernel) rfl rfl (Nat.le_of_ble_eq_true rfl) (fun X K hE => ?_)
  refine x_aload_0 K dX6_seal_0 ?_
  refine x_gets K (g_mem 605 (by decide +kernel)) (g_mem 11 (by decide +kernel)) (g_mem 604 (by decide +kernel)) (gD_rd K.2.2.2.2.1 (i := 4) (by omega)) dX6_seal_1 ?_
  refine gWX.topv (u := gDv E 4) rfl ?_
  refine x_iload_1 K dX6_seal_4 ?_
  refine x_iconst K dX6_seal_5 ?_
  refine x_iconst K dX6_seal_6 ?_
  refine x_iconst K dX6_seal_7 ?_
  refine x_callV5x K (c6_change_2 Y h hY 4 (by omega) (s) (0) (0) (0) hs (by omega) (by omega) (by omega) hob) mtX6_change miX6_change rc0 ⟨by decide, (by decide)⟩ lkRX6_60 ⟨by decide, by decide, by decide⟩ rfl (Nat.le_of_ble_eq_true rfl) dX6_seal_8 hE
theorem c6_seal_3 {E : gE} {σ : gS} (Y : Nat → Int) (h : gSh σ 0 Y) (hY : gY Y) (s : Int) (hs : -2147483648 ≤ s ∧ s < 2147483648) (hob : 100 ≤ gOb 4 Y (s) (0) (0) (0)) : gCt E mX6_seal 12 1 [rf 0 0, iv s] σ (.inr "java/lang/UnsupportedOperationException") (gRf σ (gOb 4 Y (s) (0) (0) (0))) := by
  refine gCt_of (L := [some (rf 0 0), some (iv s)]) (by decide +kernel) rfl rfl (Nat.le_of_ble_eq_true rfl) (fun X K hE => ?_)
  refine x_aload_0 K dX6_seal_0 ?_
  refine x_gets K (g_mem 605 (by decide +kernel)) (g_mem 11 (by decide +kernel)) (g_mem 604 (by decide +kernel)) (gD_rd K.2.2.2.2.1 (i := 4) (by omega)) dX6_seal_1 ?_
  refine gWX.topv (u := gDv E 4) rfl ?_
  refine x_iload_1 K dX6_seal_4 ?_
  refine x_iconst K dX6_seal_5 ?_
  refine x_iconst K dX6_seal_6 ?_
  refine x_iconst K dX6_seal_7 ?_
  refine x_callV5x K (c6_change_3 Y h hY 4 (by omega) (s) (0) (0) (0) hs (by omega) (by omega) (by omega) hob) mtX6_change miX6_change rc0 ⟨by decide, (by decide)⟩ lkRX6_60 ⟨by decide, by decide, by decide⟩ rfl (Nat.le_of_ble_eq_true rfl) dX6_seal_8 hE
theorem c6_copy {E : gE} {σ : gS} (Y : Nat → Int) (h : gSh σ 0 Y) (hY : gY Y) (s : Int) (hs : -2147483648 ≤ s ∧ s < 2147483648) (hp : gHp σ) (hob : gOb 5 Y (s) (0) (0) (0) = 0) : gCt E mX6_copy 12 0 [rf 0 0, iv s] σ (.inl (some (iv (gCoA 5 Y (s) (0) (0) (0))))) (gShPut (gRem σ Y) 0 (gCoY 5 Y (s) (0) (0) (0))) := by
  refine gCt_of (L := [some (rf 0 0), some (iv s)]) (by decide +kernel) rfl rfl (Nat.le_of_ble_eq_true rfl) (fun X K hE => ?_)
  refine x_aload_0 K dX6_copy_0 ?_
  refine x_gets K (g_mem 629 (by decide +kernel)) (g_mem 11 (by decide +kernel)) (g_mem 628 (by decide +kernel)) (gD_rd K.2.2.2.2.1 (i := 5) (by omega)) dX6_copy_1 ?_
  refine gWX.topv (u := gDv E 5) rfl ?_
  refine x_iload_1 K dX6_copy_4 ?_
  refine x_iconst K dX6_copy_5 ?_
  refine x_iconst K dX6_copy_6 ?_
  refine x_iconst K dX6_copy_7 ?_
  refine x_callV5 K (c6_change Y h hY 5 (by omega) (s) (0) (0) (0) hs (by omega) (by omega) (by omega) hp hob) mtX6_change miX6_change rc0 ⟨by decide, (by decide)⟩ lkRX6_60 ⟨by decide, by decide, by decide⟩ rfl (Nat.le_of_ble_eq_true rfl) dX6_copy_8 ?_
  exact x_iret K hE rfl dX6_copy_11 (by decide) (by decide) rfl rfl
theorem c6_copy_1 {E : gE} {σ : gS} (Y : Nat → Int) (h : gSh σ 0 Y) (hY : gY Y) (s : Int) (hs : -2147483648 ≤ s ∧ s < 2147483648) (hob : gOb 5 Y (s) (0) (0) (0) = 1) : gCt E mX6_copy 12 1 [rf 0 0, iv s] σ (.inr "java/lang/IndexOutOfBoundsException") σ := by
  refine gCt_of (L := [some (rf 0 0), some (iv s)]) (by decide +kernel) rfl rfl (Nat.le_of_ble_eq_true rfl) (fun X K hE => ?_)
  refine x_aload_0 K dX6_copy_0 ?_
  refine x_gets K (g_mem 629 (by decide +kernel)) (g_mem 11 (by decide +kernel)) (g_mem 628 (by decide +kernel)) (gD_rd K.2.2.2.2.1 (i := 5) (by omega)) dX6_copy_1 ?_
  refine gWX.topv (u := gDv E 5) rfl ?_
  refine x_iload_1 K dX6_copy_4 ?_
  refine x_iconst K dX6_copy_5 ?_
  refine x_iconst K dX6_copy_6 ?_
  refine x_iconst K dX6_copy_7 ?_
  refine x_callV5x K (c6_change_1 Y h hY 5 (by omega) (s) (0) (0) (0) hs (by omega) (by omega) (by omega) hob) mtX6_change miX6_change rc0 ⟨by decide, (by decide)⟩ lkRX6_60 ⟨by decide, by decide, by decide⟩ rfl (Nat.le_of_ble_eq_true rfl) dX6_copy_8 hE
theorem c6_copy_2 {E : gE} {σ : gS} (Y : Nat → Int) (h : gSh σ 0 Y) (hY : gY Y) (s : Int) (hs : -2147483648 ≤ s ∧ s < 2147483648) (hob : gOb 5 Y (s) (0) (0) (0) = 2) : gCt E mX6_copy 12 1 [rf 0 0, iv s] σ (.inr "java/lang/IllegalArgumentException") σ := by
  refine gCt_of (L := [some (rf 0 0), some (iv s)]) (by decide +kernel) rfl rfl (Nat.le_of_ble_eq_true rfl) (fun X K hE => ?_)
  refine x_aload_0 K dX6_copy_0 ?_
  refine x_gets K (g_mem 629 (by decide +kernel)) (g_mem 11 (by decide +kernel)) (g_mem 628 (by decide +kernel)) (gD_rd K.2.2.2.2.1 (i := 5) (by omega)) dX6_copy_1 ?_
  refine gWX.topv (u := gDv E 5) rfl ?_
  refine x_iload_1 K dX6_copy_4 ?_
  refine x_iconst K dX6_copy_5 ?_
  refine x_iconst K dX6_copy_6 ?_
  refine x_iconst K dX6_copy_7 ?_
  refine x_callV5x K (c6_change_2 Y h hY 5 (by omega) (s) (0) (0) (0) hs (by omega) (by omega) (by omega) hob) mtX6_change miX6_change rc0 ⟨by decide, (by decide)⟩ lkRX6_60 ⟨by decide, by decide, by decide⟩ rfl (Nat.le_of_ble_eq_true rfl) dX6_copy_8 hE
theorem c6_copy_3 {E : gE} {σ : gS} (Y : Nat → Int) (h : gSh σ 0 Y) (hY : gY Y) (s : Int) (hs : -2147483648 ≤ s ∧ s < 2147483648) (hob : 100 ≤ gOb 5 Y (s) (0) (0) (0)) : gCt E mX6_copy 12 1 [rf 0 0, iv s] σ (.inr "java/lang/UnsupportedOperationException") (gRf σ (gOb 5 Y (s) (0) (0) (0))) := by
  refine gCt_of (L := [some (rf 0 0), some (iv s)]) (by decide +kernel) rfl rfl (Nat.le_of_ble_eq_true rfl) (fun X K hE => ?_)
  refine x_aload_0 K dX6_copy_0 ?_
  refine x_gets K (g_mem 629 (by decide +kernel)) (g_mem 11 (by decide +kernel)) (g_mem 628 (by decide +kernel)) (gD_rd K.2.2.2.2.1 (i := 5) (by omega)) dX6_copy_1 ?_
  refine gWX.topv (u := gDv E 5) rfl ?_
  refine x_iload_1 K dX6_copy_4 ?_
  refine x_iconst K dX6_copy_5 ?_
  refine x_iconst K dX6_copy_6 ?_
  refine x_iconst K dX6_copy_7 ?_
  refine x_callV5x K (c6_change_3 Y h hY 5 (by omega) (s) (0) (0) (0) hs (by omega) (by omega) (by omega) hob) mtX6_change miX6_change rc0 ⟨by decide, (by decide)⟩ lkRX6_60 ⟨by decide, by decide, by decide⟩ rfl (Nat.le_of_ble_eq_true rfl) dX6_copy_8 hE
theorem c6_mend {E : gE} {σ : gS} (Y : Nat → Int) (h : gSh σ 0 Y) (hY : gY Y) (s : Int) (hs : -2147483648 ≤ s ∧ s < 2147483648) (hp : gHp σ) (hob : gOb 6 Y (s) (0) (0) (0) = 0) : gCt E mX6_mend 12 0 [rf 0 0, iv s] σ (.inl (some (iv (gCoA 6 Y (s) (0) (0) (0))))) (gShPut (gRem σ Y) 0 (gCoY 6 Y (s) (0) (0) (0))) := by
  refine gCt_of (L := [some (rf 0 0), some (iv s)]) (by decide +kernel) rfl rfl (Nat.le_of_ble_eq_true rfl) (fun X K hE => ?_)
  refine x_aload_0 K dX6_mend_0 ?_
  refine x_gets K (g_mem 656 (by decide +kernel)) (g_mem 11 (by decide +kernel)) (g_mem 655 (by decide +kernel)) (gD_rd K.2.2.2.2.1 (i := 6) (by omega)) dX6_mend_1 ?_
  refine gWX.topv (u := gDv E 6) rfl ?_
  refine x_iload_1 K dX6_mend_4 ?_
  refine x_iconst K dX6_mend_5 ?_
  refine x_iconst K dX6_mend_6 ?_
  refine x_iconst K dX6_mend_7 ?_
  refine x_callV5 K (c6_change Y h hY 6 (by omega) (s) (0) (0) (0) hs (by omega) (by omega) (by omega) hp hob) mtX6_change miX6_change rc0 ⟨by decide, (by decide)⟩ lkRX6_60 ⟨by decide, by decide, by decide⟩ rfl (Nat.le_of_ble_eq_true rfl) dX6_mend_8 ?_
  exact x_iret K hE rfl dX6_mend_11 (by decide) (by decide) rfl rfl
theorem c6_mend_1 {E : gE} {σ : gS} (Y : Nat → Int) (h : gSh σ 0 Y) (hY : gY Y) (s : Int) (hs : -2147483648 ≤ s ∧ s < 2147483648) (hob : gOb 6 Y (s) (0) (0) (0) = 1) : gCt E mX6_mend 12 1 [rf 0 0, iv s] σ (.inr "java/lang/IndexOutOfBoundsException") σ := by
  refine gCt_of (L := [some (rf 0 0), some (iv s)]) (by decide +kernel) rfl rfl (Nat.le_of_ble_eq_true rfl) (fun X K hE => ?_)
  refine x_aload_0 K dX6_mend_0 ?_
  refine x_gets K (g_mem 656 (by decide +kernel)) (g_mem 11 (by decide +kernel)) (g_mem 655 (by decide +kernel)) (gD_rd K.2.2.2.2.1 (i := 6) (by omega)) dX6_mend_1 ?_
  refine gWX.topv (u := gDv E 6) rfl ?_
  refine x_iload_1 K dX6_mend_4 ?_
  refine x_iconst K dX6_mend_5 ?_
  refine x_iconst K dX6_mend_6 ?_
  refine x_iconst K dX6_mend_7 ?_
  refine x_callV5x K (c6_change_1 Y h hY 6 (by omega) (s) (0) (0) (0) hs (by omega) (by omega) (by omega) hob) mtX6_change miX6_change rc0 ⟨by decide, (by decide)⟩ lkRX6_60 ⟨by decide, by decide, by decide⟩ rfl (Nat.le_of_ble_eq_true rfl) dX6_mend_8 hE
theorem c6_mend_2 {E : gE} {σ : gS} (Y : Nat → Int) (h : gSh σ 0 Y) (hY : gY Y) (s : Int) (hs : -2147483648 ≤ s ∧ s < 2147483648) (hob : gOb 6 Y (s) (0) (0) (0) = 2) : gCt E mX6_mend 12 1 [rf 0 0, iv s] σ (.inr "java/lang/IllegalArgumentException") σ := by
  refine gCt_of (L := [some (rf 0 0), some (iv s)]) (by decide +kernel) rfl rfl (Nat.le_of_ble_eq_true rfl) (fun X K hE => ?_)
  refine x_aload_0 K dX6_mend_0 ?_
  refine x_gets K (g_mem 656 (by decide +kernel)) (g_mem 11 (by decide +kernel)) (g_mem 655 (by decide +kernel)) (gD_rd K.2.2.2.2.1 (i := 6) (by omega)) dX6_mend_1 ?_
  refine gWX.topv (u := gDv E 6) rfl ?_
  refine x_iload_1 K dX6_mend_4 ?_
  refine x_iconst K dX6_mend_5 ?_
  refine x_iconst K dX6_mend_6 ?_
  refine x_iconst K dX6_mend_7 ?_
  refine x_callV5x K (c6_change_2 Y h hY 6 (by omega) (s) (0) (0) (0) hs (by omega) (by omega) (by omega) hob) mtX6_change miX6_change rc0 ⟨by decide, (by decide)⟩ lkRX6_60 ⟨by decide, by decide, by decide⟩ rfl (Nat.le_of_ble_eq_true rfl) dX6_mend_8 hE
theorem c6_mend_3 {E : gE} {σ : gS} (Y : Nat → Int) (h : gSh σ 0 Y) (hY : gY Y) (s : Int) (hs : -2147483648 ≤ s ∧ s < 2147483648) (hob : 100 ≤ gOb 6 Y (s) (0) (0) (0)) : gCt E mX6_mend 12 1 [rf 0 0, iv s] σ (.inr "java/lang/UnsupportedOperationException") (gRf σ (gOb 6 Y (s) (0) (0) (0))) := by
  refine gCt_of (L := [some (rf 0 0), some (iv s)]) (by decide +kernel) rfl rfl (Nat.le_of_ble_eq_true rfl) (fun X K hE => ?_)
  refine x_aload_0 K dX6_mend_0 ?_
  refine x_gets K (g_mem 656 (by decide +kernel)) (g_mem 11 (by decide +kernel)) (g_mem 655 (by decide +kernel)) (gD_rd K.2.2.2.2.1 (i := 6) (by omega)) dX6_mend_1 ?_
  refine gWX.topv (u := gDv E 6) rfl ?_
  refine x_iload_1 K dX6_mend_4 ?_
  refine x_iconst K dX6_mend_5 ?_
  refine x_iconst K dX6_mend_6 ?_
  refine x_iconst K dX6_mend_7 ?_
  refine x_callV5x K (c6_change_3 Y h hY 6 (by omega) (s) (0) (0) (0) hs (by omega) (by omega) (by omega) hob) mtX6_change miX6_change rc0 ⟨by decide, (by decide)⟩ lkRX6_60 ⟨by decide, by decide, by decide⟩ rfl (Nat.le_of_ble_eq_true rfl) dX6_mend_8 hE
theorem c6_fill {E : gE} {σ : gS} (Y : Nat → Int) (h : gSh σ 0 Y) (hY : gY Y) (s : Int) (hs : -2147483648 ≤ s ∧ s < 2147483648) (hp : gHp σ) (hob : gOb 7 Y (s) (0) (0) (0) = 0) : gCt E mX6_fill 12 0 [rf 0 0, iv s] σ (.inl (some (iv (gCoA 7 Y (s) (0) (0) (0))))) (gShPut (gRem σ Y) 0 (gCoY 7 Y (s) (0) (0) (0))) := by
  refine gCt_of (L := [some (rf 0 0), some (iv s)]) (by decide +kernel) rfl rfl (Nat.le_of_ble_eq_true rfl) (fun X K hE => ?_)
  refine x_aload_0 K dX6_fill_0 ?_
  refine x_gets K (g_mem 665 (by decide +kernel)) (g_mem 11 (by decide +kernel)) (g_mem 664 (by decide +kernel)) (gD_rd K.2.2.2.2.1 (i := 7) (by omega)) dX6_fill_1 ?_
  refine gWX.topv (u := gDv E 7) rfl ?_
  refine x_iload_1 K dX6_fill_4 ?_
  refine x_iconst K dX6_fill_5 ?_
  refine x_iconst K dX6_fill_6 ?_
  refine x_iconst K dX6_fill_7 ?_
  refine x_callV5 K (c6_change Y h hY 7 (by omega) (s) (0) (0) (0) hs (by omega) (by omega) (by omega) hp hob) mtX6_change miX6_change rc0 ⟨by decide, (by decide)⟩ lkRX6_60 ⟨by decide, by decide, by decide⟩ rfl (Nat.le_of_ble_eq_true rfl) dX6_fill_8 ?_
  exact x_iret K hE rfl dX6_fill_11 (by decide) (by decide) rfl rfl
theorem c6_fill_1 {E : gE} {σ : gS} (Y : Nat → Int) (h : gSh σ 0 Y) (hY : gY Y) (s : Int) (hs : -2147483648 ≤ s ∧ s < 2147483648) (hob : gOb 7 Y (s) (0) (0) (0) = 1) : gCt E mX6_fill 12 1 [rf 0 0, iv s] σ (.inr "java/lang/IndexOutOfBoundsException") σ := by
  refine gCt_of (L := [some (rf 0 0), some (iv s)]) (by decide +kernel) rfl rfl (Nat.le_of_ble_eq_true rfl) (fun X K hE => ?_)
  refine x_aload_0 K dX6_fill_0 ?_
  refine x_gets K (g_mem 665 (by decide +kernel)) (g_mem 11 (by decide +kernel)) (g_mem 664 (by decide +kernel)) (gD_rd K.2.2.2.2.1 (i := 7) (by omega)) dX6_fill_1 ?_
  refine gWX.topv (u := gDv E 7) rfl ?_
  refine x_iload_1 K dX6_fill_4 ?_
  refine x_iconst K dX6_fill_5 ?_
  refine x_iconst K dX6_fill_6 ?_
  refine x_iconst K dX6_fill_7 ?_
  refine x_callV5x K (c6_change_1 Y h hY 7 (by omega) (s) (0) (0) (0) hs (by omega) (by omega) (by omega) hob) mtX6_change miX6_change rc0 ⟨by decide, (by decide)⟩ lkRX6_60 ⟨by decide, by decide, by decide⟩ rfl (Nat.le_of_ble_eq_true rfl) dX6_fill_8 hE
theorem c6_fill_2 {E : gE} {σ : gS} (Y : Nat → Int) (h : gSh σ 0 Y) (hY : gY Y) (s : Int) (hs : -2147483648 ≤ s ∧ s < 2147483648) (hob : gOb 7 Y (s) (0) (0) (0) = 2) : gCt E mX6_fill 12 1 [rf 0 0, iv s] σ (.inr "java/lang/IllegalArgumentException") σ := by
  refine gCt_of (L := [some (rf 0 0), some (iv s)]) (by decide +kernel) rfl rfl (Nat.le_of_ble_eq_true rfl) (fun X K hE => ?_)
  refine x_aload_0 K dX6_fill_0 ?_
  refine x_gets K (g_mem 665 (by decide +kernel)) (g_mem 11 (by decide +kernel)) (g_mem 664 (by decide +kernel)) (gD_rd K.2.2.2.2.1 (i := 7) (by omega)) dX6_fill_1 ?_
  refine gWX.topv (u := gDv E 7) rfl ?_
  refine x_iload_1 K dX6_fill_4 ?_
  refine x_iconst K dX6_fill_5 ?_
  refine x_iconst K dX6_fill_6 ?_
  refine x_iconst K dX6_fill_7 ?_
  refine x_callV5x K (c6_change_2 Y h hY 7 (by omega) (s) (0) (0) (0) hs (by omega) (by omega) (by omega) hob) mtX6_change miX6_change rc0 ⟨by decide, (by decide)⟩ lkRX6_60 ⟨by decide, by decide, by decide⟩ rfl (Nat.le_of_ble_eq_true rfl) dX6_fill_8 hE
theorem c6_fill_3 {E : gE} {σ : gS} (Y : Nat → Int) (h : gSh σ 0 Y) (hY : gY Y) (s : Int) (hs : -2147483648 ≤ s ∧ s < 2147483648) (hob : 100 ≤ gOb 7 Y (s) (0) (0) (0)) : gCt E mX6_fill 12 1 [rf 0 0, iv s] σ (.inr "java/lang/UnsupportedOperationException") (gRf σ (gOb 7 Y (s) (0) (0) (0))) := by
  refine gCt_of (L := [some (rf 0 0), some (iv s)]) (by decide +kernel) rfl rfl (Nat.le_of_ble_eq_true rfl) (fun X K hE => ?_)
  refine x_aload_0 K dX6_fill_0 ?_
  refine x_gets K (g_mem 665 (by decide +kernel)) (g_mem 11 (by decide +kernel)) (g_mem 664 (by decide +kernel)) (gD_rd K.2.2.2.2.1 (i := 7) (by omega)) dX6_fill_1 ?_
  refine gWX.topv (u := gDv E 7) rfl ?_
  refine x_iload_1 K dX6_fill_4 ?_
  refine x_iconst K dX6_fill_5 ?_
  refine x_iconst K dX6_fill_6 ?_
  refine x_iconst K dX6_fill_7 ?_
  refine x_callV5x K (c6_change_3 Y h hY 7 (by omega) (s) (0) (0) (0) hs (by omega) (by omega) (by omega) hob) mtX6_change miX6_change rc0 ⟨by decide, (by decide)⟩ lkRX6_60 ⟨by decide, by decide, by decide⟩ rfl (Nat.le_of_ble_eq_true rfl) dX6_fill_8 hE
theorem c6_undo_1 {E : gE} {σ : gS} (hk : σ.1 8 0 1 = 0) : gCt E mX6_undo 12 1 [rf 0 0] σ (.inr "java/lang/IllegalStateException") σ := by
  refine gCt_of (L := [some (rf 0 0), none]) (by decide +kernel) rfl rfl (Nat.le_of_ble_eq_true rfl) (fun X K hE => ?_)
  refine x_aload_0 K dX6_undo_0 ?_
  refine x_getC K gfRX6_25 ⟨by decide, (by decide)⟩ dX6_undo_1 ?_
  refine x_callV0 K (c2_takeLatestN hk) mtX2_takeLatest miX2_takeLatest rc8 ⟨by decide, by decide⟩ lkRX6_312 ⟨by decide, by decide, by decide⟩ rfl (Nat.le_of_ble_eq_true rfl) dX6_undo_4 ?_
  refine x_astorez_1 K dX6_undo_7 rfl ?_
  refine x_aloadz_1 K dX6_undo_8 ?_
  refine x_ifnonnullN K dX6_undo_9 ?_
  exact x_throww K gThr_IllegalStateException gTxt_316 hE rfl ⟨by decide, (Nat.le_of_ble_eq_true rfl)⟩ (by decide) (by decide) dX6_undo_12 dX6_undo_15 dX6_undo_16 dX6_undo_19 dX6_undo_22
theorem gSh_u8 {σ : gS} {sh : Nat} {Y : Nat → Int} (h : gSh σ sh Y) (h0 : Y 0 ≤ 5) (v : Int) : gSh (gU σ 8 0 1 v) sh Y := gSh_k h0 (fun a b c ha => by rw [gU_at, if_neg (by omega)]) h
theorem c6_undo {E : gE} {σ : gS} (Y : Nat → Int) (hY : gY Y) (hp : gHp σ) (k : Nat) (hk : σ.1 8 0 1 = (k : Int) + 1) (hk8 : k < 8) (h : gSh σ (σ.2.1 k) Y) : gCt E mX6_undo 12 0 [rf 0 0] σ (.inl (some (iv ((k : Int))))) (gShPut (gU σ 8 0 1 (k : Int)) 0 Y) := by
  refine gCt_of (L := [some (rf 0 0), none]) (by decide +kernel) rfl rfl (Nat.le_of_ble_eq_true rfl) (fun X K hE => ?_)
  have hpk := hp.1 k hk8
  refine x_aload_0 K dX6_undo_0 ?_
  refine x_getC K gfRX6_25 ⟨by decide, (by decide)⟩ dX6_undo_1 ?_
  refine x_callV0 K (c2_takeLatest k hk hk8) mtX2_takeLatest miX2_takeLatest rc8 ⟨by decide, by decide⟩ lkRX6_312 ⟨by decide, by decide, by decide⟩ rfl (Nat.le_of_ble_eq_true rfl) dX6_undo_4 ?_
  refine x_astore_1 K dX6_undo_7 rfl ?_
  refine x_aload_1 K dX6_undo_8 ?_
  refine x_ifnonnull (tgt := 23) K dX6_undo_9 (by decide) ?_
  refine x_aload_0 K dX6_undo_23 ?_
  refine x_getC K gfRX6_12 ⟨by decide, (by decide)⟩ dX6_undo_24 ?_
  refine x_aload_1 K dX6_undo_27 ?_
  refine x_callV1v K (c5_become (σ := gU σ 8 0 1 (k : Int)) 0 (by omega) (σ.2.1 k) hpk.2 (by omega) Y (gSh_u8 h hY.1.2 _) hY) mtX5_become miX5_become rc1 ⟨by decide, by decide⟩ lkRX6_259 ⟨by decide, by decide, by decide⟩ rfl (Nat.le_of_ble_eq_true rfl) dX6_undo_28 ?_
  refine x_aload_0 K dX6_undo_31 ?_
  refine x_getC K gfRX6_25 ⟨by decide, (by decide)⟩ dX6_undo_32 ?_
  refine x_getI K gfRX6_290 ⟨by decide, by decide⟩ dX6_undo_35 ?_
  exact x_iret K hE rfl dX6_undo_38 (by decide) (by decide) ((gShPut_off8 _ _ _ _ _).trans (gU_same _ _ _ _ _)) rfl
def gSv (σ : gS) (Y : Nat → Int) : gS := gU (gShPut σ 2 Y) 0 0 7 1
-- not reached: X6_save
-- not reached: X6_restore
def gRs (σ : gS) (Y : Nat → Int) : gS := gU (gShPut σ 0 Y) 8 0 1 0
-- not reached: X6_restore
