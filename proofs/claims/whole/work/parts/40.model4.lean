/-! ===== ScrollChecksModel: the calls that change it ===== -/
theorem gMs_u {σ : gS} {Y : Nat → Int} (h : gMs σ Y) (j : Nat) (v : Int) : gMs (gU σ 14 0 j v) Y := fun i hi => by
  rw [gU_at, if_neg (by omega)]
  exact h i hi
theorem gKp_ms {σ : gS} {Y : Nat → Int} (h : gMs σ Y) : gMs (gKp σ) Y := fun i hi => by
  rw [gCp_at, if_neg (by omega)]
  exact gMs_u h 7 0 i hi
theorem gKp_b {σ : gS} {Y : Nat → Int} (h : gMs σ Y) : ∀ j, j < 345 → (gKp σ).1 16 0 j = Y j := fun j hj => by
  rw [gCp_at, if_pos (by omega), show 0 + (j - 0) = j by omega, gU_at, if_neg (by omega)]
  exact h j hj
theorem gMO_off {d : Nat} {σ : gS} {Y : Nat → Int} {s r c k : Int} (h : gOb d Y s r c k ≠ 0) {a b x : Nat} (ha : a ≠ 14) : (gMO d σ Y s r c k).1 a b x = σ.1 a b x := by
  unfold gMO
  rw [if_neg h]
  split
  · rw [gU_at, if_neg (by omega)]
  · rw [gU_at, if_neg (by omega), gU_at, if_neg (by omega), gU_at, if_neg (by omega), gU_at, if_neg (by omega)]
theorem gMO_2 {d : Nat} {σ : gS} {Y : Nat → Int} {s r c k : Int} : (gMO d σ Y s r c k).2 = σ.2 := by
  unfold gMO
  split
  · rfl
  · split <;> rfl
theorem gMO_t {d : Nat} {σ : gS} {Y : Nat → Int} {s r c k : Int} (h : gOb d Y s r c k ≠ 0) (hY : gY Y) (hd : d < 8) : (gMO d σ Y s r c k).1 14 0 7 = if gOb d Y s r c k ≤ 2 then gOb d Y s r c k else if d = 2 then 3 else 2 := by
  unfold gMO
  rw [if_neg h]
  split <;> rfl
theorem gMO_tb {d : Nat} {σ : gS} {Y : Nat → Int} {s r c k : Int} (h : gOb d Y s r c k ≠ 0) (hY : gY Y) (hd : d < 8) : 0 < (gMO d σ Y s r c k).1 14 0 7 ∧ (gMO d σ Y s r c k).1 14 0 7 < 10 := by
  have b := gOb_bd (s := s) (r := r) (c := c) (k := k) hY hd
  rw [gMO_t h hY hd]
  split
  · omega
  · split <;> omega
theorem gMO_back {d : Nat} {σ : gS} {Y : Nat → Int} {s r c k : Int} (h : gOb d Y s r c k ≠ 0) (hm : gMs σ Y) : gCp (gMO d (gKp σ) Y s r c k) 16 0 15 0 0 0 345 = gMO d (gKp σ) Y s r c k := gS_ext (fun a b x => by
  rw [gCp_at]
  by_cases q : a = 15 ∧ b = 0 ∧ 0 ≤ x ∧ x < 0 + 345
  · rw [if_pos q, q.1, q.2.1, gMO_off h (by omega), gMO_off h (by omega), show 0 + (x - 0) = x by omega, gKp_b hm x (by omega), gKp_ms hm x (by omega)]
  · rw [if_neg q]) rfl
theorem c7_write {E : gE} {σ : gS} (Y : Nat → Int) (h : gMs σ Y) (hY : gY Y) (s r c k : Int) (hs : -2147483648 ≤ s ∧ s < 2147483648) (hr : -2147483648 ≤ r ∧ r < 2147483648) (hc : -2147483648 ≤ c ∧ c < 2147483648) (hk : -2147483648 ≤ k ∧ k < 2147483648) (pm : Nat) (hp : σ.1 14 0 6 = (pm : Int)) (hp8 : pm ≤ 8) (hob : gOb 1 Y s r c k = 0) : gCt E mX7_write 12 0 [rf 14 0, iv s, iv r, iv c, iv k] σ (.inl (some (iv (gCoA 1 Y s r c k)))) (gEn (gMp (gKp σ) (gCoY 1 Y s r c k)) pm) := by
  refine gCt_of (L := [some (rf 14 0), some (iv s), some (iv r), some (iv c), some (iv k)]) (by decide +kernel) rfl rfl (Nat.le_of_ble_eq_true rfl) (fun X K hE => ?_)
  refine x_aload_0 K dX7_write_0 ?_
  refine x_callV0v K c7_keep mtX7_keep miX7_keep rc14 ⟨by decide, (by decide)⟩ lkRX7_121 ⟨by decide, by decide, by decide⟩ rfl (Nat.le_of_ble_eq_true rfl) dX7_write_1 ?_
  refine x_aload_0 K dX7_write_4 ?_
  refine x_aload_0 K dX7_write_5 ?_
  refine x_iload_1 K dX7_write_6 ?_
  refine x_iload_2 K dX7_write_7 ?_
  refine x_iload_3 K dX7_write_8 ?_
  refine x_iload_4 K dX7_write_9 ?_
  refine x_callV4 K (c7_doWrite Y (gKp_ms h) hY s r c k hs hr hc hk) mtX7_doWrite miX7_doWrite rc14 ⟨by decide, (by decide)⟩ lkRX7_144 ⟨by decide, by decide, by decide⟩ rfl (Nat.le_of_ble_eq_true rfl) dX7_write_11 ?_
  rw [show gMO 1 (gKp σ) Y s r c k = gMp (gKp σ) (gCoY 1 Y s r c k) from (gMO_0 hob).symm, show gMA 1 Y s r c k = gCoA 1 Y s r c k from (gMA_0 hob).symm]
  refine x_callV1 K (c7_ends _ rfl pm hp hp8) mtX7_ends miX7_ends rc14 ⟨by decide, (by decide)⟩ lkRX7_131 ⟨by decide, by decide, by decide⟩ rfl (Nat.le_of_ble_eq_true rfl) dX7_write_14 ?_
  exact x_iret K hE rfl dX7_write_17 (by decide) (by decide) rfl rfl
theorem c7_write_x {E : gE} {σ : gS} (Y : Nat → Int) (h : gMs σ Y) (hY : gY Y) (s r c k : Int) (hs : -2147483648 ≤ s ∧ s < 2147483648) (hr : -2147483648 ≤ r ∧ r < 2147483648) (hc : -2147483648 ≤ c ∧ c < 2147483648) (hk : -2147483648 ≤ k ∧ k < 2147483648) (hob : gOb 1 Y s r c k ≠ 0) : gCt E mX7_write 12 0 [rf 14 0, iv s, iv r, iv c, iv k] σ (.inl (some (iv (0)))) (gMO 1 (gKp σ) Y s r c k) := by
  refine gCt_of (L := [some (rf 14 0), some (iv s), some (iv r), some (iv c), some (iv k)]) (by decide +kernel) rfl rfl (Nat.le_of_ble_eq_true rfl) (fun X K hE => ?_)
  refine x_aload_0 K dX7_write_0 ?_
  refine x_callV0v K c7_keep mtX7_keep miX7_keep rc14 ⟨by decide, (by decide)⟩ lkRX7_121 ⟨by decide, by decide, by decide⟩ rfl (Nat.le_of_ble_eq_true rfl) dX7_write_1 ?_
  refine x_aload_0 K dX7_write_4 ?_
  refine x_aload_0 K dX7_write_5 ?_
  refine x_iload_1 K dX7_write_6 ?_
  refine x_iload_2 K dX7_write_7 ?_
  refine x_iload_3 K dX7_write_8 ?_
  refine x_iload_4 K dX7_write_9 ?_
  refine x_callV4 K (c7_doWrite Y (gKp_ms h) hY s r c k hs hr hc hk) mtX7_doWrite miX7_doWrite rc14 ⟨by decide, (by decide)⟩ lkRX7_144 ⟨by decide, by decide, by decide⟩ rfl (Nat.le_of_ble_eq_true rfl) dX7_write_11 ?_
  refine x_callV1 K (c7_ends_t _ (gMO_tb hob hY (by omega))) mtX7_ends miX7_ends rc14 ⟨by decide, (by decide)⟩ lkRX7_131 ⟨by decide, by decide, by decide⟩ rfl (Nat.le_of_ble_eq_true rfl) dX7_write_14 ?_
  exact x_iret K hE rfl dX7_write_17 (by decide) (by decide) rfl (gMO_back hob h)
theorem c7_seal {E : gE} {σ : gS} (Y : Nat → Int) (h : gMs σ Y) (hY : gY Y) (s r c k : Int) (hs : -2147483648 ≤ s ∧ s < 2147483648) (pm : Nat) (hp : σ.1 14 0 6 = (pm : Int)) (hp8 : pm ≤ 8) (hob : gOb 4 Y s r c k = 0) : gCt E mX7_seal 12 0 [rf 14 0, iv s] σ (.inl (some (iv (gCoA 4 Y s r c k)))) (gEn (gMp (gKp σ) (gCoY 4 Y s r c k)) pm) := by
  refine gCt_of (L := [some (rf 14 0), some (iv s)]) (by decide +kernel) rfl rfl (Nat.le_of_ble_eq_true rfl) (fun X K hE => ?_)
  refine x_aload_0 K dX7_seal_0 ?_
  refine x_callV0v K c7_keep mtX7_keep miX7_keep rc14 ⟨by decide, (by decide)⟩ lkRX7_121 ⟨by decide, by decide, by decide⟩ rfl (Nat.le_of_ble_eq_true rfl) dX7_seal_1 ?_
  refine x_aload_0 K dX7_seal_4 ?_
  refine x_aload_0 K dX7_seal_5 ?_
  refine x_iload_1 K dX7_seal_6 ?_
  refine x_callV1 K (c7_doSeal Y (gKp_ms h) hY s r c k hs) mtX7_doSeal miX7_doSeal rc14 ⟨by decide, (by decide)⟩ lkRX7_148 ⟨by decide, by decide, by decide⟩ rfl (Nat.le_of_ble_eq_true rfl) dX7_seal_7 ?_
  rw [show gMO 4 (gKp σ) Y s r c k = gMp (gKp σ) (gCoY 4 Y s r c k) from (gMO_0 hob).symm, show gMA 4 Y s r c k = gCoA 4 Y s r c k from (gMA_0 hob).symm]
  refine x_callV1 K (c7_ends _ rfl pm hp hp8) mtX7_ends miX7_ends rc14 ⟨by decide, (by decide)⟩ lkRX7_131 ⟨by decide, by decide, by decide⟩ rfl (Nat.le_of_ble_eq_true rfl) dX7_seal_10 ?_
  exact x_iret K hE rfl dX7_seal_13 (by decide) (by decide) rfl rfl
theorem c7_seal_x {E : gE} {σ : gS} (Y : Nat → Int) (h : gMs σ Y) (hY : gY Y) (s r c k : Int) (hs : -2147483648 ≤ s ∧ s < 2147483648) (hob : gOb 4 Y s r c k ≠ 0) : gCt E mX7_seal 12 0 [rf 14 0, iv s] σ (.inl (some (iv (0)))) (gMO 4 (gKp σ) Y s r c k) := by
  refine gCt_of (L := [some (rf 14 0), some (iv s)]) (by decide +kernel) rfl rfl (Nat.le_of_ble_eq_true rfl) (fun X K hE => ?_)
  refine x_aload_0 K dX7_seal_0 ?_
  refine x_callV0v K c7_keep mtX7_keep miX7_keep rc14 ⟨by decide, (by decide)⟩ lkRX7_121 ⟨by decide, by decide, by decide⟩ rfl (Nat.le_of_ble_eq_true rfl) dX7_seal_1 ?_
  refine x_aload_0 K dX7_seal_4 ?_
  refine x_aload_0 K dX7_seal_5 ?_
  refine x_iload_1 K dX7_seal_6 ?_
  refine x_callV1 K (c7_doSeal Y (gKp_ms h) hY s r c k hs) mtX7_doSeal miX7_doSeal rc14 ⟨by decide, (by decide)⟩ lkRX7_148 ⟨by decide, by decide, by decide⟩ rfl (Nat.le_of_ble_eq_true rfl) dX7_seal_7 ?_
  refine x_callV1 K (c7_ends_t _ (gMO_tb hob hY (by omega))) mtX7_ends miX7_ends rc14 ⟨by decide, (by decide)⟩ lkRX7_131 ⟨by decide, by decide, by decide⟩ rfl (Nat.le_of_ble_eq_true rfl) dX7_seal_10 ?_
  exact x_iret K hE rfl dX7_seal_13 (by decide) (by decide) rfl (gMO_back hob h)
theorem c7_copy {E : gE} {σ : gS} (Y : Nat → Int) (h : gMs σ Y) (hY : gY Y) (s r c k : Int) (hs : -2147483648 ≤ s ∧ s < 2147483648) (pm : Nat) (hp : σ.1 14 0 6 = (pm : Int)) (hp8 : pm ≤ 8) (hob : gOb 5 Y s r c k = 0) : gCt E mX7_copy 12 0 [rf 14 0, iv s] σ (.inl (some (iv (gCoA 5 Y s r c k)))) (gEn (gMp (gKp σ) (gCoY 5 Y s r c k)) pm) := by
  refine gCt_of (L := [some (rf 14 0), some (iv s)]) (by decide +kernel) rfl rfl (Nat.le_of_ble_eq_true rfl) (fun X K hE => ?_)
  refine x_aload_0 K dX7_copy_0 ?_
  refine x_callV0v K c7_keep mtX7_keep miX7_keep rc14 ⟨by decide, (by decide)⟩ lkRX7_121 ⟨by decide, by decide, by decide⟩ rfl (Nat.le_of_ble_eq_true rfl) dX7_copy_1 ?_
  refine x_aload_0 K dX7_copy_4 ?_
  refine x_aload_0 K dX7_copy_5 ?_
  refine x_iload_1 K dX7_copy_6 ?_
  refine x_callV1 K (c7_doCopy Y (gKp_ms h) hY s r c k hs) mtX7_doCopy miX7_doCopy rc14 ⟨by decide, (by decide)⟩ lkRX7_151 ⟨by decide, by decide, by decide⟩ rfl (Nat.le_of_ble_eq_true rfl) dX7_copy_7 ?_
  rw [show gMO 5 (gKp σ) Y s r c k = gMp (gKp σ) (gCoY 5 Y s r c k) from (gMO_0 hob).symm, show gMA 5 Y s r c k = gCoA 5 Y s r c k from (gMA_0 hob).symm]
  refine x_callV1 K (c7_ends _ rfl pm hp hp8) mtX7_ends miX7_ends rc14 ⟨by decide, (by decide)⟩ lkRX7_131 ⟨by decide, by decide, by decide⟩ rfl (Nat.le_of_ble_eq_true rfl) dX7_copy_10 ?_
  exact x_iret K hE rfl dX7_copy_13 (by decide) (by decide) rfl rfl
theorem c7_copy_x {E : gE} {σ : gS} (Y : Nat → Int) (h : gMs σ Y) (hY : gY Y) (s r c k : Int) (hs : -2147483648 ≤ s ∧ s < 2147483648) (hob : gOb 5 Y s r c k ≠ 0) : gCt E mX7_copy 12 0 [rf 14 0, iv s] σ (.inl (some (iv (0)))) (gMO 5 (gKp σ) Y s r c k) := by
  refine gCt_of (L := [some (rf 14 0), some (iv s)]) (by decide +kernel) rfl rfl (Nat.le_of_ble_eq_true rfl) (fun X K hE => ?_)
  refine x_aload_0 K dX7_copy_0 ?_
  refine x_callV0v K c7_keep mtX7_keep miX7_keep rc14 ⟨by decide, (by decide)⟩ lkRX7_121 ⟨by decide, by decide, by decide⟩ rfl (Nat.le_of_ble_eq_true rfl) dX7_copy_1 ?_
  refine x_aload_0 K dX7_copy_4 ?_
  refine x_aload_0 K dX7_copy_5 ?_
  refine x_iload_1 K dX7_copy_6 ?_
  refine x_callV1 K (c7_doCopy Y (gKp_ms h) hY s r c k hs) mtX7_doCopy miX7_doCopy rc14 ⟨by decide, (by decide)⟩ lkRX7_151 ⟨by decide, by decide, by decide⟩ rfl (Nat.le_of_ble_eq_true rfl) dX7_copy_7 ?_
  refine x_callV1 K (c7_ends_t _ (gMO_tb hob hY (by omega))) mtX7_ends miX7_ends rc14 ⟨by decide, (by decide)⟩ lkRX7_131 ⟨by decide, by decide, by decide⟩ rfl (Nat.le_of_ble_eq_true rfl) dX7_copy_10 ?_
  exact x_iret K hE rfl dX7_copy_13 (by decide) (by decide) rfl (gMO_back hob h)
theorem c7_slip {E : gE} {σ : gS} (Y : Nat → Int) (h : gMs σ Y) (hY : gY Y) (s r c k : Int) (hs : -2147483648 ≤ s ∧ s < 2147483648) (hr : -2147483648 ≤ r ∧ r < 2147483648) (hc : -2147483648 ≤ c ∧ c < 2147483648) (hk : -2147483648 ≤ k ∧ k < 2147483648) (pm : Nat) (hp : σ.1 14 0 6 = (pm : Int)) (hp8 : pm ≤ 8) (hob : gOb 2 Y s r c k = 0) : gCt E mX7_slip 12 0 [rf 14 0, iv s, iv r, iv c, iv k] σ (.inl (some (iv (gCoA 2 Y s r c k)))) (gEn (gMp (gKp σ) (gCoY 2 Y s r c k)) pm) := by
  refine gCt_of (L := [some (rf 14 0), some (iv s), some (iv r), some (iv c), some (iv k)]) (by decide +kernel) rfl rfl (Nat.le_of_ble_eq_true rfl) (fun X K hE => ?_)
  refine x_aload_0 K dX7_slip_0 ?_
  refine x_callV0v K c7_keep mtX7_keep miX7_keep rc14 ⟨by decide, (by decide)⟩ lkRX7_121 ⟨by decide, by decide, by decide⟩ rfl (Nat.le_of_ble_eq_true rfl) dX7_slip_1 ?_
  refine x_aload_0 K dX7_slip_4 ?_
  refine x_aload_0 K dX7_slip_5 ?_
  refine x_iload_1 K dX7_slip_6 ?_
  refine x_iload_2 K dX7_slip_7 ?_
  refine x_iload_3 K dX7_slip_8 ?_
  refine x_iload_4 K dX7_slip_9 ?_
  refine x_callV4 K (c7_doSlip Y (gKp_ms h) hY s r c k hs hr hc hk) mtX7_doSlip miX7_doSlip rc14 ⟨by decide, (by decide)⟩ lkRX7_154 ⟨by decide, by decide, by decide⟩ rfl (Nat.le_of_ble_eq_true rfl) dX7_slip_11 ?_
  rw [show gMO 2 (gKp σ) Y s r c k = gMp (gKp σ) (gCoY 2 Y s r c k) from (gMO_0 hob).symm, show gMA 2 Y s r c k = gCoA 2 Y s r c k from (gMA_0 hob).symm]
  refine x_callV1 K (c7_ends _ rfl pm hp hp8) mtX7_ends miX7_ends rc14 ⟨by decide, (by decide)⟩ lkRX7_131 ⟨by decide, by decide, by decide⟩ rfl (Nat.le_of_ble_eq_true rfl) dX7_slip_14 ?_
  exact x_iret K hE rfl dX7_slip_17 (by decide) (by decide) rfl rfl
theorem c7_slip_x {E : gE} {σ : gS} (Y : Nat → Int) (h : gMs σ Y) (hY : gY Y) (s r c k : Int) (hs : -2147483648 ≤ s ∧ s < 2147483648) (hr : -2147483648 ≤ r ∧ r < 2147483648) (hc : -2147483648 ≤ c ∧ c < 2147483648) (hk : -2147483648 ≤ k ∧ k < 2147483648) (hob : gOb 2 Y s r c k ≠ 0) : gCt E mX7_slip 12 0 [rf 14 0, iv s, iv r, iv c, iv k] σ (.inl (some (iv (0)))) (gMO 2 (gKp σ) Y s r c k) := by
  refine gCt_of (L := [some (rf 14 0), some (iv s), some (iv r), some (iv c), some (iv k)]) (by decide +kernel) rfl rfl (Nat.le_of_ble_eq_true rfl) (fun X K hE => ?_)
  refine x_aload_0 K dX7_slip_0 ?_
  refine x_callV0v K c7_keep mtX7_keep miX7_keep rc14 ⟨by decide, (by decide)⟩ lkRX7_121 ⟨by decide, by decide, by decide⟩ rfl (Nat.le_of_ble_eq_true rfl) dX7_slip_1 ?_
  refine x_aload_0 K dX7_slip_4 ?_
  refine x_aload_0 K dX7_slip_5 ?_
  refine x_iload_1 K dX7_slip_6 ?_
  refine x_iload_2 K dX7_slip_7 ?_
  refine x_iload_3 K dX7_slip_8 ?_
  refine x_iload_4 K dX7_slip_9 ?_
  refine x_callV4 K (c7_doSlip Y (gKp_ms h) hY s r c k hs hr hc hk) mtX7_doSlip miX7_doSlip rc14 ⟨by decide, (by decide)⟩ lkRX7_154 ⟨by decide, by decide, by decide⟩ rfl (Nat.le_of_ble_eq_true rfl) dX7_slip_11 ?_
  refine x_callV1 K (c7_ends_t _ (gMO_tb hob hY (by omega))) mtX7_ends miX7_ends rc14 ⟨by decide, (by decide)⟩ lkRX7_131 ⟨by decide, by decide, by decide⟩ rfl (Nat.le_of_ble_eq_true rfl) dX7_slip_14 ?_
  exact x_iret K hE rfl dX7_slip_17 (by decide) (by decide) rfl (gMO_back hob h)
theorem c7_smudge {E : gE} {σ : gS} (Y : Nat → Int) (h : gMs σ Y) (hY : gY Y) (s r c k : Int) (hs : -2147483648 ≤ s ∧ s < 2147483648) (hr : -2147483648 ≤ r ∧ r < 2147483648) (hc : -2147483648 ≤ c ∧ c < 2147483648) (pm : Nat) (hp : σ.1 14 0 6 = (pm : Int)) (hp8 : pm ≤ 8) (hob : gOb 3 Y s r c k = 0) : gCt E mX7_smudge 12 0 [rf 14 0, iv s, iv r, iv c] σ (.inl (some (iv (gCoA 3 Y s r c k)))) (gEn (gMp (gKp σ) (gCoY 3 Y s r c k)) pm) := by
  refine gCt_of (L := [some (rf 14 0), some (iv s), some (iv r), some (iv c)]) (by decide +kernel) rfl rfl (Nat.le_of_ble_eq_true rfl) (fun X K hE => ?_)
  refine x_aload_0 K dX7_smudge_0 ?_
  refine x_callV0v K c7_keep mtX7_keep miX7_keep rc14 ⟨by decide, (by decide)⟩ lkRX7_121 ⟨by decide, by decide, by decide⟩ rfl (Nat.le_of_ble_eq_true rfl) dX7_smudge_1 ?_
  refine x_aload_0 K dX7_smudge_4 ?_
  refine x_aload_0 K dX7_smudge_5 ?_
  refine x_iload_1 K dX7_smudge_6 ?_
  refine x_iload_2 K dX7_smudge_7 ?_
  refine x_iload_3 K dX7_smudge_8 ?_
  refine x_callV3 K (c7_doSmudge Y (gKp_ms h) hY s r c k hs hr hc) mtX7_doSmudge miX7_doSmudge rc14 ⟨by decide, (by decide)⟩ lkRX7_157 ⟨by decide, by decide, by decide⟩ rfl (Nat.le_of_ble_eq_true rfl) dX7_smudge_9 ?_
  rw [show gMO 3 (gKp σ) Y s r c k = gMp (gKp σ) (gCoY 3 Y s r c k) from (gMO_0 hob).symm, show gMA 3 Y s r c k = gCoA 3 Y s r c k from (gMA_0 hob).symm]
  refine x_callV1 K (c7_ends _ rfl pm hp hp8) mtX7_ends miX7_ends rc14 ⟨by decide, (by decide)⟩ lkRX7_131 ⟨by decide, by decide, by decide⟩ rfl (Nat.le_of_ble_eq_true rfl) dX7_smudge_12 ?_
  exact x_iret K hE rfl dX7_smudge_15 (by decide) (by decide) rfl rfl
theorem c7_smudge_x {E : gE} {σ : gS} (Y : Nat → Int) (h : gMs σ Y) (hY : gY Y) (s r c k : Int) (hs : -2147483648 ≤ s ∧ s < 2147483648) (hr : -2147483648 ≤ r ∧ r < 2147483648) (hc : -2147483648 ≤ c ∧ c < 2147483648) (hob : gOb 3 Y s r c k ≠ 0) : gCt E mX7_smudge 12 0 [rf 14 0, iv s, iv r, iv c] σ (.inl (some (iv (0)))) (gMO 3 (gKp σ) Y s r c k) := by
  refine gCt_of (L := [some (rf 14 0), some (iv s), some (iv r), some (iv c)]) (by decide +kernel) rfl rfl (Nat.le_of_ble_eq_true rfl) (fun X K hE => ?_)
  refine x_aload_0 K dX7_smudge_0 ?_
  refine x_callV0v K c7_keep mtX7_keep miX7_keep rc14 ⟨by decide, (by decide)⟩ lkRX7_121 ⟨by decide, by decide, by decide⟩ rfl (Nat.le_of_ble_eq_true rfl) dX7_smudge_1 ?_
  refine x_aload_0 K dX7_smudge_4 ?_
  refine x_aload_0 K dX7_smudge_5 ?_
  refine x_iload_1 K dX7_smudge_6 ?_
  refine x_iload_2 K dX7_smudge_7 ?_
  refine x_iload_3 K dX7_smudge_8 ?_
  refine x_callV3 K (c7_doSmudge Y (gKp_ms h) hY s r c k hs hr hc) mtX7_doSmudge miX7_doSmudge rc14 ⟨by decide, (by decide)⟩ lkRX7_157 ⟨by decide, by decide, by decide⟩ rfl (Nat.le_of_ble_eq_true rfl) dX7_smudge_9 ?_
  refine x_callV1 K (c7_ends_t _ (gMO_tb hob hY (by omega))) mtX7_ends miX7_ends rc14 ⟨by decide, (by decide)⟩ lkRX7_131 ⟨by decide, by decide, by decide⟩ rfl (Nat.le_of_ble_eq_true rfl) dX7_smudge_12 ?_
  exact x_iret K hE rfl dX7_smudge_15 (by decide) (by decide) rfl (gMO_back hob h)
theorem c7_mend {E : gE} {σ : gS} (Y : Nat → Int) (h : gMs σ Y) (hY : gY Y) (s r c k : Int) (hs : -2147483648 ≤ s ∧ s < 2147483648) (pm : Nat) (hp : σ.1 14 0 6 = (pm : Int)) (hp8 : pm ≤ 8) (hob : gOb 6 Y s r c k = 0) : gCt E mX7_mend 12 0 [rf 14 0, iv s] σ (.inl (some (iv (gCoA 6 Y s r c k)))) (gEn (gMp (gKp σ) (gCoY 6 Y s r c k)) pm) := by
  refine gCt_of (L := [some (rf 14 0), some (iv s)]) (by decide +kernel) rfl rfl (Nat.le_of_ble_eq_true rfl) (fun X K hE => ?_)
  refine x_aload_0 K dX7_mend_0 ?_
  refine x_callV0v K c7_keep mtX7_keep miX7_keep rc14 ⟨by decide, (by decide)⟩ lkRX7_121 ⟨by decide, by decide, by decide⟩ rfl (Nat.le_of_ble_eq_true rfl) dX7_mend_1 ?_
  refine x_aload_0 K dX7_mend_4 ?_
  refine x_aload_0 K dX7_mend_5 ?_
  refine x_iload_1 K dX7_mend_6 ?_
  refine x_callV1 K (c7_doMend Y (gKp_ms h) hY s r c k hs) mtX7_doMend miX7_doMend rc14 ⟨by decide, (by decide)⟩ lkRX7_181 ⟨by decide, by decide, by decide⟩ rfl (Nat.le_of_ble_eq_true rfl) dX7_mend_7 ?_
  rw [show gMO 6 (gKp σ) Y s r c k = gMp (gKp σ) (gCoY 6 Y s r c k) from (gMO_0 hob).symm, show gMA 6 Y s r c k = gCoA 6 Y s r c k from (gMA_0 hob).symm]
  refine x_callV1 K (c7_ends _ rfl pm hp hp8) mtX7_ends miX7_ends rc14 ⟨by decide, (by decide)⟩ lkRX7_131 ⟨by decide, by decide, by decide⟩ rfl (Nat.le_of_ble_eq_true rfl) dX7_mend_10 ?_
  exact x_iret K hE rfl dX7_mend_13 (by decide) (by decide) rfl rfl
theorem c7_mend_x {E : gE} {σ : gS} (Y : Nat → Int) (h : gMs σ Y) (hY : gY Y) (s r c k : Int) (hs : -2147483648 ≤ s ∧ s < 2147483648) (hob : gOb 6 Y s r c k ≠ 0) : gCt E mX7_mend 12 0 [rf 14 0, iv s] σ (.inl (some (iv (0)))) (gMO 6 (gKp σ) Y s r c k) := by
  refine gCt_of (L := [some (rf 14 0), some (iv s)]) (by decide +kernel) rfl rfl (Nat.le_of_ble_eq_true rfl) (fun X K hE => ?_)
  refine x_aload_0 K dX7_mend_0 ?_
  refine x_callV0v K c7_keep mtX7_keep miX7_keep rc14 ⟨by decide, (by decide)⟩ lkRX7_121 ⟨by decide, by decide, by decide⟩ rfl (Nat.le_of_ble_eq_true rfl) dX7_mend_1 ?_
  refine x_aload_0 K dX7_mend_4 ?_
  refine x_aload_0 K dX7_mend_5 ?_
  refine x_iload_1 K dX7_mend_6 ?_
  refine x_callV1 K (c7_doMend Y (gKp_ms h) hY s r c k hs) mtX7_doMend miX7_doMend rc14 ⟨by decide, (by decide)⟩ lkRX7_181 ⟨by decide, by decide, by decide⟩ rfl (Nat.le_of_ble_eq_true rfl) dX7_mend_7 ?_
  refine x_callV1 K (c7_ends_t _ (gMO_tb hob hY (by omega))) mtX7_ends miX7_ends rc14 ⟨by decide, (by decide)⟩ lkRX7_131 ⟨by decide, by decide, by decide⟩ rfl (Nat.le_of_ble_eq_true rfl) dX7_mend_10 ?_
  exact x_iret K hE rfl dX7_mend_13 (by decide) (by decide) rfl (gMO_back hob h)
theorem c7_fill {E : gE} {σ : gS} (Y : Nat → Int) (h : gMs σ Y) (hY : gY Y) (s r c k : Int) (hs : -2147483648 ≤ s ∧ s < 2147483648) (pm : Nat) (hp : σ.1 14 0 6 = (pm : Int)) (hp8 : pm ≤ 8) (hob : gOb 7 Y s r c k = 0) : gCt E mX7_fill 12 0 [rf 14 0, iv s] σ (.inl (some (iv (gCoA 7 Y s r c k)))) (gEn (gMp (gKp σ) (gCoY 7 Y s r c k)) pm) := by
  refine gCt_of (L := [some (rf 14 0), some (iv s)]) (by decide +kernel) rfl rfl (Nat.le_of_ble_eq_true rfl) (fun X K hE => ?_)
  refine x_aload_0 K dX7_fill_0 ?_
  refine x_callV0v K c7_keep mtX7_keep miX7_keep rc14 ⟨by decide, (by decide)⟩ lkRX7_121 ⟨by decide, by decide, by decide⟩ rfl (Nat.le_of_ble_eq_true rfl) dX7_fill_1 ?_
  refine x_aload_0 K dX7_fill_4 ?_
  refine x_aload_0 K dX7_fill_5 ?_
  refine x_iload_1 K dX7_fill_6 ?_
  refine x_callV1 K (c7_doFill Y (gKp_ms h) hY s r c k hs) mtX7_doFill miX7_doFill rc14 ⟨by decide, (by decide)⟩ lkRX7_193 ⟨by decide, by decide, by decide⟩ rfl (Nat.le_of_ble_eq_true rfl) dX7_fill_7 ?_
  rw [show gMO 7 (gKp σ) Y s r c k = gMp (gKp σ) (gCoY 7 Y s r c k) from (gMO_0 hob).symm, show gMA 7 Y s r c k = gCoA 7 Y s r c k from (gMA_0 hob).symm]
  refine x_callV1 K (c7_ends _ rfl pm hp hp8) mtX7_ends miX7_ends rc14 ⟨by decide, (by decide)⟩ lkRX7_131 ⟨by decide, by decide, by decide⟩ rfl (Nat.le_of_ble_eq_true rfl) dX7_fill_10 ?_
  exact x_iret K hE rfl dX7_fill_13 (by decide) (by decide) rfl rfl
theorem c7_fill_x {E : gE} {σ : gS} (Y : Nat → Int) (h : gMs σ Y) (hY : gY Y) (s r c k : Int) (hs : -2147483648 ≤ s ∧ s < 2147483648) (hob : gOb 7 Y s r c k ≠ 0) : gCt E mX7_fill 12 0 [rf 14 0, iv s] σ (.inl (some (iv (0)))) (gMO 7 (gKp σ) Y s r c k) := by
  refine gCt_of (L := [some (rf 14 0), some (iv s)]) (by decide +kernel) rfl rfl (Nat.le_of_ble_eq_true rfl) (fun X K hE => ?_)
  refine x_aload_0 K dX7_fill_0 ?_
  refine x_callV0v K c7_keep mtX7_keep miX7_keep rc14 ⟨by decide, (by decide)⟩ lkRX7_121 ⟨by decide, by decide, by decide⟩ rfl (Nat.le_of_ble_eq_true rfl) dX7_fill_1 ?_
  refine x_aload_0 K dX7_fill_4 ?_
  refine x_aload_0 K dX7_fill_5 ?_
  refine x_iload_1 K dX7_fill_6 ?_
  refine x_callV1 K (c7_doFill Y (gKp_ms h) hY s r c k hs) mtX7_doFill miX7_doFill rc14 ⟨by decide, (by decide)⟩ lkRX7_193 ⟨by decide, by decide, by decide⟩ rfl (Nat.le_of_ble_eq_true rfl) dX7_fill_7 ?_
  refine x_callV1 K (c7_ends_t _ (gMO_tb hob hY (by omega))) mtX7_ends miX7_ends rc14 ⟨by decide, (by decide)⟩ lkRX7_131 ⟨by decide, by decide, by decide⟩ rfl (Nat.le_of_ble_eq_true rfl) dX7_fill_10 ?_
  exact x_iret K hE rfl dX7_fill_13 (by decide) (by decide) rfl (gMO_back hob h)
theorem gOb_z {Y : Nat → Int} {s r c k : Int} : gOb 0 Y s r c k = if (1 ≤ r ∧ r ≤ 6) ∧ 1 ≤ c ∧ c ≤ 8 then o_ad Y else 2 := by
  unfold gOb; rw [if_pos rfl]
theorem gOb_z0 {Y : Nat → Int} {s r c k : Int} (h : gOb 0 Y s r c k = 0) : ((1 ≤ r ∧ r ≤ 6) ∧ 1 ≤ c ∧ c ≤ 8) ∧ ¬ 5 ≤ Y 0 := by
  rw [gOb_z] at h
  split at h
  · unfold o_ad at h
    split at h
    · omega
    · exact ⟨by assumption, by assumption⟩
  · omega
theorem gOb_z2 {Y : Nat → Int} {s r c k : Int} (h : gOb 0 Y s r c k = 2) : ¬ ((1 ≤ r ∧ r ≤ 6) ∧ 1 ≤ c ∧ c ≤ 8) := by
  rw [gOb_z] at h
  split at h
  · unfold o_ad at h
    split at h <;> omega
  · assumption
theorem gOb_z3 {Y : Nat → Int} {s r c k : Int} (h : 100 ≤ gOb 0 Y s r c k) : ((1 ≤ r ∧ r ≤ 6) ∧ 1 ≤ c ∧ c ≤ 8) ∧ 5 ≤ Y 0 ∧ gOb 0 Y s r c k = 105 := by
  have h2 := h
  rw [gOb_z] at h
  split at h
  · unfold o_ad at h
    split at h
    · refine ⟨by assumption, by assumption, ?_⟩
      rw [gOb_z, if_pos (by assumption)]
      exact if_pos (by assumption)
    · omega
  · omega
theorem c7_scroll {E : gE} {σ : gS} (Y : Nat → Int) (h : gMs σ Y) (hY : gY Y) (r c : Int) (hr : -2147483648 ≤ r ∧ r < 2147483648) (hc : -2147483648 ≤ c ∧ c < 2147483648) (pm : Nat) (hp : σ.1 14 0 6 = (pm : Int)) (hp8 : pm ≤ 8) (hob : gOb 0 Y (-1) r c 0 = 0) : gCt E mX7_scroll 12 0 [rf 14 0, iv r, iv c] σ (.inl (some (iv (gCoA 0 Y (-1) r c 0)))) (gEn (gMp (gKp σ) (gCoY 0 Y (-1) r c 0)) pm) := by
  refine gCt_of (L := [some (rf 14 0), some (iv r), some (iv c), none, none]) (by decide +kernel) rfl rfl (Nat.le_of_ble_eq_true rfl) (fun X K hE => ?_)
  have hY0 := hY.1
  have hin := gOb_z0 hob
  have t1 : gB1 (1 ≤ r ∧ r ≤ 6) = 1 := gB1_t hin.1.1
  have t2 : gB1 (1 ≤ c ∧ c ≤ 8) = 1 := gB1_t hin.1.2
  refine x_aload_0 K dX7_scroll_0 ?_
  refine x_getC K gfRX7_9 ⟨by decide, (by decide)⟩ dX7_scroll_1 ?_
  refine x_iconst K dX7_scroll_4 ?_
  refine x_iald K 0 rfl rfl ⟨by decide, by decide⟩ (by omega) dX7_scroll_5 ?_
  obtain ⟨m, hm0⟩ : ∃ m : Nat, Y 0 = (m : Int) := ⟨(Y 0).toNat, by omega⟩
  refine gWX.top (b := (m : Int)) ((h 0 (by omega)).trans hm0) ?_
  refine x_istore_3 K dX7_scroll_6 rfl ?_
  refine x_aload_0 K dX7_scroll_7 ?_
  refine x_callV0v K c7_keep mtX7_keep miX7_keep rc14 ⟨by decide, (by decide)⟩ lkRX7_121 ⟨by decide, by decide, by decide⟩ rfl (Nat.le_of_ble_eq_true rfl) dX7_scroll_8 ?_
  refine x_iload_1 K dX7_scroll_11 ?_
  refine x_iconst K dX7_scroll_12 ?_
  refine x_bipush K dX7_scroll_13 rfl ?_
  refine x_callS3 K (c7_in r 1 6 (by omega)) mtX7_in msX7_in lkRX7_61 ⟨by decide, by decide, by decide⟩ rfl (Nat.le_of_ble_eq_true rfl) dX7_scroll_15 ?_
  have b1 := gB1_bd (1 ≤ r ∧ r ≤ 6)
  refine x_if_eq (tgt := 31) K (by omega) dX7_scroll_18 (by decide) (fun h18 => absurd h18 (by omega)) (fun h18 => ?_)
  refine x_iload_2 K dX7_scroll_21 ?_
  refine x_iconst K dX7_scroll_22 ?_
  refine x_bipush K dX7_scroll_23 rfl ?_
  refine x_callS3 K (c7_in c 1 8 (by omega)) mtX7_in msX7_in lkRX7_61 ⟨by decide, by decide, by decide⟩ rfl (Nat.le_of_ble_eq_true rfl) dX7_scroll_25 ?_
  have b2 := gB1_bd (1 ≤ c ∧ c ≤ 8)
  refine x_if_ne (tgt := 37) K (by omega) dX7_scroll_28 (by decide) (fun h28 => ?_) (fun h28 => absurd t2 (by omega))
  refine x_iload_3 K dX7_scroll_37 ?_
  refine x_iconst K dX7_scroll_38 ?_
  refine x_icmp_ne (tgt := 50) K (by omega) dX7_scroll_39 (by decide) (fun h39 => ?_) (fun h39 => absurd h39 (by omega))
  refine x_iconst K dX7_scroll_50 ?_
  refine x_istore_4 K dX7_scroll_51 rfl ?_
  refine gLp (P := fun i : Nat => gWX X E 0 0 53 [some (rf 14 0), some (iv r), some (iv c), some (iv (m : Int)), some (iv (i : Int))] [] (gMp (gKp σ) (ySet Y m (zNp (zb Y m) r c i)))) (68) (fun k0 => ?_) (fun i hi ih => ?_) ?_
  · exact gWX.to rfl (by rw [ySet_cong Y m (z := zNp (zb Y m) r c 0) (y := zb Y m) (fun j hj => if_neg (by omega)), ySet_self, gMp_self (gKp_ms h)]) (k0)
  · refine x_iload_4 K dX7_scroll_53 ?_
    refine x_bipush K dX7_scroll_55 rfl ?_
    refine x_icmp_ge (tgt := 103) K (by omega) dX7_scroll_57 (by decide) (fun h57 => absurd h57 (by omega)) (fun h57 => ?_)
    refine x_aload_0 K dX7_scroll_60 ?_
    refine x_iload_3 K dX7_scroll_61 ?_
    refine x_iload_4 K dX7_scroll_62 ?_
    refine x_iload_4 K dX7_scroll_64 ?_
    refine x_if_ne (tgt := 73) K (by omega) dX7_scroll_66 (by decide) (fun h66 => ?_) (fun h66 => ?_)
    · refine x_iload_4 K dX7_scroll_73 ?_
      refine x_iconst K dX7_scroll_75 ?_
      refine x_icmp_ne (tgt := 83) K (by omega) dX7_scroll_76 (by decide) (fun h76 => ?_) (fun h76 => ?_)
      · refine x_iload_4 K dX7_scroll_83 ?_
        refine x_iconst K dX7_scroll_85 ?_
        refine x_icmp_ne (tgt := 93) K (by omega) dX7_scroll_86 (by decide) (fun h86 => ?_) (fun h86 => ?_)
        · refine x_iconst K dX7_scroll_93 ?_
          refine x_callV3v K (c7_set _ (gMp_ms _ _) m i (by omega) (by omega) (0)) mtX7_set miX7_set rc14 ⟨by decide, (by decide)⟩ lkRX7_80 ⟨by decide, by decide, by decide⟩ rfl (Nat.le_of_ble_eq_true rfl) dX7_scroll_94 ?_
          refine gWX.eq (σ' := gMp (gKp σ) (ySet Y m (zNp (zb Y m) r c (i + 1)))) (gMp_set2 (gKp σ) Y (fun j hj => ?_)) ?_
          · unfold zNp
            by_cases q : j = i
            · rw [if_pos q, if_pos (by omega), q]
              unfold zNew
              (repeat' split) <;> omega
            · rw [if_neg q]
              by_cases q2 : j < i
              · rw [if_pos q2, if_pos (by omega)]
              · rw [if_neg q2, if_neg (by omega)]
          refine x_iinc_4 K dX7_scroll_97 rfl ?_
          refine x_goto (tgt := 53) K dX7_scroll_100 (by decide) ?_
          exact gWX.to rfl rfl (ih)
        · refine x_iconst K dX7_scroll_89 ?_
          refine x_goto (tgt := 94) K dX7_scroll_90 (by decide) ?_
          refine x_callV3v K (c7_set _ (gMp_ms _ _) m i (by omega) (by omega) (-1)) mtX7_set miX7_set rc14 ⟨by decide, (by decide)⟩ lkRX7_80 ⟨by decide, by decide, by decide⟩ rfl (Nat.le_of_ble_eq_true rfl) dX7_scroll_94 ?_
          refine gWX.eq (σ' := gMp (gKp σ) (ySet Y m (zNp (zb Y m) r c (i + 1)))) (gMp_set2 (gKp σ) Y (fun j hj => ?_)) ?_
          · unfold zNp
            by_cases q : j = i
            · rw [if_pos q, if_pos (by omega), q]
              unfold zNew
              (repeat' split) <;> omega
            · rw [if_neg q]
              by_cases q2 : j < i
              · rw [if_pos q2, if_pos (by omega)]
              · rw [if_neg q2, if_neg (by omega)]
          refine x_iinc_4 K dX7_scroll_97 rfl ?_
          refine x_goto (tgt := 53) K dX7_scroll_100 (by decide) ?_
          exact gWX.to rfl rfl (ih)
      · refine x_iload_2 K dX7_scroll_79 ?_
        refine x_goto (tgt := 94) K dX7_scroll_80 (by decide) ?_
        refine x_callV3v K (c7_set _ (gMp_ms _ _) m i (by omega) (by omega) (c)) mtX7_set miX7_set rc14 ⟨by decide, (by decide)⟩ lkRX7_80 ⟨by decide, by decide, by decide⟩ rfl (Nat.le_of_ble_eq_true rfl) dX7_scroll_94 ?_
        refine gWX.eq (σ' := gMp (gKp σ) (ySet Y m (zNp (zb Y m) r c (i + 1)))) (gMp_set2 (gKp σ) Y (fun j hj => ?_)) ?_
        · unfold zNp
          by_cases q : j = i
          · rw [if_pos q, if_pos (by omega), q]
            unfold zNew
            (repeat' split) <;> omega
          · rw [if_neg q]
            by_cases q2 : j < i
            · rw [if_pos q2, if_pos (by omega)]
            · rw [if_neg q2, if_neg (by omega)]
        refine x_iinc_4 K dX7_scroll_97 rfl ?_
        refine x_goto (tgt := 53) K dX7_scroll_100 (by decide) ?_
        exact gWX.to rfl rfl (ih)
    · refine x_iload_1 K dX7_scroll_69 ?_
      refine x_goto (tgt := 94) K dX7_scroll_70 (by decide) ?_
      refine x_callV3v K (c7_set _ (gMp_ms _ _) m i (by omega) (by omega) (r)) mtX7_set miX7_set rc14 ⟨by decide, (by decide)⟩ lkRX7_80 ⟨by decide, by decide, by decide⟩ rfl (Nat.le_of_ble_eq_true rfl) dX7_scroll_94 ?_
      refine gWX.eq (σ' := gMp (gKp σ) (ySet Y m (zNp (zb Y m) r c (i + 1)))) (gMp_set2 (gKp σ) Y (fun j hj => ?_)) ?_
      · unfold zNp
        by_cases q : j = i
        · rw [if_pos q, if_pos (by omega), q]
          unfold zNew
          (repeat' split) <;> omega
        · rw [if_neg q]
          by_cases q2 : j < i
          · rw [if_pos q2, if_pos (by omega)]
          · rw [if_neg q2, if_neg (by omega)]
      refine x_iinc_4 K dX7_scroll_97 rfl ?_
      refine x_goto (tgt := 53) K dX7_scroll_100 (by decide) ?_
      exact gWX.to rfl rfl (ih)
  · refine x_iload_4 K dX7_scroll_53 ?_
    refine x_bipush K dX7_scroll_55 rfl ?_
    refine x_icmp_ge (tgt := 103) K (by omega) dX7_scroll_57 (by decide) (fun h57 => ?_) (fun h57 => absurd h57 (by omega))
    refine x_aload_0 K dX7_scroll_103 ?_
    refine x_getC K gfRX7_9 ⟨by decide, (by decide)⟩ dX7_scroll_104 ?_
    refine x_iconst K dX7_scroll_107 ?_
    refine x_dup2 K dX7_scroll_108 rfl rfl ?_
    refine x_iald K 0 rfl rfl ⟨by decide, by decide⟩ (by omega) dX7_scroll_109 ?_
    refine gWX.top (b := (m : Int)) (by rw [gMp_at, if_pos ⟨rfl, rfl, by omega⟩, ySet_lo _ _ _ (by omega), hm0]) ?_
    refine x_iconst K dX7_scroll_110 ?_
    refine x_iadd K dX7_scroll_111 ?_
    refine x_iast K 0 rfl rfl ⟨by decide, by decide⟩ (by omega) dX7_scroll_112 ?_
    refine gWX.eq (σ' := gMp (gKp σ) (gCoY 0 Y (-1) r c 0)) (by rw [gMp_uu _ _ (by omega), yF_ySet _ _ _ (by omega), ySet_cong _ _ (z := zNp (zb Y m) r c 68) (y := zNew r c) (fun j hj => if_pos hj), gCoY_z, hm0]; rfl) ?_
    refine x_aload_0 K dX7_scroll_113 ?_
    refine x_iload_3 K dX7_scroll_114 ?_
    refine x_callV1 K (c7_ends _ rfl pm hp hp8) mtX7_ends miX7_ends rc14 ⟨by decide, (by decide)⟩ lkRX7_131 ⟨by decide, by decide, by decide⟩ rfl (Nat.le_of_ble_eq_true rfl) dX7_scroll_115 ?_
    exact x_iret K hE rfl dX7_scroll_118 (by decide) (by decide) hm0.symm rfl
theorem c7_scroll_2 {E : gE} {σ : gS} (Y : Nat → Int) (h : gMs σ Y) (hY : gY Y) (r c : Int) (hr : -2147483648 ≤ r ∧ r < 2147483648) (hc : -2147483648 ≤ c ∧ c < 2147483648) (hob : gOb 0 Y (-1) r c 0 = 2) : gCt E mX7_scroll 12 0 [rf 14 0, iv r, iv c] σ (.inl (some (iv (0)))) (gFl (gKp σ) 1) := by
  refine gCt_of (L := [some (rf 14 0), some (iv r), some (iv c), none, none]) (by decide +kernel) rfl rfl (Nat.le_of_ble_eq_true rfl) (fun X K hE => ?_)
  have hY0 := hY.1
  have hin := gOb_z2 hob
  refine x_aload_0 K dX7_scroll_0 ?_
  refine x_getC K gfRX7_9 ⟨by decide, (by decide)⟩ dX7_scroll_1 ?_
  refine x_iconst K dX7_scroll_4 ?_
  refine x_iald K 0 rfl rfl ⟨by decide, by decide⟩ (by omega) dX7_scroll_5 ?_
  obtain ⟨m, hm0⟩ : ∃ m : Nat, Y 0 = (m : Int) := ⟨(Y 0).toNat, by omega⟩
  refine gWX.top (b := (m : Int)) ((h 0 (by omega)).trans hm0) ?_
  refine x_istore_3 K dX7_scroll_6 rfl ?_
  refine x_aload_0 K dX7_scroll_7 ?_
  refine x_callV0v K c7_keep mtX7_keep miX7_keep rc14 ⟨by decide, (by decide)⟩ lkRX7_121 ⟨by decide, by decide, by decide⟩ rfl (Nat.le_of_ble_eq_true rfl) dX7_scroll_8 ?_
  refine x_iload_1 K dX7_scroll_11 ?_
  refine x_iconst K dX7_scroll_12 ?_
  refine x_bipush K dX7_scroll_13 rfl ?_
  refine x_callS3 K (c7_in r 1 6 (by omega)) mtX7_in msX7_in lkRX7_61 ⟨by decide, by decide, by decide⟩ rfl (Nat.le_of_ble_eq_true rfl) dX7_scroll_15 ?_
  have b1 := gB1_bd (1 ≤ r ∧ r ≤ 6)
  refine x_if_eq (tgt := 31) K (by omega) dX7_scroll_18 (by decide) (fun h18 => ?_) (fun h18 => ?_)
  · refine x_aload_0 K dX7_scroll_31 ?_
    refine x_iconst K dX7_scroll_32 ?_
    refine x_callV1 K (c7_fails 1) mtX7_fails miX7_fails rc14 ⟨by decide, (by decide)⟩ lkRX7_124 ⟨by decide, by decide, by decide⟩ rfl (Nat.le_of_ble_eq_true rfl) dX7_scroll_33 ?_
    exact x_iret K hE rfl dX7_scroll_36 (by decide) (by decide) rfl rfl
  · have t1 : 1 ≤ r ∧ r ≤ 6 := Classical.byContradiction (fun q => h18 (gB1_f q))
    refine x_iload_2 K dX7_scroll_21 ?_
    refine x_iconst K dX7_scroll_22 ?_
    refine x_bipush K dX7_scroll_23 rfl ?_
    refine x_callS3 K (c7_in c 1 8 (by omega)) mtX7_in msX7_in lkRX7_61 ⟨by decide, by decide, by decide⟩ rfl (Nat.le_of_ble_eq_true rfl) dX7_scroll_25 ?_
    have b2 := gB1_bd (1 ≤ c ∧ c ≤ 8)
    refine x_if_ne (tgt := 37) K (by omega) dX7_scroll_28 (by decide) (fun h28 => absurd h28 (fun q => q (gB1_f (fun y => hin ⟨t1, y⟩)))) (fun h28 => ?_)
    refine x_aload_0 K dX7_scroll_31 ?_
    refine x_iconst K dX7_scroll_32 ?_
    refine x_callV1 K (c7_fails 1) mtX7_fails miX7_fails rc14 ⟨by decide, (by decide)⟩ lkRX7_124 ⟨by decide, by decide, by decide⟩ rfl (Nat.le_of_ble_eq_true rfl) dX7_scroll_33 ?_
    exact x_iret K hE rfl dX7_scroll_36 (by decide) (by decide) rfl rfl
theorem c7_scroll_3 {E : gE} {σ : gS} (Y : Nat → Int) (h : gMs σ Y) (hY : gY Y) (r c : Int) (hr : -2147483648 ≤ r ∧ r < 2147483648) (hc : -2147483648 ≤ c ∧ c < 2147483648) (hob : 100 ≤ gOb 0 Y (-1) r c 0) : gCt E mX7_scroll 12 0 [rf 14 0, iv r, iv c] σ (.inl (some (iv (0)))) (gRu (gKp σ) 2 1 5) := by
  refine gCt_of (L := [some (rf 14 0), some (iv r), some (iv c), none, none]) (by decide +kernel) rfl rfl (Nat.le_of_ble_eq_true rfl) (fun X K hE => ?_)
  have hY0 := hY.1
  have hin := gOb_z3 hob
  have t1 : gB1 (1 ≤ r ∧ r ≤ 6) = 1 := gB1_t hin.1.1
  have t2 : gB1 (1 ≤ c ∧ c ≤ 8) = 1 := gB1_t hin.1.2
  refine x_aload_0 K dX7_scroll_0 ?_
  refine x_getC K gfRX7_9 ⟨by decide, (by decide)⟩ dX7_scroll_1 ?_
  refine x_iconst K dX7_scroll_4 ?_
  refine x_iald K 0 rfl rfl ⟨by decide, by decide⟩ (by omega) dX7_scroll_5 ?_
  obtain ⟨m, hm0⟩ : ∃ m : Nat, Y 0 = (m : Int) := ⟨(Y 0).toNat, by omega⟩
  refine gWX.top (b := (m : Int)) ((h 0 (by omega)).trans hm0) ?_
  refine x_istore_3 K dX7_scroll_6 rfl ?_
  refine x_aload_0 K dX7_scroll_7 ?_
  refine x_callV0v K c7_keep mtX7_keep miX7_keep rc14 ⟨by decide, (by decide)⟩ lkRX7_121 ⟨by decide, by decide, by decide⟩ rfl (Nat.le_of_ble_eq_true rfl) dX7_scroll_8 ?_
  refine x_iload_1 K dX7_scroll_11 ?_
  refine x_iconst K dX7_scroll_12 ?_
  refine x_bipush K dX7_scroll_13 rfl ?_
  refine x_callS3 K (c7_in r 1 6 (by omega)) mtX7_in msX7_in lkRX7_61 ⟨by decide, by decide, by decide⟩ rfl (Nat.le_of_ble_eq_true rfl) dX7_scroll_15 ?_
  have b1 := gB1_bd (1 ≤ r ∧ r ≤ 6)
  refine x_if_eq (tgt := 31) K (by omega) dX7_scroll_18 (by decide) (fun h18 => absurd h18 (by omega)) (fun h18 => ?_)
  refine x_iload_2 K dX7_scroll_21 ?_
  refine x_iconst K dX7_scroll_22 ?_
  refine x_bipush K dX7_scroll_23 rfl ?_
  refine x_callS3 K (c7_in c 1 8 (by omega)) mtX7_in msX7_in lkRX7_61 ⟨by decide, by decide, by decide⟩ rfl (Nat.le_of_ble_eq_true rfl) dX7_scroll_25 ?_
  have b2 := gB1_bd (1 ≤ c ∧ c ≤ 8)
  refine x_if_ne (tgt := 37) K (by omega) dX7_scroll_28 (by decide) (fun h28 => ?_) (fun h28 => absurd t2 (by omega))
  refine x_iload_3 K dX7_scroll_37 ?_
  refine x_iconst K dX7_scroll_38 ?_
  refine x_icmp_ne (tgt := 50) K (by omega) dX7_scroll_39 (by decide) (fun h39 => absurd h39 (by omega)) (fun h39 => ?_)
  refine x_aload_0 K dX7_scroll_42 ?_
  refine x_iconst K dX7_scroll_43 ?_
  refine x_iconst K dX7_scroll_44 ?_
  refine x_iconst K dX7_scroll_45 ?_
  refine x_callV3 K (c7_refuse 2 1 5) mtX7_refuse miX7_refuse rc14 ⟨by decide, (by decide)⟩ lkRX7_128 ⟨by decide, by decide, by decide⟩ rfl (Nat.le_of_ble_eq_true rfl) dX7_scroll_46 ?_
  exact x_iret K hE rfl dX7_scroll_49 (by decide) (by decide) rfl rfl
