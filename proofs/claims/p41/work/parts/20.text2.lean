/-! ===== contracts of the JDK members over constant strings and over the StringBuilder ===== -/
theorem cJ0_coder {E : gE} {σ : gS} (a n : Nat) (b : Nat → Int) (hs : gStr E a n b) (hn : n ≤ 8) (hb : ∀ j, j < n → 0 ≤ b j ∧ b j < 128) : gCt E mJ0_coder_7d493 1 0 [.inl (.ref a)] σ (.inl (some (iv (0)))) σ := by
  refine gCt_of (L := [some (.inl (.ref a))]) (by decide +kernel) rfl rfl (Nat.le_of_ble_eq_true rfl) (fun X K hE => ?_)
  have hN := K.2.2.2.2.1
  obtain ⟨v, s1, s2, s3, s4⟩ := hs
  refine x_getsV K (g_mem 283 (by decide +kernel)) (g_mem 8 (by decide +kernel)) (g_mem 971 (by decide +kernel)) (gCS hN) dJ0_coder_7d493_0 ?_
  refine x_if_eq (tgt := 13) K (by omega) dJ0_coder_7d493_3 (by decide) (fun h3 => absurd h3 (by omega)) (fun h3 => ?_)
  refine x_aloadc_0 K dJ0_coder_7d493_6 ?_
  refine x_getK K s1 (g_mem 1088 (by decide +kernel)) dJ0_coder_7d493_7 ?_
  refine x_goto (tgt := 14) K dJ0_coder_7d493_10 (by decide) ?_
  exact x_bret0 K hE rfl dJ0_coder_7d493_14 (by decide) (by decide) ⟨rfl, rfl⟩ rfl
theorem cJ0_isLatin1 {E : gE} {σ : gS} (a n : Nat) (b : Nat → Int) (hs : gStr E a n b) (hn : n ≤ 8) (hb : ∀ j, j < n → 0 ≤ b j ∧ b j < 128) : gCt E mJ0_isLatin1_aae02 1 0 [.inl (.ref a)] σ (.inl (some (iv (1)))) σ := by
  refine gCt_of (L := [some (.inl (.ref a))]) (by decide +kernel) rfl rfl (Nat.le_of_ble_eq_true rfl) (fun X K hE => ?_)
  have hN := K.2.2.2.2.1
  obtain ⟨v, s1, s2, s3, s4⟩ := hs
  refine x_getsV K (g_mem 283 (by decide +kernel)) (g_mem 8 (by decide +kernel)) (g_mem 971 (by decide +kernel)) (gCS hN) dJ0_isLatin1_aae02_0 ?_
  refine x_if_eq (tgt := 17) K (by omega) dJ0_isLatin1_aae02_3 (by decide) (fun h3 => absurd h3 (by omega)) (fun h3 => ?_)
  refine x_aloadc_0 K dJ0_isLatin1_aae02_6 ?_
  refine x_getK K s1 (g_mem 1088 (by decide +kernel)) dJ0_isLatin1_aae02_7 ?_
  refine x_if_ne (tgt := 17) K (by omega) dJ0_isLatin1_aae02_10 (by decide) (fun h10 => absurd rfl h10) (fun h10 => ?_)
  refine x_iconst K dJ0_isLatin1_aae02_13 ?_
  refine x_goto (tgt := 18) K dJ0_isLatin1_aae02_14 (by decide) ?_
  exact x_zret K hE rfl dJ0_isLatin1_aae02_18 (by decide) (by decide) (by omega) rfl rfl
theorem cJ0_length {E : gE} {σ : gS} (a n : Nat) (b : Nat → Int) (hs : gStr E a n b) (hn : n ≤ 8) (hb : ∀ j, j < n → 0 ≤ b j ∧ b j < 128) : gCt E mJ0_length_8abf5 2 0 [.inl (.ref a)] σ (.inl (some (iv ((n : Int))))) σ := by
  refine gCt_of (L := [some (.inl (.ref a))]) (by decide +kernel) rfl rfl (Nat.le_of_ble_eq_true rfl) (fun X K hE => ?_)
  have hN := K.2.2.2.2.1
  obtain ⟨v, s1, s2, s3, s4⟩ := hs
  refine x_aloadc_0 K dJ0_length_8abf5_0 ?_
  refine x_getK K s2 (g_mem 1087 (by decide +kernel)) dJ0_length_8abf5_1 ?_
  refine x_alenK K s3 dJ0_length_8abf5_4 ?_
  refine x_aloadc_0 K dJ0_length_8abf5_5 ?_
  refine x_callK0 K (cJ0_coder a n b ⟨v, s1, s2, s3, s4⟩ hn hb) mtJ0_coder_7d493 miJ0_coder_7d493 s4 lkRJ0_335 ⟨by decide, by decide, by decide⟩ rfl (Nat.le_of_ble_eq_true rfl) dJ0_length_8abf5_6 ?_
  refine x_ishr0 K dJ0_length_8abf5_9 ?_
  exact x_iret K hE rfl dJ0_length_8abf5_10 (by decide) (by decide) rfl rfl
theorem cJ0_isEmpty {E : gE} {σ : gS} (a n : Nat) (b : Nat → Int) (hs : gStr E a n b) (hn : n ≤ 8) (hb : ∀ j, j < n → 0 ≤ b j ∧ b j < 128) : gCt E mJ0_isEmpty_aae02 1 0 [.inl (.ref a)] σ (.inl (some (iv (gB1 (n = 0))))) σ := by
  refine gCt_of (L := [some (.inl (.ref a))]) (by decide +kernel) rfl rfl (Nat.le_of_ble_eq_true rfl) (fun X K hE => ?_)
  have hN := K.2.2.2.2.1
  obtain ⟨v, s1, s2, s3, s4⟩ := hs
  refine x_aloadc_0 K dJ0_isEmpty_aae02_0 ?_
  refine x_getK K s2 (g_mem 1087 (by decide +kernel)) dJ0_isEmpty_aae02_1 ?_
  refine x_alenK K s3 dJ0_isEmpty_aae02_4 ?_
  refine x_if_ne (tgt := 12) K (by omega) dJ0_isEmpty_aae02_5 (by decide) (fun h5 => ?_) (fun h5 => ?_)
  · refine x_iconst K dJ0_isEmpty_aae02_12 ?_
    exact x_zret K hE rfl dJ0_isEmpty_aae02_13 (by decide) (by decide) (by omega) (by unfold gB1; split <;> omega) rfl
  · refine x_iconst K dJ0_isEmpty_aae02_8 ?_
    refine x_goto (tgt := 13) K dJ0_isEmpty_aae02_9 (by decide) ?_
    exact x_zret K hE rfl dJ0_isEmpty_aae02_13 (by decide) (by decide) (by omega) (by unfold gB1; split <;> omega) rfl
theorem cJ3_checkIndex {E : gE} {σ : gS} (i n : Nat) (q : Value) (h : i < n) (hn : n ≤ 60) (hq : gC1 (some (.inl q)) = true) : gCt E mJ3_checkIndex_8e157 1 0 [iv (i : Int), iv (n : Int), .inl q] σ (.inl (some (iv ((i : Int))))) σ := by
  refine gCt_of (L := [some (iv (i : Int)), some (iv (n : Int)), some (.inl q)]) (by decide +kernel) (by show (true && (true && (gC1 (some (.inl q)) && true))) = true; rw [hq]; rfl) rfl (Nat.le_of_ble_eq_true rfl) (fun X K hE => ?_)
  refine x_iload_0 K dJ3_checkIndex_8e157_0 ?_
  refine x_if_lt (tgt := 9) K (by omega) dJ3_checkIndex_8e157_1 (by decide) (fun h1 => absurd h1 (by omega)) (fun h1 => ?_)
  refine x_iload_0 K dJ3_checkIndex_8e157_4 ?_
  refine x_iload_1 K dJ3_checkIndex_8e157_5 ?_
  refine x_icmp_lt (tgt := 16) K (by omega) dJ3_checkIndex_8e157_6 (by decide) (fun h6 => ?_) (fun h6 => absurd h6 (by omega))
  refine x_iload_0 K dJ3_checkIndex_8e157_16 ?_
  exact x_iret K hE rfl dJ3_checkIndex_8e157_17 (by decide) (by decide) rfl rfl
theorem cJ0_checkIndex {E : gE} {σ : gS} (i n : Nat) (h : i < n) (hn : n ≤ 60) : gCt E mJ0_checkIndex_df160 2 0 [iv (i : Int), iv (n : Int)] σ (.inl none) σ := by
  refine gCt_of (L := [some (iv (i : Int)), some (iv (n : Int))]) (by decide +kernel) rfl rfl (Nat.le_of_ble_eq_true rfl) (fun X K hE => ?_)
  have hN := K.2.2.2.2.1
  obtain ⟨q, hq, hq1⟩ := gSF hN
  refine x_iload_0 K dJ0_checkIndex_df160_0 ?_
  refine x_iload_1 K dJ0_checkIndex_df160_1 ?_
  refine x_getsV K (g_mem 950 (by decide +kernel)) (g_mem 26 (by decide +kernel)) (g_mem 949 (by decide +kernel)) hq dJ0_checkIndex_df160_2 ?_
  refine x_callS3 K (cJ3_checkIndex i n q h hn hq1) mtJ3_checkIndex_8e157 msJ3_checkIndex_8e157 lkRJ0_1059 ⟨by decide, by decide, by decide⟩ rfl (Nat.le_of_ble_eq_true rfl) dJ0_checkIndex_df160_5 ?_
  refine x_pop K dJ0_checkIndex_df160_8 rfl ?_
  exact x_vret K hE rfl dJ0_checkIndex_df160_9 (by decide) (by decide) rfl
theorem cJ1_charAt {E : gE} {σ : gS} (v n : Nat) (b : Nat → Int) (s3 : gT' E .byte v n (fun j => .int (Int32.ofInt (b j)))) (hn : n ≤ 8) (hb : ∀ j, j < n → 0 ≤ b j ∧ b j < 128) (i : Nat) (hi : i < n) : gCt E mJ1_charAt_3b067 3 0 [.inl (.ref v), iv (i : Int)] σ (.inl (some (iv (b i)))) σ := by
  refine gCt_of (L := [some (.inl (.ref v)), some (iv (i : Int))]) (by decide +kernel) rfl rfl (Nat.le_of_ble_eq_true rfl) (fun X K hE => ?_)
  have hb1 := hb i hi
  refine x_iload_1 K dJ1_charAt_3b067_0 ?_
  refine x_aloadc_0 K dJ1_charAt_3b067_1 ?_
  refine x_alenK K s3 dJ1_charAt_3b067_2 ?_
  refine x_callS2v K (cJ0_checkIndex i n hi (by omega)) mtJ0_checkIndex_df160 msJ0_checkIndex_df160 lkRJ1_9 ⟨by decide, by decide, by decide⟩ rfl (Nat.le_of_ble_eq_true rfl) dJ1_charAt_3b067_3 ?_
  refine x_aloadc_0 K dJ1_charAt_3b067_6 ?_
  refine x_iload_1 K dJ1_charAt_3b067_7 ?_
  refine x_baldK K s3 i rfl hi (by omega) dJ1_charAt_3b067_8 ?_
  refine x_sipush K dJ1_charAt_3b067_9 rfl ?_
  refine x_and255 K dJ1_charAt_3b067_12 ?_
  refine x_i2c K dJ1_charAt_3b067_13 ?_
  exact x_cret K hE rfl dJ1_charAt_3b067_14 (by decide) (by decide) (by omega) (by omega) rfl
theorem cJ0_charAt {E : gE} {σ : gS} (a n : Nat) (b : Nat → Int) (hs : gStr E a n b) (hn : n ≤ 8) (hb : ∀ j, j < n → 0 ≤ b j ∧ b j < 128) (i : Nat) (hi : i < n) : gCt E mJ0_charAt_5068e 4 0 [.inl (.ref a), iv (i : Int)] σ (.inl (some (iv (b i)))) σ := by
  refine gCt_of (L := [some (.inl (.ref a)), some (iv (i : Int))]) (by decide +kernel) rfl rfl (Nat.le_of_ble_eq_true rfl) (fun X K hE => ?_)
  have hN := K.2.2.2.2.1
  obtain ⟨v, s1, s2, s3, s4⟩ := hs
  have hb1 := hb i hi
  refine x_aloadc_0 K dJ0_charAt_5068e_0 ?_
  refine x_callK0 K (cJ0_isLatin1 a n b ⟨v, s1, s2, s3, s4⟩ hn hb) mtJ0_isLatin1_aae02 miJ0_isLatin1_aae02 s4 lkRJ0_492 ⟨by decide, by decide, by decide⟩ rfl (Nat.le_of_ble_eq_true rfl) dJ0_charAt_5068e_1 ?_
  refine x_if_eq (tgt := 16) K (by omega) dJ0_charAt_5068e_4 (by decide) (fun h4 => absurd h4 (by omega)) (fun h4 => ?_)
  refine x_aloadc_0 K dJ0_charAt_5068e_7 ?_
  refine x_getK K s2 (g_mem 1087 (by decide +kernel)) dJ0_charAt_5068e_8 ?_
  refine x_iload_1 K dJ0_charAt_5068e_11 ?_
  refine x_callS2 K (cJ1_charAt v n b s3 hn hb i hi) mtJ1_charAt_3b067 msJ1_charAt_3b067 lkRJ0_495 ⟨by decide, by decide, by decide⟩ rfl (Nat.le_of_ble_eq_true rfl) dJ0_charAt_5068e_12 ?_
  exact x_cret K hE rfl dJ0_charAt_5068e_15 (by decide) (by decide) (by omega) rfl rfl
-- not reached: J1_canEncode_9a6ad
theorem cJ1_canEncodeC {E : gE} {σ : gS} (c : Int) (hc : 0 ≤ c ∧ c < 128) : gCt E mJ1_canEncode_fc78d 1 0 [iv c] σ (.inl (some (iv (1)))) σ := by
  refine gCt_of (L := [some (iv c)]) (by decide +kernel) rfl rfl (Nat.le_of_ble_eq_true rfl) (fun X K hE => ?_)
  refine x_iload_0 K dJ1_canEncode_fc78d_0 ?_
  refine x_sipush K dJ1_canEncode_fc78d_1 rfl ?_
  refine x_icmp_gt (tgt := 11) K (by omega) dJ1_canEncode_fc78d_4 (by decide) (fun h4 => absurd h4 (by omega)) (fun h4 => ?_)
  refine x_iconst K dJ1_canEncode_fc78d_7 ?_
  refine x_goto (tgt := 12) K dJ1_canEncode_fc78d_8 (by decide) ?_
  exact x_zret K hE rfl dJ1_canEncode_fc78d_12 (by decide) (by decide) (by omega) rfl rfl
/-- where a letter stands in a constant string, or -1 -/
def gIx (b : Nat → Int) (n : Nat) (c : Int) : Int := gFst (fun j => decide (b j = gI8 c)) 0 n
def gIxr (b : Nat → Int) (n : Nat) (c : Int) : Int := if c < 256 then gIx b n c else -1
theorem gIx_bd (b : Nat → Int) (n : Nat) (c : Int) : -1 ≤ gIx b n c ∧ gIx b n c < (n : Int) := by
  have := gFst_bd (fun j => decide (b j = gI8 c)) n 0
  unfold gIx
  omega
-- not reached: J1_indexOfChar_4cfef
-- not reached: J1_indexOf_4cfef
-- not reached: J0_indexOf_7cf53
-- not reached: J0_indexOf_0f7a4
theorem cJx_ordinal {E : gE} {σ : gS} (a : Nat) (z : Int) (h : gOF' E a "java/lang/Enum" "ordinal" "I" (.int (Int32.ofInt z))) : gCt E mJx29ce0_ordinal_8abf5 1 0 [.inl (.ref a)] σ (.inl (some (iv (z)))) σ := by
  refine gCt_of (L := [some (.inl (.ref a))]) (by decide +kernel) rfl rfl (Nat.le_of_ble_eq_true rfl) (fun X K hE => ?_)
  refine x_aloadc_0 K dJx29ce0_ordinal_8abf5_0 ?_
  refine x_getK K h (g_mem 1432 (by decide +kernel)) dJx29ce0_ordinal_8abf5_1 ?_
  exact x_iret K hE rfl dJx29ce0_ordinal_8abf5_4 (by decide) (by decide) rfl rfl
/-! ===== the StringBuilder: its coder 0, its letters below 128 ===== -/
def gTx (σ : gS) (l : List Int) : gS := (fun a b c => if a = 12 ∧ b = 0 ∧ c = 3 then (l.length : Int) else if a = 13 ∧ b = 0 ∧ c < l.length then l.getD c 0 else σ.1 a b c, σ.2)
theorem gTx_at (σ : gS) (l : List Int) (a b c : Nat) : (gTx σ l).1 a b c = if a = 12 ∧ b = 0 ∧ c = 3 then (l.length : Int) else if a = 13 ∧ b = 0 ∧ c < l.length then l.getD c 0 else σ.1 a b c := rfl
theorem gTx_n (σ : gS) (l : List Int) : (gTx σ l).1 12 0 3 = (l.length : Int) := by
  rw [gTx_at, if_pos ⟨rfl, rfl, rfl⟩]
theorem gTx_0 {σ : gS} (h : σ.1 12 0 3 = 0) : gTx σ [] = σ := gS_ext (fun a b c => by
  rw [gTx_at]
  by_cases q : a = 12 ∧ b = 0 ∧ c = 3
  · rw [if_pos q, q.1, q.2.1, q.2.2, h]; rfl
  · rw [if_neg q, if_neg (fun z => Nat.not_lt_zero _ z.2.2)]) rfl
theorem gTx_1 (σ : gS) (l : List Int) (x : Int) : gU (gU (gTx σ l) 12 0 3 ((l.length : Int) + 1)) 13 0 l.length x = gTx σ (l ++ [x]) := gS_ext (fun a b c => by
  rw [gU_at, gU_at, gTx_at, gTx_at]
  by_cases q : a = 13 ∧ b = 0 ∧ c = l.length
  · rw [if_pos q, if_neg (by omega), if_pos ⟨q.1, q.2.1, by simp; omega⟩, q.2.2]; simp
  · rw [if_neg q]
    by_cases q2 : a = 12 ∧ b = 0 ∧ c = 3
    · rw [if_pos q2, if_pos q2]; simp
    · rw [if_neg q2, if_neg q2, if_neg q2]
      by_cases q3 : a = 13 ∧ b = 0 ∧ c < l.length
      · rw [if_pos q3, if_pos ⟨q3.1, q3.2.1, by simp; omega⟩]
        rw [List.getD_eq_getElem?_getD, List.getD_eq_getElem?_getD, List.getElem?_append_left q3.2.2]
      · rw [if_neg q3, if_neg (fun z => by simp at z; omega)]) rfl
theorem cJ5_isLatin1 {E : gE} {σ : gS} (h1 : σ.1 12 0 1 = 0) : gCt E mJ5_isLatin1_aae02 1 0 [rf 12 0] σ (.inl (some (iv (1)))) σ := by
  refine gCt_of (L := [some (rf 12 0)]) (by decide +kernel) rfl rfl (Nat.le_of_ble_eq_true rfl) (fun X K hE => ?_)
  have hN := K.2.2.2.2.1
  refine x_getsV K (g_mem 283 (by decide +kernel)) (g_mem 8 (by decide +kernel)) (g_mem 282 (by decide +kernel)) (gCS hN) dJ5_isLatin1_aae02_0 ?_
  refine x_if_eq (tgt := 17) K (by omega) dJ5_isLatin1_aae02_3 (by decide) (fun h3 => absurd h3 (by omega)) (fun h3 => ?_)
  refine x_aload_0 K dJ5_isLatin1_aae02_6 ?_
  refine x_getI K gfRJ5_22 ⟨by decide, by decide⟩ dJ5_isLatin1_aae02_7 ?_
  refine x_if_ne (tgt := 17) K (by omega) dJ5_isLatin1_aae02_10 (by decide) (fun h10 => absurd h1 h10) (fun h10 => ?_)
  refine x_iconst K dJ5_isLatin1_aae02_13 ?_
  refine x_goto (tgt := 18) K dJ5_isLatin1_aae02_14 (by decide) ?_
  exact x_zret K hE rfl dJ5_isLatin1_aae02_18 (by decide) (by decide) (by omega) rfl rfl
theorem cJ5_length {E : gE} {σ : gS}  : gCt E mJ5_length_8abf5 1 0 [rf 12 0] σ (.inl (some (iv (σ.1 12 0 3)))) σ := by
  refine gCt_of (L := [some (rf 12 0)]) (by decide +kernel) rfl rfl (Nat.le_of_ble_eq_true rfl) (fun X K hE => ?_)
  refine x_aload_0 K dJ5_length_8abf5_0 ?_
  refine x_getI K gfRJ5_79 ⟨by decide, by decide⟩ dJ5_length_8abf5_1 ?_
  exact x_iret K hE rfl dJ5_length_8abf5_4 (by decide) (by decide) rfl rfl
theorem cJ4_length {E : gE} {σ : gS}  : gCt E mJ4_length_8abf5 2 0 [rf 12 0] σ (.inl (some (iv (σ.1 12 0 3)))) σ := by
  refine gCt_of (L := [some (rf 12 0)]) (by decide +kernel) rfl rfl (Nat.le_of_ble_eq_true rfl) (fun X K hE => ?_)
  refine x_aload_0 K dJ4_length_8abf5_0 ?_
  refine x_callI0 K cJ5_length mtJ5_length_8abf5 ⟨(g_mem 1050 (by decide +kernel)), (g_mem 304 (by decide +kernel)), (g_mem 1049 (by decide +kernel)), by decide +kernel⟩ rc12 ⟨by decide, by decide⟩ (g_mem 1054 (by decide +kernel)) ⟨by decide, by decide, by decide⟩ rfl (Nat.le_of_ble_eq_true rfl) dJ4_length_8abf5_1 ?_
  exact x_iret K hE rfl dJ4_length_8abf5_4 (by decide) (by decide) rfl rfl
theorem cJ5_ensure {E : gE} {σ : gS} (h1 : σ.1 12 0 1 = 0) (m : Int) (hm : 0 ≤ m ∧ m ≤ 16) : gCt E mJ5_ensureCapacityInternal_d00df 1 0 [rf 12 0, iv m] σ (.inl none) σ := by
  refine gCt_of (L := [some (rf 12 0), some (iv m), none]) (by decide +kernel) rfl rfl (Nat.le_of_ble_eq_true rfl) (fun X K hE => ?_)
  refine x_aload_0 K dJ5_ensureCapacityInternal_d00df_0 ?_
  refine x_getC K gfRJ5_15 ⟨by decide, by decide⟩ dJ5_ensureCapacityInternal_d00df_1 ?_
  refine x_alen K rfl ⟨by decide, by decide⟩ dJ5_ensureCapacityInternal_d00df_4 ?_
  refine x_aload_0 K dJ5_ensureCapacityInternal_d00df_5 ?_
  refine x_getI K gfRJ5_22 ⟨by decide, by decide⟩ dJ5_ensureCapacityInternal_d00df_6 ?_
  refine gWX.top (b := 0) h1 ?_
  refine x_ishr0 K dJ5_ensureCapacityInternal_d00df_9 ?_
  refine x_istore_2 K dJ5_ensureCapacityInternal_d00df_10 rfl ?_
  refine x_iload_1 K dJ5_ensureCapacityInternal_d00df_11 ?_
  refine x_iload_2 K dJ5_ensureCapacityInternal_d00df_12 ?_
  refine x_isub K dJ5_ensureCapacityInternal_d00df_13 ?_
  refine x_if_le (tgt := 38) K (by omega) dJ5_ensureCapacityInternal_d00df_14 (by decide) (fun h14 => ?_) (fun h14 => absurd h14 (by omega))
  exact x_vret K hE rfl dJ5_ensureCapacityInternal_d00df_38 (by decide) (by decide) rfl
theorem cJ5_append {E : gE} {σ : gS} (h1 : σ.1 12 0 1 = 0) (k : Nat) (hk : σ.1 12 0 3 = (k : Int)) (hk2 : k < 16) (c : Int) (hc : 0 ≤ c ∧ c < 128) : gCt E mJ5_append_3fe6f 2 0 [rf 12 0, iv c] σ (.inl (some (rf 12 0))) (gU (gU σ 12 0 3 ((k : Int) + 1)) 13 0 k c) := by
  refine gCt_of (L := [some (rf 12 0), some (iv c)]) (by decide +kernel) rfl rfl (Nat.le_of_ble_eq_true rfl) (fun X K hE => ?_)
  refine x_aload_0 K dJ5_append_3fe6f_0 ?_
  refine x_aload_0 K dJ5_append_3fe6f_1 ?_
  refine x_getI K gfRJ5_79 ⟨by decide, by decide⟩ dJ5_append_3fe6f_2 ?_
  refine gWX.top (b := (k : Int)) hk ?_
  refine x_iconst K dJ5_append_3fe6f_5 ?_
  refine x_iadd K dJ5_append_3fe6f_6 ?_
  refine x_callW1v K (x := ⟨"java/lang/AbstractStringBuilder", "ensureCapacityInternal", "(I)V"⟩) (C := "java/lang/StringBuilder") (cJ5_ensure h1 _ (by omega)) mtJ5_ensureCapacityInternal_d00df ⟨(g_mem 1402 (by decide +kernel)), (gNw_p (x0 := yJ5_isLatin1_aae02) ⟨by decide +kernel, by decide +kernel⟩ rfl (g_mem 935 (by decide +kernel)) (g_mem 933 (by decide +kernel)) (g_mem 904 (by decide +kernel)) (g_mem 905 (by decide +kernel))), (g_mem 905 (by decide +kernel)), rfl⟩ rc12 ⟨by decide, by decide⟩ (g_mem 903 (by decide +kernel)) ⟨by decide, by decide, by decide⟩ rfl (Nat.le_of_ble_eq_true rfl) dJ5_append_3fe6f_7 ?_
  refine x_aload_0 K dJ5_append_3fe6f_10 ?_
  refine x_callW0 K (x := ⟨"java/lang/AbstractStringBuilder", "isLatin1", "()Z"⟩) (C := "java/lang/StringBuilder") (cJ5_isLatin1 h1) mtJ5_isLatin1_aae02 ⟨(g_mem 934 (by decide +kernel)), (gNw_w (g_mem 935 (by decide +kernel)) rfl), (g_mem 933 (by decide +kernel)), rfl⟩ rc12 ⟨by decide, by decide⟩ (g_mem 932 (by decide +kernel)) ⟨by decide, by decide, by decide⟩ rfl (Nat.le_of_ble_eq_true rfl) dJ5_append_3fe6f_11 ?_
  refine x_if_eq (tgt := 45) K (by omega) dJ5_append_3fe6f_14 (by decide) (fun h14 => absurd h14 (by omega)) (fun h14 => ?_)
  refine x_iload_1 K dJ5_append_3fe6f_17 ?_
  refine x_callS1 K (cJ1_canEncodeC c hc) mtJ1_canEncode_fc78d msJ1_canEncode_fc78d lkRJ5_191 ⟨by decide, by decide, by decide⟩ rfl (Nat.le_of_ble_eq_true rfl) dJ5_append_3fe6f_18 ?_
  refine x_if_eq (tgt := 45) K (by omega) dJ5_append_3fe6f_21 (by decide) (fun h21 => absurd h21 (by omega)) (fun h21 => ?_)
  refine x_aload_0 K dJ5_append_3fe6f_24 ?_
  refine x_getC K gfRJ5_15 ⟨by decide, by decide⟩ dJ5_append_3fe6f_25 ?_
  refine x_aload_0 K dJ5_append_3fe6f_28 ?_
  refine x_dup K dJ5_append_3fe6f_29 rfl ?_
  refine x_getI K gfRJ5_79 ⟨by decide, by decide⟩ dJ5_append_3fe6f_30 ?_
  refine gWX.top (b := (k : Int)) hk ?_
  refine x_dup_x1 K dJ5_append_3fe6f_33 rfl rfl ?_
  refine x_iconst K dJ5_append_3fe6f_34 ?_
  refine x_iadd K dJ5_append_3fe6f_35 ?_
  refine x_putI K gpRJ5_79 ⟨by decide, by decide⟩ dJ5_append_3fe6f_36 ?_
  refine x_iload_1 K dJ5_append_3fe6f_39 ?_
  refine x_i2b K dJ5_append_3fe6f_40 ?_
  refine gWX.top (b := c) (by unfold gI8; split <;> omega) ?_
  refine x_bast K k rfl rfl ⟨by decide, by decide⟩ (by omega) (by omega) dJ5_append_3fe6f_41 ?_
  refine x_goto (tgt := 75) K dJ5_append_3fe6f_42 (by decide) ?_
  refine x_aload_0 K dJ5_append_3fe6f_75 ?_
  exact x_aret K hE rfl dJ5_append_3fe6f_76 (by decide) (by decide) rfl rfl
theorem cJ4_append {E : gE} {σ : gS} {l : List Int} (h1 : σ.1 12 0 1 = 0) (hk2 : l.length < 16) (c : Int) (hc : 0 ≤ c ∧ c < 128) : gCt E mJ4_append_cf468 3 0 [rf 12 0, iv c] (gTx σ l) (.inl (some (rf 12 0))) (gTx σ (l ++ [c])) := by
  refine gCt_of (L := [some (rf 12 0), some (iv c)]) (by decide +kernel) rfl rfl (Nat.le_of_ble_eq_true rfl) (fun X K hE => ?_)
  refine x_aload_0 K dJ4_append_cf468_0 ?_
  refine x_iload_1 K dJ4_append_cf468_1 ?_
  refine x_callI1 K (cJ5_append (σ := gTx σ l) h1 l.length (gTx_n σ l) hk2 c hc) mtJ5_append_3fe6f ⟨(g_mem 1409 (by decide +kernel)), (g_mem 304 (by decide +kernel)), (g_mem 1164 (by decide +kernel)), by decide +kernel⟩ rc12 ⟨by decide, by decide⟩ (g_mem 1163 (by decide +kernel)) ⟨by decide, by decide, by decide⟩ rfl (Nat.le_of_ble_eq_true rfl) dJ4_append_cf468_2 ?_
  rw [gTx_1]
  refine x_pop K dJ4_append_cf468_5 rfl ?_
  refine x_aload_0 K dJ4_append_cf468_6 ?_
  exact x_aret K hE rfl dJ4_append_cf468_7 (by decide) (by decide) rfl rfl
def gSn0 (σ : gS) : gS := gU (if σ.1 12 0 3 ≤ 0 then σ else gU σ 12 0 2 1) 12 0 3 0
theorem gSn0_at (σ : gS) (a b c : Nat) (h : ¬ (a = 12 ∧ b = 0 ∧ (c = 2 ∨ c = 3))) : (gSn0 σ).1 a b c = σ.1 a b c := by
  unfold gSn0
  rw [gU_at, if_neg (by omega)]
  split
  · rfl
  · rw [gU_at, if_neg (by omega)]
theorem cJ5_setLength {E : gE} {σ : gS} (h1 : σ.1 12 0 1 = 0) (h3 : 0 ≤ σ.1 12 0 3 ∧ σ.1 12 0 3 ≤ 16) : gCt E mJ5_setLength_d00df 2 0 [rf 12 0, iv 0] σ (.inl none) (gSn0 σ) := by
  refine gCt_of (L := [some (rf 12 0), some (iv 0)]) (by decide +kernel) rfl rfl (Nat.le_of_ble_eq_true rfl) (fun X K hE => ?_)
  refine x_iload_1 K dJ5_setLength_d00df_0 ?_
  refine x_if_ge (tgt := 13) K (by omega) dJ5_setLength_d00df_1 (by decide) (fun h1x => ?_) (fun h1x => absurd h1x (by omega))
  refine x_aload_0 K dJ5_setLength_d00df_13 ?_
  refine x_iload_1 K dJ5_setLength_d00df_14 ?_
  refine x_callW1v K (x := ⟨"java/lang/AbstractStringBuilder", "ensureCapacityInternal", "(I)V"⟩) (C := "java/lang/StringBuilder") (cJ5_ensure h1 _ (by omega)) mtJ5_ensureCapacityInternal_d00df ⟨(g_mem 1402 (by decide +kernel)), (gNw_p (x0 := yJ5_isLatin1_aae02) ⟨by decide +kernel, by decide +kernel⟩ rfl (g_mem 935 (by decide +kernel)) (g_mem 933 (by decide +kernel)) (g_mem 904 (by decide +kernel)) (g_mem 905 (by decide +kernel))), (g_mem 905 (by decide +kernel)), rfl⟩ rc12 ⟨by decide, by decide⟩ (g_mem 903 (by decide +kernel)) ⟨by decide, by decide, by decide⟩ rfl (Nat.le_of_ble_eq_true rfl) dJ5_setLength_d00df_15 ?_
  refine x_aload_0 K dJ5_setLength_d00df_18 ?_
  refine x_getI K gfRJ5_79 ⟨by decide, by decide⟩ dJ5_setLength_d00df_19 ?_
  refine x_iload_1 K dJ5_setLength_d00df_22 ?_
  refine x_icmp_ge (tgt := 63) K (by omega) dJ5_setLength_d00df_23 (by decide) (fun h23 => ?_) (fun h23 => absurd h23 (by omega))
  refine x_aload_0 K dJ5_setLength_d00df_63 ?_
  refine x_getI K gfRJ5_79 ⟨by decide, by decide⟩ dJ5_setLength_d00df_64 ?_
  refine x_iload_1 K dJ5_setLength_d00df_67 ?_
  refine x_icmp_le (tgt := 76) K (by omega) dJ5_setLength_d00df_68 (by decide) (fun h68 => ?_) (fun h68 => ?_)
  · refine x_aload_0 K dJ5_setLength_d00df_76 ?_
    refine x_iload_1 K dJ5_setLength_d00df_77 ?_
    refine x_putI K gpRJ5_79 ⟨by decide, by decide⟩ dJ5_setLength_d00df_78 ?_
    exact x_vret K hE rfl dJ5_setLength_d00df_81 (by decide) (by decide) (by unfold gSn0; first | rw [if_pos h68] | rw [if_neg h68])
  · refine x_aload_0 K dJ5_setLength_d00df_71 ?_
    refine x_iconst K dJ5_setLength_d00df_72 ?_
    refine x_putZ K gpRJ5_73 ⟨by decide, by decide⟩ (by omega) dJ5_setLength_d00df_73 ?_
    refine x_aload_0 K dJ5_setLength_d00df_76 ?_
    refine x_iload_1 K dJ5_setLength_d00df_77 ?_
    refine x_putI K gpRJ5_79 ⟨by decide, by decide⟩ dJ5_setLength_d00df_78 ?_
    exact x_vret K hE rfl dJ5_setLength_d00df_81 (by decide) (by decide) (by unfold gSn0; first | rw [if_pos h68] | rw [if_neg h68])
theorem cJ4_setLength {E : gE} {σ : gS} (h1 : σ.1 12 0 1 = 0) (h3 : 0 ≤ σ.1 12 0 3 ∧ σ.1 12 0 3 ≤ 16) : gCt E mJ4_setLength_d00df 3 0 [rf 12 0, iv 0] σ (.inl none) (gSn0 σ) := by
  refine gCt_of (L := [some (rf 12 0), some (iv 0)]) (by decide +kernel) rfl rfl (Nat.le_of_ble_eq_true rfl) (fun X K hE => ?_)
  refine x_aload_0 K dJ4_setLength_d00df_0 ?_
  refine x_iload_1 K dJ4_setLength_d00df_1 ?_
  refine x_callI1v K (cJ5_setLength h1 h3) mtJ5_setLength_d00df ⟨(g_mem 1408 (by decide +kernel)), (g_mem 304 (by decide +kernel)), (g_mem 1108 (by decide +kernel)), by decide +kernel⟩ rc12 ⟨by decide, by decide⟩ (g_mem 1107 (by decide +kernel)) ⟨by decide, by decide, by decide⟩ rfl (Nat.le_of_ble_eq_true rfl) dJ4_setLength_d00df_2 ?_
  exact x_vret K hE rfl dJ4_setLength_d00df_5 (by decide) (by decide) rfl
theorem cJ5_charAt {E : gE} {σ : gS} (h1 : σ.1 12 0 1 = 0) (k : Nat) (hk : σ.1 12 0 3 = (k : Int)) (hk2 : k ≤ 16) (i : Nat) (hi : i < k) (hb : 0 ≤ σ.1 13 0 i ∧ σ.1 13 0 i < 128) : gCt E mJ5_charAt_5068e 3 0 [rf 12 0, iv (i : Int)] σ (.inl (some (iv (σ.1 13 0 i)))) σ := by
  refine gCt_of (L := [some (rf 12 0), some (iv (i : Int)), none, none, none]) (by decide +kernel) rfl rfl (Nat.le_of_ble_eq_true rfl) (fun X K hE => ?_)
  refine x_aload_0 K dJ5_charAt_5068e_0 ?_
  refine x_getI K gfRJ5_22 ⟨by decide, by decide⟩ dJ5_charAt_5068e_1 ?_
  refine gWX.top (b := 0) h1 ?_
  refine x_istore_2 K dJ5_charAt_5068e_4 rfl ?_
  refine x_aload_0 K dJ5_charAt_5068e_5 ?_
  refine x_getC K gfRJ5_15 ⟨by decide, by decide⟩ dJ5_charAt_5068e_6 ?_
  refine x_astore_3 K dJ5_charAt_5068e_9 rfl ?_
  refine x_aload_0 K dJ5_charAt_5068e_10 ?_
  refine x_getI K gfRJ5_79 ⟨by decide, by decide⟩ dJ5_charAt_5068e_11 ?_
  refine gWX.top (b := (k : Int)) hk ?_
  refine x_aload_3 K dJ5_charAt_5068e_14 ?_
  refine x_alen K rfl ⟨by decide, by decide⟩ dJ5_charAt_5068e_15 ?_
  refine x_iload_2 K dJ5_charAt_5068e_16 ?_
  refine x_ishr0 K dJ5_charAt_5068e_17 ?_
  refine x_mmin K rfl (by omega) (g_mem 1196 (by decide +kernel)) g_min ⟨by decide, (Nat.le_of_ble_eq_true rfl)⟩ ⟨by decide, by decide⟩ dJ5_charAt_5068e_18 ?_
  refine gWX.top (b := (k : Int)) (by omega) ?_
  refine x_istore_4 K dJ5_charAt_5068e_21 rfl ?_
  refine x_iload_1 K dJ5_charAt_5068e_23 ?_
  refine x_iload_4 K dJ5_charAt_5068e_24 ?_
  refine x_callS2v K (cJ0_checkIndex i k hi (by omega)) mtJ0_checkIndex_df160 msJ0_checkIndex_df160 lkRJ5_144 ⟨by decide, by decide, by decide⟩ rfl (Nat.le_of_ble_eq_true rfl) dJ5_charAt_5068e_26 ?_
  refine x_iload_2 K dJ5_charAt_5068e_29 ?_
  refine x_if_ne (tgt := 42) K (by omega) dJ5_charAt_5068e_30 (by decide) (fun h30 => absurd rfl h30) (fun h30 => ?_)
  refine x_aload_3 K dJ5_charAt_5068e_33 ?_
  refine x_iload_1 K dJ5_charAt_5068e_34 ?_
  refine x_bald K i rfl rfl ⟨by decide, by decide⟩ (by omega) dJ5_charAt_5068e_35 ?_
  refine x_sipush K dJ5_charAt_5068e_36 rfl ?_
  refine x_and255 K dJ5_charAt_5068e_39 ?_
  refine x_i2c K dJ5_charAt_5068e_40 ?_
  exact x_cret K hE rfl dJ5_charAt_5068e_41 (by decide) (by decide) (by omega) (by omega) rfl
theorem cJ4_charAt {E : gE} {σ : gS} (h1 : σ.1 12 0 1 = 0) (k : Nat) (hk : σ.1 12 0 3 = (k : Int)) (hk2 : k ≤ 16) (i : Nat) (hi : i < k) (hb : 0 ≤ σ.1 13 0 i ∧ σ.1 13 0 i < 128) : gCt E mJ4_charAt_5068e 4 0 [rf 12 0, iv (i : Int)] σ (.inl (some (iv (σ.1 13 0 i)))) σ := by
  refine gCt_of (L := [some (rf 12 0), some (iv (i : Int))]) (by decide +kernel) rfl rfl (Nat.le_of_ble_eq_true rfl) (fun X K hE => ?_)
  refine x_aload_0 K dJ4_charAt_5068e_0 ?_
  refine x_iload_1 K dJ4_charAt_5068e_1 ?_
  refine x_callI1 K (cJ5_charAt h1 k hk hk2 i hi hb) mtJ5_charAt_5068e ⟨(g_mem 1411 (by decide +kernel)), (g_mem 304 (by decide +kernel)), (g_mem 1194 (by decide +kernel)), by decide +kernel⟩ rc12 ⟨by decide, by decide⟩ (g_mem 1193 (by decide +kernel)) ⟨by decide, by decide, by decide⟩ rfl (Nat.le_of_ble_eq_true rfl) dJ4_charAt_5068e_2 ?_
  exact x_cret K hE rfl dJ4_charAt_5068e_5 (by decide) (by decide) (by omega) rfl rfl
