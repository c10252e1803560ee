/-! ===== the JDK's members over builders and strings of the law's own ===== -/
theorem gSt_rcv {X : gM} {E : gE} {M : gMt} {D n : Nat} {σ : gS} (K : gK X E M D n) {z k : Nat} {f : Nat → Int} {l : List Nat} (h : gSt E σ z k f l) : gRcv X E σ "java/lang/String" z := by
  rcases h with ⟨v, s1, s2, s3, s4⟩ | ⟨i, v, w, h1, h2, h3, h4, h5, h6, h7⟩
  · exact gRcv_c K s4
  · exact gRcv_34 K h3
section GX
variable {X : gM} {E : gE} {M : gMt} {D n cells slots pc : Nat} {L : List (Option gV)} {st : List gV} {σ σ' : gS}
theorem x_sCod (K : gK X E M D n) {z k idx : Nat} {f : Nat → Int} {l : List Nat} (h : gSt E σ z k f l) (hf : bF M.1.cls idx 6 1 .byte true) (hl : Cond.fieldLink M.1.cls idx "java/lang/String" "coder" "B" ∈ lw_tbl) (d : decode M.2.1 pc = .ok (.getfield idx, 3)) (kk : gWX X E cells slots (pc + 3) L (iv 0 :: st) σ) : gWX X E cells slots pc L (.inl (.ref z) :: st) σ := by
  rcases h with ⟨v, s1, s2, s3, s4⟩ | ⟨i, v, w, h1, h2, h3, h4, h5, h6, h7⟩
  · exact x_getK K s1 hl d kk
  · refine x_get34I K (slot := 0) h3 hf d ?_
    rw [h6]
    exact kk
theorem x_sVal (K : gK X E M D n) {z k idx : Nat} {f : Nat → Int} {l : List Nat} (h : gSt E σ z k f l) (hf : bF M.1.cls idx 6 0 (.array .byte) true) (hl : Cond.fieldLink M.1.cls idx "java/lang/String" "value" "[B" ∈ lw_tbl) (d : decode M.2.1 pc = .ok (.getfield idx, 3)) (kk : ∀ v : Nat, gBy E σ v k f → gWX X E cells slots (pc + 3) L (.inl (.ref v) :: st) σ) : gWX X E cells slots pc L (.inl (.ref z) :: st) σ := by
  rcases h with ⟨v, s1, s2, s3, s4⟩ | ⟨i, v, w, h1, h2, h3, h4, h5, h6, h7⟩
  · exact x_getK K s2 hl d (kk v (Or.inl s3))
  · exact x_get34V K h3 h5 hf d (kk v (Or.inr ⟨w, h4, h7⟩))
end GX
theorem xJ0_coder {E : gE} {σ : gS} {z n : Nat} {f : Nat → Int} {l : List Nat} (h : gSt E σ z n f l) : gCt E mJ0_coder_7d493 1 0 [.inl (.ref z)] σ (.inl (some (iv (0)))) σ := by
  refine gCt_of (L := [some (.inl (.ref z))]) (by decide +kernel) rfl rfl (Nat.le_of_ble_eq_true rfl) (fun X K hE => ?_)
  refine x_getsV K (g_mem 283 (by decide +kernel)) (g_mem 8 (by decide +kernel)) (g_mem 971 (by decide +kernel)) (gCS K.2.2.2.2.1) dJ0_coder_7d493_0 ?_
  refine x_if_eq (tgt := 13) K (by omega) dJ0_coder_7d493_3 (by decide) (fun h3 => absurd h3 (by omega)) (fun h3 => ?_)
  refine x_aloadc_0 K dJ0_coder_7d493_6 ?_
  refine x_sCod K h bf_s1 (g_mem 1088 (by decide +kernel)) dJ0_coder_7d493_7 ?_
  refine x_goto (tgt := 14) K dJ0_coder_7d493_10 (by decide) ?_
  exact x_bret0 K hE rfl dJ0_coder_7d493_14 (by first | decide | omega) (by first | decide | omega) ⟨rfl, rfl⟩ rfl
theorem xJ0_isLatin1 {E : gE} {σ : gS} {z n : Nat} {f : Nat → Int} {l : List Nat} (h : gSt E σ z n f l) : gCt E mJ0_isLatin1_aae02 1 0 [.inl (.ref z)] σ (.inl (some (iv (1)))) σ := by
  refine gCt_of (L := [some (.inl (.ref z))]) (by decide +kernel) rfl rfl (Nat.le_of_ble_eq_true rfl) (fun X K hE => ?_)
  refine x_getsV K (g_mem 283 (by decide +kernel)) (g_mem 8 (by decide +kernel)) (g_mem 971 (by decide +kernel)) (gCS K.2.2.2.2.1) dJ0_isLatin1_aae02_0 ?_
  refine x_if_eq (tgt := 17) K (by omega) dJ0_isLatin1_aae02_3 (by decide) (fun h3 => absurd h3 (by omega)) (fun h3 => ?_)
  refine x_aloadc_0 K dJ0_isLatin1_aae02_6 ?_
  refine x_sCod K h bf_s1 (g_mem 1088 (by decide +kernel)) dJ0_isLatin1_aae02_7 ?_
  refine x_if_ne (tgt := 17) K (by omega) dJ0_isLatin1_aae02_10 (by decide) (fun h10 => absurd rfl h10) (fun h10 => ?_)
  refine x_iconst K dJ0_isLatin1_aae02_13 ?_
  refine x_goto (tgt := 18) K dJ0_isLatin1_aae02_14 (by decide) ?_
  exact x_zret K hE rfl dJ0_isLatin1_aae02_18 (by first | decide | omega) (by first | decide | omega) (by omega) rfl rfl
theorem xJ0_length {E : gE} {σ : gS} {z n : Nat} {f : Nat → Int} {l : List Nat} (h : gSt E σ z n f l) : gCt E mJ0_length_8abf5 2 0 [.inl (.ref z)] σ (.inl (some (iv ((n : Int))))) σ := by
  refine gCt_of (L := [some (.inl (.ref z))]) (by decide +kernel) rfl rfl (Nat.le_of_ble_eq_true rfl) (fun X K hE => ?_)
  refine x_aloadc_0 K dJ0_length_8abf5_0 ?_
  refine x_sVal K h bf_s0 (g_mem 1087 (by decide +kernel)) dJ0_length_8abf5_1 (fun v0 v0b => ?_)
  refine x_alenB K v0b dJ0_length_8abf5_4 ?_
  refine x_aloadc_0 K dJ0_length_8abf5_5 ?_
  refine x_callY0 K (xJ0_coder h) mtJ0_coder_7d493 miJ0_coder_7d493 (gSt_rcv K h) lkRJ0_335 ⟨by omega, by omega, by omega⟩ rfl (Nat.le_of_ble_eq_true rfl) dJ0_length_8abf5_6 ?_
  refine x_ishr0 K dJ0_length_8abf5_9 ?_
  exact x_iret K hE rfl dJ0_length_8abf5_10 (by first | decide | omega) (by first | decide | omega) rfl rfl
theorem xJ1_charAt {E : gE} {σ : gS} {v n : Nat} {f : Nat → Int} (h : gBy E σ v n f) (hn : n ≤ 60) (hb : ∀ j, j < n → 0 ≤ f j ∧ f j < 128) (j : Nat) (hj : j < n) : gCt E mJ1_charAt_3b067 3 0 [.inl (.ref v), iv (j : Int)] σ (.inl (some (iv (f j)))) σ := by
  refine gCt_of (L := [some (.inl (.ref v)), some (iv (j : Int))]) (by decide +kernel) rfl rfl (Nat.le_of_ble_eq_true rfl) (fun X K hE => ?_)
  have hb1 := hb j hj
  refine x_iload_1 K dJ1_charAt_3b067_0 ?_
  refine x_aloadc_0 K dJ1_charAt_3b067_1 ?_
  refine x_alenB K h dJ1_charAt_3b067_2 ?_
  refine x_callS2v K (cJ0_checkIndex j n hj hn) mtJ0_checkIndex_df160 msJ0_checkIndex_df160 lkRJ1_9 ⟨by decide, by decide, by decide⟩ rfl (Nat.le_of_ble_eq_true rfl) dJ1_charAt_3b067_3 ?_
  refine x_aloadc_0 K dJ1_charAt_3b067_6 ?_
  refine x_iload_1 K dJ1_charAt_3b067_7 ?_
  refine x_baldB K h j rfl hj hn dJ1_charAt_3b067_8 ?_
  refine x_sipush K dJ1_charAt_3b067_9 rfl ?_
  refine x_and255 K dJ1_charAt_3b067_12 ?_
  refine x_i2c K dJ1_charAt_3b067_13 ?_
  exact x_cret K hE rfl dJ1_charAt_3b067_14 (by first | decide | omega) (by first | decide | omega) (by omega) (by omega) rfl
theorem xJ0_charAt {E : gE} {σ : gS} {z n : Nat} {f : Nat → Int} {l : List Nat} (h : gSt E σ z n f l) (hn : n ≤ 60) (hb : ∀ j, j < n → 0 ≤ f j ∧ f j < 128) (j : Nat) (hj : j < n) : gCt E mJ0_charAt_5068e 4 0 [.inl (.ref z), iv (j : Int)] σ (.inl (some (iv (f j)))) σ := by
  refine gCt_of (L := [some (.inl (.ref z)), some (iv (j : Int))]) (by decide +kernel) rfl rfl (Nat.le_of_ble_eq_true rfl) (fun X K hE => ?_)
  have hb1 := hb j hj
  refine x_aloadc_0 K dJ0_charAt_5068e_0 ?_
  refine x_callY0 K (xJ0_isLatin1 h) mtJ0_isLatin1_aae02 miJ0_isLatin1_aae02 (gSt_rcv K h) lkRJ0_492 ⟨by omega, by omega, by omega⟩ rfl (Nat.le_of_ble_eq_true rfl) dJ0_charAt_5068e_1 ?_
  refine x_if_eq (tgt := 16) K (by omega) dJ0_charAt_5068e_4 (by decide) (fun h4 => absurd h4 (by omega)) (fun h4 => ?_)
  refine x_aloadc_0 K dJ0_charAt_5068e_7 ?_
  refine x_sVal K h bf_s0 (g_mem 1087 (by decide +kernel)) dJ0_charAt_5068e_8 (fun v0 v0b => ?_)
  refine x_iload_1 K dJ0_charAt_5068e_11 ?_
  refine x_callS2 K (xJ1_charAt v0b hn hb j hj) mtJ1_charAt_3b067 msJ1_charAt_3b067 lkRJ0_495 ⟨by decide, by decide, by decide⟩ rfl (Nat.le_of_ble_eq_true rfl) dJ0_charAt_5068e_12 ?_
  exact x_cret K hE rfl dJ0_charAt_5068e_15 (by first | decide | omega) (by first | decide | omega) (by omega) rfl rfl
theorem xJ0_getBytes {E : gE} {σ : gS} {z n : Nat} {f : Nat → Int} {l : List Nat} (h : gSt E σ z n f l) {v w m dp : Nat} (hx : (v, 32, w, m) ∈ gX E) (hn : n ≤ 60 ∧ m ≤ 60) (hd : dp + n ≤ m) (hb : ∀ j, j < n → 0 ≤ f j ∧ f j < 128) : gCt E mJ0_getBytes_840e7 2 0 [.inl (.ref z), .inl (.ref v), iv (dp : Int), iv 0] σ (.inl none) (gCb σ w dp n f) := by
  refine gCt_of (L := [some (.inl (.ref z)), some (.inl (.ref v)), some (iv (dp : Int)), some (iv 0)]) (by decide +kernel) rfl rfl (Nat.le_of_ble_eq_true rfl) (fun X K hE => ?_)
  refine x_aloadc_0 K dJ0_getBytes_840e7_0 ?_
  refine x_callY0 K (xJ0_coder h) mtJ0_coder_7d493 miJ0_coder_7d493 (gSt_rcv K h) lkRJ0_335 ⟨by omega, by omega, by omega⟩ rfl (Nat.le_of_ble_eq_true rfl) dJ0_getBytes_840e7_1 ?_
  refine x_iload_3 K dJ0_getBytes_840e7_4 ?_
  refine x_icmp_ne (tgt := 28) K (by omega) dJ0_getBytes_840e7_5 (by decide) (fun h5 => absurd rfl h5) (fun h5 => ?_)
  refine x_aloadc_0 K dJ0_getBytes_840e7_8 ?_
  refine x_sVal K h bf_s0 (g_mem 1087 (by decide +kernel)) dJ0_getBytes_840e7_9 (fun v0 v0b => ?_)
  refine x_iconst K dJ0_getBytes_840e7_12 ?_
  refine x_aloadc_1 K dJ0_getBytes_840e7_13 ?_
  refine x_iload_2 K dJ0_getBytes_840e7_14 ?_
  refine x_iload_3 K dJ0_getBytes_840e7_15 ?_
  refine x_ishl0 K dJ0_getBytes_840e7_16 ?_
  refine x_aloadc_0 K dJ0_getBytes_840e7_17 ?_
  refine x_sVal K h bf_s0 (g_mem 1087 (by decide +kernel)) dJ0_getBytes_840e7_18 (fun v1 v1b => ?_)
  refine x_alenB K v1b dJ0_getBytes_840e7_21 ?_
  refine x_copyB K dp n rfl rfl rfl rfl v0b hx hn (Nat.le_refl _) hd (fun j hj => by have := hb j hj; omega) (g_mem 1004 (by decide +kernel)) g_acopy ⟨by decide, (Nat.le_of_ble_eq_true rfl)⟩ dJ0_getBytes_840e7_22 ?_
  refine x_goto (tgt := 43) K dJ0_getBytes_840e7_25 (by decide) ?_
  exact x_vret K hE rfl dJ0_getBytes_840e7_43 (by first | decide | omega) (by first | decide | omega) rfl
theorem xJ5_isLatin1 {E : gE} {σ : gS} {a i v w m n : Nat} {f : Nat → Int} (h : gSB E σ a i v w m n f) : gCt E mJ5_isLatin1_aae02 1 0 [.inl (.ref a)] σ (.inl (some (iv (1)))) σ := by
  refine gCt_of (L := [some (.inl (.ref a))]) (by decide +kernel) rfl rfl (Nat.le_of_ble_eq_true rfl) (fun X K hE => ?_)
  obtain ⟨h1, h2, h3, h4, h5, h6, h7, h8, h9⟩ := h
  refine x_getsV K (g_mem 283 (by decide +kernel)) (g_mem 8 (by decide +kernel)) (g_mem 282 (by decide +kernel)) (gCS K.2.2.2.2.1) dJ5_isLatin1_aae02_0 ?_
  refine x_if_eq (tgt := 17) K (by omega) dJ5_isLatin1_aae02_3 (by decide) (fun h3 => absurd h3 (by omega)) (fun h3 => ?_)
  refine x_aloadc_0 K dJ5_isLatin1_aae02_6 ?_
  refine x_get33I K (slot := 0) h1 bf_b1 dJ5_isLatin1_aae02_7 ?_
  refine gWX.top (b := 0) h4 ?_
  refine x_if_ne (tgt := 17) K (by omega) dJ5_isLatin1_aae02_10 (by decide) (fun h10 => absurd rfl h10) (fun h10 => ?_)
  refine x_iconst K dJ5_isLatin1_aae02_13 ?_
  refine x_goto (tgt := 18) K dJ5_isLatin1_aae02_14 (by decide) ?_
  exact x_zret K hE rfl dJ5_isLatin1_aae02_18 (by first | decide | omega) (by first | decide | omega) (by omega) rfl rfl
theorem xJ5_length {E : gE} {σ : gS} {a i v w m n : Nat} {f : Nat → Int} (h : gSB E σ a i v w m n f) : gCt E mJ5_length_8abf5 1 0 [.inl (.ref a)] σ (.inl (some (iv ((n : Int))))) σ := by
  refine gCt_of (L := [some (.inl (.ref a))]) (by decide +kernel) rfl rfl (Nat.le_of_ble_eq_true rfl) (fun X K hE => ?_)
  obtain ⟨h1, h2, h3, h4, h5, h6, h7, h8, h9⟩ := h
  refine x_aloadc_0 K dJ5_length_8abf5_0 ?_
  refine x_get33I K (slot := 2) h1 bf_b3 dJ5_length_8abf5_1 ?_
  refine gWX.top (b := (n : Int)) h5 ?_
  exact x_iret K hE rfl dJ5_length_8abf5_4 (by first | decide | omega) (by first | decide | omega) rfl rfl
theorem xJ4_length {E : gE} {σ : gS} {a i v w m n : Nat} {f : Nat → Int} (h : gSB E σ a i v w m n f) : gCt E mJ4_length_8abf5 2 0 [.inl (.ref a)] σ (.inl (some (iv ((n : Int))))) σ := by
  refine gCt_of (L := [some (.inl (.ref a))]) (by decide +kernel) rfl rfl (Nat.le_of_ble_eq_true rfl) (fun X K hE => ?_)
  refine x_aloadc_0 K dJ4_length_8abf5_0 ?_
  refine x_callIx0 K (C := "java/lang/StringBuilder") (xJ5_length h) mtJ5_length_8abf5 ⟨(g_mem 1050 (by decide +kernel)), (g_mem 304 (by decide +kernel)), (g_mem 1049 (by decide +kernel)), by decide +kernel⟩ (gRcv_33 K h.1) (gAt_33 K) (g_mem 1054 (by decide +kernel)) ⟨by omega, by omega, by omega⟩ rfl (Nat.le_of_ble_eq_true rfl) dJ4_length_8abf5_1 ?_
  exact x_iret K hE rfl dJ4_length_8abf5_4 (by first | decide | omega) (by first | decide | omega) rfl rfl
theorem xJ5_getValue {E : gE} {σ : gS} {a i v w m n : Nat} {f : Nat → Int} (h : gSB E σ a i v w m n f) : gCt E mJ5_getValue_6d5f1 1 0 [.inl (.ref a)] σ (.inl (some (.inl (.ref v)))) σ := by
  refine gCt_of (L := [some (.inl (.ref a))]) (by decide +kernel) rfl rfl (Nat.le_of_ble_eq_true rfl) (fun X K hE => ?_)
  obtain ⟨h1, h2, h3, h4, h5, h6, h7, h8, h9⟩ := h
  refine x_aloadc_0 K dJ5_getValue_6d5f1_0 ?_
  refine x_get33V K h1 h3 bf_b0 dJ5_getValue_6d5f1_1 ?_
  exact x_aretcA K hE rfl dJ5_getValue_6d5f1_4 (by first | decide | omega) (by first | decide | omega) rfl
theorem xJ5_charAt {E : gE} {σ : gS} {a i v w m n : Nat} {f : Nat → Int} (h : gSB E σ a i v w m n f) (j : Nat) (hj : j < n) (hb : 0 ≤ f j ∧ f j < 128) : gCt E mJ5_charAt_5068e 3 0 [.inl (.ref a), iv (j : Int)] σ (.inl (some (iv (f j)))) σ := by
  refine gCt_of (L := [some (.inl (.ref a)), some (iv (j : Int)), none, none, none]) (by decide +kernel) rfl rfl (Nat.le_of_ble_eq_true rfl) (fun X K hE => ?_)
  obtain ⟨h1, h2, h3, h4, h5, h6, h7, h8, h9⟩ := h
  refine x_aloadc_0 K dJ5_charAt_5068e_0 ?_
  refine x_get33I K (slot := 0) h1 bf_b1 dJ5_charAt_5068e_1 ?_
  refine gWX.top (b := 0) h4 ?_
  refine x_istore_2 K dJ5_charAt_5068e_4 rfl ?_
  refine x_aloadc_0 K dJ5_charAt_5068e_5 ?_
  refine x_get33V K h1 h3 bf_b0 dJ5_charAt_5068e_6 ?_
  refine x_astorec_3 K dJ5_charAt_5068e_9 rfl ?_
  refine x_aloadc_0 K dJ5_charAt_5068e_10 ?_
  refine x_get33I K (slot := 2) h1 bf_b3 dJ5_charAt_5068e_11 ?_
  refine gWX.top (b := (n : Int)) h5 ?_
  refine x_aloadc_3 K dJ5_charAt_5068e_14 ?_
  refine x_alenBx K h2 dJ5_charAt_5068e_15 ?_
  refine x_iload_2 K dJ5_charAt_5068e_16 ?_
  refine x_ishr0 K dJ5_charAt_5068e_17 ?_
  refine x_mmin K rfl (by omega) (g_mem 1196 (by decide +kernel)) g_min ⟨by decide, (Nat.le_of_ble_eq_true rfl)⟩ ⟨by decide, by decide⟩ dJ5_charAt_5068e_18 ?_
  refine gWX.top (b := (n : Int)) (by omega) ?_
  refine x_istore_4 K dJ5_charAt_5068e_21 rfl ?_
  refine x_iload_1 K dJ5_charAt_5068e_23 ?_
  refine x_iload_4 K dJ5_charAt_5068e_24 ?_
  refine x_callS2v K (cJ0_checkIndex j n hj (by omega)) mtJ0_checkIndex_df160 msJ0_checkIndex_df160 lkRJ5_144 ⟨by decide, by decide, by decide⟩ rfl (Nat.le_of_ble_eq_true rfl) dJ5_charAt_5068e_26 ?_
  refine x_iload_2 K dJ5_charAt_5068e_29 ?_
  refine x_if_ne (tgt := 42) K (by omega) dJ5_charAt_5068e_30 (by decide) (fun h30 => absurd rfl h30) (fun h30 => ?_)
  refine x_aloadc_3 K dJ5_charAt_5068e_33 ?_
  refine x_iload_1 K dJ5_charAt_5068e_34 ?_
  refine x_baldB K (f := σ.1 32 w) (Or.inr ⟨w, h2, fun _ _ => rfl⟩) j rfl (by omega) h7 dJ5_charAt_5068e_35 ?_
  refine gWX.top (b := f j) (h8 j hj) ?_
  refine x_sipush K dJ5_charAt_5068e_36 rfl ?_
  refine x_and255 K dJ5_charAt_5068e_39 ?_
  refine x_i2c K dJ5_charAt_5068e_40 ?_
  exact x_cret K hE rfl dJ5_charAt_5068e_41 (by first | decide | omega) (by first | decide | omega) (by omega) (by omega) rfl
theorem xJ4_charAt {E : gE} {σ : gS} {a i v w m n : Nat} {f : Nat → Int} (h : gSB E σ a i v w m n f) (j : Nat) (hj : j < n) (hb : 0 ≤ f j ∧ f j < 128) : gCt E mJ4_charAt_5068e 4 0 [.inl (.ref a), iv (j : Int)] σ (.inl (some (iv (f j)))) σ := by
  refine gCt_of (L := [some (.inl (.ref a)), some (iv (j : Int))]) (by decide +kernel) rfl rfl (Nat.le_of_ble_eq_true rfl) (fun X K hE => ?_)
  refine x_aloadc_0 K dJ4_charAt_5068e_0 ?_
  refine x_iload_1 K dJ4_charAt_5068e_1 ?_
  refine x_callIx1 K (C := "java/lang/StringBuilder") (xJ5_charAt h j hj hb) mtJ5_charAt_5068e ⟨(g_mem 1411 (by decide +kernel)), (g_mem 304 (by decide +kernel)), (g_mem 1194 (by decide +kernel)), by decide +kernel⟩ (gRcv_33 K h.1) (gAt_33 K) (g_mem 1193 (by decide +kernel)) ⟨by omega, by omega, by omega⟩ rfl (Nat.le_of_ble_eq_true rfl) dJ4_charAt_5068e_2 ?_
  exact x_cret K hE rfl dJ4_charAt_5068e_5 (by first | decide | omega) (by first | decide | omega) (by omega) rfl rfl
theorem xJ5_inflateIfNeededFor {E : gE} {σ : gS} {a i v w m n : Nat} {f : Nat → Int} (h : gSB E σ a i v w m n f) {z k : Nat} {g : Nat → Int} {l : List Nat} (hs : gSt E σ z k g l) : gCt E mJ5_inflateIfNeededFor_a7421 2 0 [.inl (.ref a), .inl (.ref z)] σ (.inl none) σ := by
  refine gCt_of (L := [some (.inl (.ref a)), some (.inl (.ref z))]) (by decide +kernel) rfl rfl (Nat.le_of_ble_eq_true rfl) (fun X K hE => ?_)
  obtain ⟨h1, h2, h3, h4, h5, h6, h7, h8, h9⟩ := h
  refine x_getsV K (g_mem 283 (by decide +kernel)) (g_mem 8 (by decide +kernel)) (g_mem 282 (by decide +kernel)) (gCS K.2.2.2.2.1) dJ5_inflateIfNeededFor_a7421_0 ?_
  refine x_if_eq (tgt := 21) K (by omega) dJ5_inflateIfNeededFor_a7421_3 (by decide) (fun h3 => absurd h3 (by omega)) (fun h3 => ?_)
  refine x_aloadc_0 K dJ5_inflateIfNeededFor_a7421_6 ?_
  refine x_get33I K (slot := 0) h1 bf_b1 dJ5_inflateIfNeededFor_a7421_7 ?_
  refine gWX.top (b := 0) h4 ?_
  refine x_aloadc_1 K dJ5_inflateIfNeededFor_a7421_10 ?_
  refine x_callY0 K (xJ0_coder hs) mtJ0_coder_7d493 miJ0_coder_7d493 (gSt_rcv K hs) lkRJ5_40 ⟨by omega, by omega, by omega⟩ rfl (Nat.le_of_ble_eq_true rfl) dJ5_inflateIfNeededFor_a7421_11 ?_
  refine x_icmp_eq (tgt := 21) K (by omega) dJ5_inflateIfNeededFor_a7421_14 (by decide) (fun h14 => ?_) (fun h14 => absurd rfl h14)
  exact x_vret K hE rfl dJ5_inflateIfNeededFor_a7421_21 (by first | decide | omega) (by first | decide | omega) rfl
theorem xJ5_putStringAt {E : gE} {σ : gS} {a i v w m n : Nat} {f : Nat → Int} (h : gSB E σ a i v w m n f) {z k : Nat} {g : Nat → Int} {l : List Nat} (hs : gSt E σ z k g l) (hk : n + k ≤ m) (hb : ∀ j, j < k → 0 ≤ g j ∧ g j < 128) : gCt E mJ5_putStringAt_47b60 3 0 [.inl (.ref a), iv (n : Int), .inl (.ref z)] σ (.inl none) (gCb σ w n k g) := by
  refine gCt_of (L := [some (.inl (.ref a)), some (iv (n : Int)), some (.inl (.ref z))]) (by decide +kernel) rfl rfl (Nat.le_of_ble_eq_true rfl) (fun X K hE => ?_)
  have hsb := h
  obtain ⟨h1, h2, h3, h4, h5, h6, h7, h8, h9⟩ := h
  refine x_aloadc_0 K dJ5_putStringAt_47b60_0 ?_
  refine x_aloadc_2 K dJ5_putStringAt_47b60_1 ?_
  refine x_callUx1v K (x := ⟨"java/lang/AbstractStringBuilder", "inflateIfNeededFor", "(Ljava/lang/String;)V"⟩) (C := "java/lang/StringBuilder") (xJ5_inflateIfNeededFor hsb hs) mtJ5_inflateIfNeededFor_a7421 ⟨(g_mem 1405 (by decide +kernel)), (gNw_p (x0 := yJ5_isLatin1_aae02) ⟨by decide +kernel, by decide +kernel⟩ rfl (g_mem 935 (by decide +kernel)) (g_mem 933 (by decide +kernel)) (g_mem 977 (by decide +kernel)) (g_mem 978 (by decide +kernel))), (g_mem 978 (by decide +kernel)), rfl⟩ (gRcv_33 K h1) (g_mem 976 (by decide +kernel)) ⟨by omega, by omega, by omega⟩ rfl (Nat.le_of_ble_eq_true rfl) dJ5_putStringAt_47b60_2 ?_
  refine x_aloadc_2 K dJ5_putStringAt_47b60_5 ?_
  refine x_aloadc_0 K dJ5_putStringAt_47b60_6 ?_
  refine x_get33V K h1 h3 bf_b0 dJ5_putStringAt_47b60_7 ?_
  refine x_iload_1 K dJ5_putStringAt_47b60_10 ?_
  refine x_aloadc_0 K dJ5_putStringAt_47b60_11 ?_
  refine x_get33I K (slot := 0) h1 bf_b1 dJ5_putStringAt_47b60_12 ?_
  refine gWX.top (b := 0) h4 ?_
  refine x_callY3v K (xJ0_getBytes hs h2 (by omega) hk hb) mtJ0_getBytes_840e7 miJ0_getBytes_840e7 (gSt_rcv K hs) lkRJ5_399 ⟨by omega, by omega, by omega⟩ rfl (Nat.le_of_ble_eq_true rfl) dJ5_putStringAt_47b60_15 ?_
  exact x_vret K hE rfl dJ5_putStringAt_47b60_18 (by first | decide | omega) (by first | decide | omega) rfl
theorem xJ8_newLength {E : gE} {σ : gS} (m q : Nat) (hm : m ≤ 60) (hq : q ≤ 60) : gCt E mJ8_newLength_cabcc 2 0 [iv (m : Int), iv (q : Int), iv ((m + 2 : Nat) : Int)] σ (.inl (some (iv (((m + max q (m + 2) : Nat) : Int))))) σ := by
  refine gCt_of (L := [some (iv (m : Int)), some (iv (q : Int)), some (iv ((m + 2 : Nat) : Int)), none]) (by decide +kernel) rfl rfl (Nat.le_of_ble_eq_true rfl) (fun X K hE => ?_)
  refine x_iload_0 K dJ8_newLength_cabcc_0 ?_
  refine x_iload_1 K dJ8_newLength_cabcc_1 ?_
  refine x_iload_2 K dJ8_newLength_cabcc_2 ?_
  refine x_mmax K rfl (by omega) (g_mem 914 (by decide +kernel)) g_max ⟨by decide, (Nat.le_of_ble_eq_true rfl)⟩ ⟨by decide, by decide⟩ dJ8_newLength_cabcc_3 ?_
  refine x_iadd K dJ8_newLength_cabcc_6 ?_
  refine gWX.top (b := ((m + max q (m + 2) : Nat) : Int)) (by omega) ?_
  refine x_istore_3 K dJ8_newLength_cabcc_7 rfl ?_
  refine x_iconst K dJ8_newLength_cabcc_8 ?_
  refine x_iload_3 K dJ8_newLength_cabcc_9 ?_
  refine x_icmp_ge (tgt := 21) K (by omega) dJ8_newLength_cabcc_10 (by decide) (fun h10 => absurd h10 (by omega)) (fun h10 => ?_)
  refine x_iload_3 K dJ8_newLength_cabcc_13 ?_
  refine x_ldcI (v := Int32.ofInt 2147483639) K rfl (g_mem 915 (by decide +kernel)) dJ8_newLength_cabcc_14 ?_
  refine x_icmp_gt (tgt := 21) K (by omega) dJ8_newLength_cabcc_16 (by decide) (fun h16 => absurd h16 (by omega)) (fun h16 => ?_)
  refine x_iload_3 K dJ8_newLength_cabcc_19 ?_
  exact x_iret K hE rfl dJ8_newLength_cabcc_20 (by first | decide | omega) (by first | decide | omega) rfl rfl
theorem xJ5_newCapacity {E : gE} {σ : gS} {a i v w m n : Nat} {f : Nat → Int} (h : gSB E σ a i v w m n f) (hm : m = 16) (q : Nat) (hq : 16 < q ∧ q ≤ 34) : gCt E mJ5_newCapacity_0f7a4 3 0 [.inl (.ref a), iv (q : Int)] σ (.inl (some (iv (34)))) σ := by
  refine gCt_of (L := [some (.inl (.ref a)), some (iv (q : Int)), none, none, none, none]) (by decide +kernel) rfl rfl (Nat.le_of_ble_eq_true rfl) (fun X K hE => ?_)
  obtain ⟨h1, h2, h3, h4, h5, h6, h7, h8, h9⟩ := h
  subst hm
  refine x_aloadc_0 K dJ5_newCapacity_0f7a4_0 ?_
  refine x_get33V K h1 h3 bf_b0 dJ5_newCapacity_0f7a4_1 ?_
  refine x_alenBx K h2 dJ5_newCapacity_0f7a4_4 ?_
  refine x_istore_2 K dJ5_newCapacity_0f7a4_5 rfl ?_
  refine x_iload_1 K dJ5_newCapacity_0f7a4_6 ?_
  refine x_aloadc_0 K dJ5_newCapacity_0f7a4_7 ?_
  refine x_get33I K (slot := 0) h1 bf_b1 dJ5_newCapacity_0f7a4_8 ?_
  refine gWX.top (b := 0) h4 ?_
  refine x_ishl0 K dJ5_newCapacity_0f7a4_11 ?_
  refine x_istore_3 K dJ5_newCapacity_0f7a4_12 rfl ?_
  refine x_iload_3 K dJ5_newCapacity_0f7a4_13 ?_
  refine x_iload_2 K dJ5_newCapacity_0f7a4_14 ?_
  refine x_isub K dJ5_newCapacity_0f7a4_15 ?_
  refine gWX.top (b := ((q - 16 : Nat) : Int)) (by omega) ?_
  refine x_istore_4 K dJ5_newCapacity_0f7a4_16 rfl ?_
  refine x_iload_2 K dJ5_newCapacity_0f7a4_18 ?_
  refine x_iload_4 K dJ5_newCapacity_0f7a4_19 ?_
  refine x_iload_2 K dJ5_newCapacity_0f7a4_21 ?_
  refine x_iconst K dJ5_newCapacity_0f7a4_22 ?_
  refine x_aloadc_0 K dJ5_newCapacity_0f7a4_23 ?_
  refine x_get33I K (slot := 0) h1 bf_b1 dJ5_newCapacity_0f7a4_24 ?_
  refine gWX.top (b := 0) h4 ?_
  refine x_ishl0 K dJ5_newCapacity_0f7a4_27 ?_
  refine x_iadd K dJ5_newCapacity_0f7a4_28 ?_
  refine gWX.top (b := ((16 + 2 : Nat) : Int)) (by omega) ?_
  refine x_callS3 K (xJ8_newLength 16 (q - 16) (by omega) (by omega)) mtJ8_newLength_cabcc msJ8_newLength_cabcc lkRJ5_114 ⟨by decide, by decide, by decide⟩ rfl (Nat.le_of_ble_eq_true rfl) dJ5_newCapacity_0f7a4_29 ?_
  refine gWX.top (b := 34) (by omega) ?_
  refine x_istore_5 K dJ5_newCapacity_0f7a4_32 rfl ?_
  refine x_iload_5 K dJ5_newCapacity_0f7a4_34 ?_
  refine x_ldcI (v := Int32.ofInt 2147483647) K rfl (g_mem 919 (by decide +kernel)) dJ5_newCapacity_0f7a4_36 ?_
  refine x_icmp_ne (tgt := 51) K (by omega) dJ5_newCapacity_0f7a4_38 (by decide) (fun h38 => ?_) (fun h38 => absurd h38 (by omega))
  refine x_iload_5 K dJ5_newCapacity_0f7a4_51 ?_
  refine x_aloadc_0 K dJ5_newCapacity_0f7a4_53 ?_
  refine x_get33I K (slot := 0) h1 bf_b1 dJ5_newCapacity_0f7a4_54 ?_
  refine gWX.top (b := 0) h4 ?_
  refine x_ishr0 K dJ5_newCapacity_0f7a4_57 ?_
  exact x_iret K hE rfl dJ5_newCapacity_0f7a4_58 (by first | decide | omega) (by first | decide | omega) rfl rfl
/-- a builder's room, before and behind -/
def gCap (q m m2 : Nat) : Prop := q ≤ m2 ∧ (q ≤ m → m2 = m) ∧ (m2 = m ∨ m2 = 34)
def gQc (E : gE) (σ : gS) (N k : Nat) (f : Nat → Int) : gQt := fun E2 rv σ2 => ∃ v2 w2 : Nat, rv = some (.inl (.ref v2)) ∧ (v2, 32, w2, N) ∈ gX E2 ∧ (∀ x ∈ gX E, x.2.2.1 ≠ w2) ∧ (∀ j, j < k → σ2.1 32 w2 j = f j) ∧ (∀ j, j < N → -128 ≤ σ2.1 32 w2 j ∧ σ2.1 32 w2 j < 128) ∧ gFr E σ σ2 []
theorem gX_new {E E2 : gE} {x : gXd} (h : gX E2 = gX E ++ [x]) : x ∈ gX E2 := by rw [h]; exact List.mem_append_right _ List.mem_cons_self
theorem gQc_of {E : gE} {σ : gS} {N k w2 v2 : Nat} {f : Nat → Int} {E2 : gE} (hm : gMore E E2) (hx : (v2, 32, w2, N) ∈ gX E2) (hf : ∀ x ∈ gX E, x.2.2.1 ≠ w2) (hb : ∀ j, j < k → -128 ≤ f j ∧ f j < 128) : gQc E σ N k f E2 (some (.inl (.ref v2))) (gCb (gNw0 σ 32 w2) w2 0 k f) := by
  have e : ∀ j, (gCb (gNw0 σ 32 w2) w2 0 k f).1 32 w2 j = if j < k then f j else 0 := fun j => by
    rw [gCb_at]
    by_cases q : j < k
    · rw [if_pos ⟨rfl, rfl, by omega, by omega⟩, if_pos q, Nat.sub_zero]
    · rw [if_neg (by omega), if_neg q, gNw0_at, if_pos ⟨rfl, rfl⟩, if_neg (by omega)]
  refine ⟨v2, w2, rfl, hx, hf, fun j hj => (e j).trans (if_pos hj), fun j hj => ?_, ?_⟩
  · rw [e]
    split
    · rename_i q
      exact hb j q
    · decide
  · exact (gFr_n (by omega) hf).tr hm (gFr_c (l := [w2]) (Or.inl List.mem_cons_self)) (fun c hc => Or.inr (by rw [List.mem_singleton.mp hc]; exact hf))
theorem xJ7_copyOf {E : gE} {σ : gS} {v : Nat} {f : Nat → Int} (h : gBy E σ v 16 f) (hb : ∀ j, j < 16 → -128 ≤ f j ∧ f j < 128) : gCtG E mJ7_copyOf_9075b 2 6 [.inl (.ref v), iv 34] σ (gQc E σ 34 16 f) := by
  refine gCtG_of (L := [some (.inl (.ref v)), some (iv 34), none]) (by decide +kernel) rfl rfl (Nat.le_of_ble_eq_true rfl) (fun X K hnm hE => ?_)
  refine x_iload_1 K dJ7_copyOf_9075b_0 ?_
  refine x_aloadc_0 K dJ7_copyOf_9075b_1 ?_
  refine x_alenB K h dJ7_copyOf_9075b_2 ?_
  refine x_icmp_ne (tgt := 14) K (by omega) dJ7_copyOf_9075b_3 (by decide) (fun h3 => ?_) (fun h3 => absurd h3 (by omega))
  refine x_iload_1 K dJ7_copyOf_9075b_14 ?_
  refine x_newB (N := 34) K (by omega) (g_mem 113 (by decide +kernel)) (by omega) (by omega) dJ7_copyOf_9075b_15 (fun v2 w2 E2 hm hx2 hf2 K => ?_)
  have hx3 := gX_new hx2
  have h2 : gBy E2 (gNw0 σ 32 w2) v 16 f := h.kept hm (gFr_n (l := []) (by omega) hf2) rfl
  refine x_astorec_2 K dJ7_copyOf_9075b_17 rfl ?_
  refine x_aloadc_0 K dJ7_copyOf_9075b_18 ?_
  refine x_iconst K dJ7_copyOf_9075b_19 ?_
  refine x_aloadc_2 K dJ7_copyOf_9075b_20 ?_
  refine x_iconst K dJ7_copyOf_9075b_21 ?_
  refine x_aloadc_0 K dJ7_copyOf_9075b_22 ?_
  refine x_alenB K h2 dJ7_copyOf_9075b_23 ?_
  refine x_iload_1 K dJ7_copyOf_9075b_24 ?_
  refine x_mmin K rfl (by omega) (g_mem 930 (by decide +kernel)) g_min ⟨by decide, (Nat.le_of_ble_eq_true rfl)⟩ ⟨by decide, by decide⟩ dJ7_copyOf_9075b_25 ?_
  refine gWX.top (b := ((16 : Nat) : Int)) (by omega) ?_
  refine x_copyB K 0 16 rfl rfl rfl rfl h2 hx3 (by omega) (Nat.le_refl _) (by omega) hb (g_mem 931 (by decide +kernel)) g_acopy ⟨by decide, (Nat.le_of_ble_eq_true rfl)⟩ dJ7_copyOf_9075b_28 ?_
  refine x_aloadc_2 K dJ7_copyOf_9075b_31 ?_
  exact x_aretAG K hm hE rfl dJ7_copyOf_9075b_32 (by first | decide | omega) (by first | decide | omega) (gQc_of hm hx3 hf2 hb)
theorem xJ7_checkLength {E : gE} {σ : gS} (n : Nat) (hn : n ≤ 60) : gCt E mJ7_checkLength_df160 1 0 [iv 0, iv (n : Int)] σ (.inl none) σ := by
  refine gCt_of (L := [some (iv 0), some (iv (n : Int))]) (by decide +kernel) rfl rfl (Nat.le_of_ble_eq_true rfl) (fun X K hE => ?_)
  refine x_iload_1 K dJ7_checkLength_df160_0 ?_
  refine x_iload_0 K dJ7_checkLength_df160_1 ?_
  refine x_icmp_ge (tgt := 37) K (by omega) dJ7_checkLength_df160_2 (by decide) (fun h2 => ?_) (fun h2 => absurd h2 (by omega))
  exact x_vret K hE rfl dJ7_checkLength_df160_37 (by first | decide | omega) (by first | decide | omega) rfl
theorem xJ7_copyOfRangeByte {E : gE} {σ : gS} {v m n : Nat} {f : Nat → Int} (h : gBy E σ v m f) (hn : n < m) (hm6 : m ≤ 34) (hb : ∀ j, j < m → -128 ≤ f j ∧ f j < 128) : gCtG E mJ7_copyOfRangeByte_39247 2 6 [.inl (.ref v), iv 0, iv (n : Int)] σ (gQc E σ n n f) := by
  refine gCtG_of (L := [some (.inl (.ref v)), some (iv 0), some (iv (n : Int)), none, none]) (by decide +kernel) rfl rfl (Nat.le_of_ble_eq_true rfl) (fun X K hnm hE => ?_)
  refine x_iload_1 K dJ7_copyOfRangeByte_39247_0 ?_
  refine x_iload_2 K dJ7_copyOfRangeByte_39247_1 ?_
  refine x_callS2v K (xJ7_checkLength n (by omega)) mtJ7_checkLength_df160 msJ7_checkLength_df160 lkRJ7_343 ⟨by decide, by decide, by decide⟩ rfl (Nat.le_of_ble_eq_true rfl) dJ7_copyOfRangeByte_39247_2 ?_
  refine x_iload_2 K dJ7_copyOfRangeByte_39247_5 ?_
  refine x_iload_1 K dJ7_copyOfRangeByte_39247_6 ?_
  refine x_isub K dJ7_copyOfRangeByte_39247_7 ?_
  refine gWX.top (b := (n : Int)) (by omega) ?_
  refine x_istore_3 K dJ7_copyOfRangeByte_39247_8 rfl ?_
  refine x_iload_3 K dJ7_copyOfRangeByte_39247_9 ?_
  refine x_newB (N := n) K (by omega) (g_mem 113 (by decide +kernel)) (by omega) (by omega) dJ7_copyOfRangeByte_39247_10 (fun v2 w2 E2 hm hx2 hf2 K => ?_)
  have hx3 := gX_new hx2
  have h2 : gBy E2 (gNw0 σ 32 w2) v m f := h.kept hm (gFr_n (l := []) (by omega) hf2) rfl
  refine x_astorec_4 K dJ7_copyOfRangeByte_39247_12 rfl ?_
  refine x_aloadc_0 K dJ7_copyOfRangeByte_39247_14 ?_
  refine x_iload_1 K dJ7_copyOfRangeByte_39247_15 ?_
  refine x_aloadc_4 K dJ7_copyOfRangeByte_39247_16 ?_
  refine x_iconst K dJ7_copyOfRangeByte_39247_18 ?_
  refine x_aloadc_0 K dJ7_copyOfRangeByte_39247_19 ?_
  refine x_alenB K h2 dJ7_copyOfRangeByte_39247_20 ?_
  refine x_iload_1 K dJ7_copyOfRangeByte_39247_21 ?_
  refine x_isub K dJ7_copyOfRangeByte_39247_22 ?_
  refine x_iload_3 K dJ7_copyOfRangeByte_39247_23 ?_
  refine x_mmin K rfl (by omega) (g_mem 930 (by decide +kernel)) g_min ⟨by decide, (Nat.le_of_ble_eq_true rfl)⟩ ⟨by omega, by omega⟩ dJ7_copyOfRangeByte_39247_24 ?_
  refine gWX.top (b := (n : Int)) (by omega) ?_
  refine x_copyB K 0 n rfl rfl rfl rfl h2 hx3 (by omega) (by omega) (by omega) hb (g_mem 931 (by decide +kernel)) g_acopy ⟨by decide, (Nat.le_of_ble_eq_true rfl)⟩ dJ7_copyOfRangeByte_39247_27 ?_
  refine x_aloadc_4 K dJ7_copyOfRangeByte_39247_30 ?_
  exact x_aretAG K hm hE rfl dJ7_copyOfRangeByte_39247_32 (by first | decide | omega) (by first | decide | omega) (gQc_of hm hx3 hf2 (fun j hj => hb j (by omega)))
theorem xJ7_copyOfRange {E : gE} {σ : gS} {v m n : Nat} {f : Nat → Int} (h : gBy E σ v m f) (hn : n < m) (hm6 : m ≤ 34) (hb : ∀ j, j < m → -128 ≤ f j ∧ f j < 128) : gCtG E mJ7_copyOfRange_39247 3 6 [.inl (.ref v), iv 0, iv (n : Int)] σ (gQc E σ n n f) := by
  refine gCtG_of (L := [some (.inl (.ref v)), some (iv 0), some (iv (n : Int))]) (by decide +kernel) rfl rfl (Nat.le_of_ble_eq_true rfl) (fun X K hnm hE => ?_)
  refine x_iload_1 K dJ7_copyOfRange_39247_0 ?_
  refine x_if_ne (tgt := 10) K (by omega) dJ7_copyOfRange_39247_1 (by decide) (fun h1 => absurd rfl h1) (fun h1 => ?_)
  refine x_iload_2 K dJ7_copyOfRange_39247_4 ?_
  refine x_aloadc_0 K dJ7_copyOfRange_39247_5 ?_
  refine x_alenB K h dJ7_copyOfRange_39247_6 ?_
  refine x_icmp_eq (tgt := 17) K (by omega) dJ7_copyOfRange_39247_7 (by decide) (fun h7 => absurd h7 (by omega)) (fun h7 => ?_)
  refine x_aloadc_0 K dJ7_copyOfRange_39247_10 ?_
  refine x_iload_1 K dJ7_copyOfRange_39247_11 ?_
  refine x_iload_2 K dJ7_copyOfRange_39247_12 ?_
  refine x_callS3G K (xJ7_copyOfRangeByte h hn hm6 hb) mtJ7_copyOfRangeByte_39247 msJ7_copyOfRangeByte_39247 lkRJ7_339 ⟨by omega, by omega, by omega⟩ rfl (Nat.le_of_ble_eq_true rfl) dJ7_copyOfRange_39247_13 (fun E2 ev σ2 em eq K => ?_)
  obtain ⟨v2, w2, rfl, eq⟩ := eq
  exact x_aretAG K em hE rfl dJ7_copyOfRange_39247_16 (by first | decide | omega) (by first | decide | omega) ⟨v2, w2, rfl, eq⟩
