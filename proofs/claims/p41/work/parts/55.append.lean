/-! ===== appending to builders of the law's own, their strings ===== -/
section GO
variable {X : gM} {E : gE} {M : gMt} {D n cells slots pc : Nat} {L : List (Option gV)} {st : List gV} {σ σ' : gS}
theorem gRunO (K : gK X E M D n) {N : gMt} {d n' idx b : Nat} {x : MethodName} {C : String} {v : gV} {as : List gV} {o : gO} {H : Heap} {locs : List Loc} {ls : Array Slot} (hc : gCt E N d n' (v :: as) σ o σ') (hm : gMth N as.length) (hi : Cond.sameMethod x.cls x.cls x.name x.desc ∈ lw_tbl ∧ gNw E (Cond.selects C x N.1) ∧ Cond.instanceMethod N.1 ∈ lw_tbl ∧ x.desc = N.1.desc) (hi2 : Cond.instanceMethod x ∈ lw_tbl) {cb : ByteArray} {cm : Nat} {cr : Option FieldType} (hi3 : Cond.code x cb cm cr ∈ lw_tbl) (hi4 : x.cls ≠ "java/lang/invoke/MethodHandle" ∧ x.cls ≠ "java/lang/invoke/VarHandle") (hv : gc E v = .ref b) (hk : gRcv X E σ C b) (hl : Cond.methodLink M.1.cls idx x ∈ lw_tbl) (hf : gFit D d n cells slots n') (hL : ls.size = M.2.2.1) (hst : gCats st ≤ 8) (hP : va_P (gD E) gCl (gW E σ) H) (hS : va_S (gA E) X.2.2.2.2.1.heap H locs) (dd : decode M.2.1 pc = .ok (.invokevirtual idx, 3)) :
    gRun X E H locs cells slots n' pc ls ((as.map (gc E)).reverse ++ .ref b :: st.map (gc E)) (st.map (gc E)) σ o σ' := by
  have hN := K.2.2.2.2.1
  have hR := K.2.2.2.2.2.2.2.2.2
  have h40 : 8 + (N.2.2.1 + 11) + 64 * d ≤ 64 * D := by have h1 := hm.2.2.2.2; have h2 := hf.1; omega
  unfold gCt at hc
  rw [← K.2.2.2.2.2.2.1, List.map_cons, hv] at hc
  have hW : 2 * (F0 X.2.2.2.2.2.1 pc ls ((as.map (gc E)).reverse ++ .ref b :: st.map (gc E))).monitorRoom + ((st.map (gc E)).map fun v => v.category).sum ≤ 8 := lv_room (Nat.le_trans (gCats_le st) hst)
  have hr : cells + n' ≤ X.2.2.2.1.cells ∧ slots + 6 * n' ≤ X.2.2.2.1.slots := by rw [hR]; exact hf.2
  obtain ⟨cellB, hcB, hoB, hclB⟩ := hk H locs hP hS
  have hxd : x.desc = N.1.desc := hi.2.2.2
  intro T hT Z
  refine gx_run (y := N.1) (Pc := va_Pc (.ref b :: as.map (gc E)) (gI E σ)) hT (gx_callU Z K.1 K.2.2.2.1 (gN_word hN hl rfl _) (gN_any hN hi.1 rfl _) (va_Decl.of (args := #[]) (gN_word hN hi2 rfl _) (gN_word hN hi3 rfl _)) hi4 (hi.2.1 _ _ hN _) (gN_word hN hi.2.2.1 rfl _)
    (vx_back (bytes := N.2.1) (maxL := N.2.2.1) (ret := N.2.2.2) hc gPc_blind rfl rfl (by rw [hR]; exact hf.1) (by rw [hR]; exact h40) (gPay K hm) (List.mem_singleton.mpr rfl) (fun a' U hW => word_at hW (Or.inl rfl) (gN_word hN hm.2.1 rfl #[])))
    (by rw [hT]; exact hcB) hoB hclB rfl (hL.trans K.2.2.1.symm) (argsL := as.map (gc E)) (rest := st.map (gc E)) (fun sig h => by rw [List.length_map]; exact gLen hm sig (by rw [← hxd]; exact h)) rfl hW (by rw [K.2.1]; exact dd)
    (fun vm₁ hW₁ => ⟨hr.1, hr.2, gPc_at K hP hS (T.setVm vm₁) hT hW₁⟩))
theorem x_callO0 (K : gK X E M D n) {N : gMt} {d n' idx a : Nat} {r : gV} (hc : gCt E N d n' (.inl (.ref a) :: []) σ (.inl (some r)) σ') (hm : gMth N 0) {x : MethodName} {C : String} (hi : Cond.sameMethod x.cls x.cls x.name x.desc ∈ lw_tbl ∧ gNw E (Cond.selects C x N.1) ∧ Cond.instanceMethod N.1 ∈ lw_tbl ∧ x.desc = N.1.desc) (hi2 : Cond.instanceMethod x ∈ lw_tbl) {cb : ByteArray} {cm : Nat} {cr : Option FieldType} (hi3 : Cond.code x cb cm cr ∈ lw_tbl) (hi4 : x.cls ≠ "java/lang/invoke/MethodHandle" ∧ x.cls ≠ "java/lang/invoke/VarHandle") (hk : gRcv X E σ C a) (hl : Cond.methodLink M.1.cls idx x ∈ lw_tbl) (hf : gFit D d n cells slots n') (hL : L.length = M.2.2.1) (hst : gCats st ≤ 8) (dd : decode M.2.1 pc = .ok (.invokevirtual idx, 3)) (kk : gWX X E (cells + n') (slots + 6 * n') (pc + 3) L (r :: st) σ') : gWX X E cells slots pc L (.inl (.ref a) :: st) σ :=
  fun H locs ls hP hS hlv => gBack (L := L) (st := st) (gRunO K (v := .inl (.ref a)) (as := []) hc hm hi hi2 hi3 hi4 rfl hk hl hf (hlv.1.trans hL) hst hP hS dd) hS hlv kk
end GO
theorem gUk {σ : gS} {k i j a b c : Nat} {z : Int} (h : a ≠ k) : (gU σ k i j z).1 a b c = σ.1 a b c := if_neg (fun q => h q.1)
theorem gUj {σ : gS} {k i j a b c : Nat} {z : Int} (h : c ≠ j) : (gU σ k i j z).1 a b c = σ.1 a b c := if_neg (fun q => h q.2.2)
theorem gUs {σ : gS} {k i j : Nat} {z : Int} : (gU σ k i j z).1 k i j = z := if_pos ⟨rfl, rfl, rfl⟩
theorem gNk {σ : gS} {k i a b c : Nat} (h : a ≠ k) : (gNw0 σ k i).1 a b c = σ.1 a b c := if_neg (fun q => h q.1)
theorem gBk {σ : gS} {i dp n a b c : Nat} {f : Nat → Int} (h : a ≠ 32) : (gCb σ i dp n f).1 a b c = σ.1 a b c := if_neg (fun q => h q.1)
theorem gNz {σ : gS} {i c : Nat} : (gNw0 σ 32 i).1 32 i c = 0 := (if_pos ⟨rfl, rfl⟩).trans (if_neg (by omega))
abbrev gDg : Term := .static "java/lang/Integer" "DigitOnes" "[B"
theorem gDg_w : Cond.arrayOf gDg .byte ∈ flatC gNar ∧ Cond.eq (.length gDg) (.int (Int32.ofNat 100)) ∈ flatC gNar := by decide +kernel
theorem gDg_e0 : ∀ j, j < 20 → Cond.eq (.elem gDg (.int (Int32.ofNat (0 + j)))) (.int (Int32.ofInt (48 + (((0 + j : Nat) : Int) % 10)))) ∈ flatC gNar := by decide +kernel
theorem gDg_e1 : ∀ j, j < 20 → Cond.eq (.elem gDg (.int (Int32.ofNat (20 + j)))) (.int (Int32.ofInt (48 + (((20 + j : Nat) : Int) % 10)))) ∈ flatC gNar := by decide +kernel
theorem gDg_e2 : ∀ j, j < 20 → Cond.eq (.elem gDg (.int (Int32.ofNat (40 + j)))) (.int (Int32.ofInt (48 + (((40 + j : Nat) : Int) % 10)))) ∈ flatC gNar := by decide +kernel
theorem gDg_e3 : ∀ j, j < 20 → Cond.eq (.elem gDg (.int (Int32.ofNat (60 + j)))) (.int (Int32.ofInt (48 + (((60 + j : Nat) : Int) % 10)))) ∈ flatC gNar := by decide +kernel
theorem gDg_e4 : ∀ j, j < 20 → Cond.eq (.elem gDg (.int (Int32.ofNat (80 + j)))) (.int (Int32.ofInt (48 + (((80 + j : Nat) : Int) % 10)))) ∈ flatC gNar := by decide +kernel
theorem gDg_e (j : Nat) (hj : j < 100) : Cond.eq (.elem gDg (.int (Int32.ofNat j))) (.int (Int32.ofInt (48 + ((j : Nat) : Int) % 10))) ∈ flatC gNar := by
  have h5 : j < 20 ∨ (20 ≤ j ∧ j < 40) ∨ (40 ≤ j ∧ j < 60) ∨ (60 ≤ j ∧ j < 80) ∨ (80 ≤ j ∧ j < 100) := by omega
  rcases h5 with h | h | h | h | h
  · have := gDg_e0 j h; rwa [Nat.zero_add] at this
  · have := gDg_e1 (j - 20) (by omega); rwa [show 20 + (j - 20) = j by omega] at this
  · have := gDg_e2 (j - 40) (by omega); rwa [show 40 + (j - 40) = j by omega] at this
  · have := gDg_e3 (j - 60) (by omega); rwa [show 60 + (j - 60) = j by omega] at this
  · have := gDg_e4 (j - 80) (by omega); rwa [show 80 + (j - 80) = j by omega] at this
theorem gDg_T {E : gE} {U : State} {H : Heap} (h : gN E U H) : gRd E gDg ∧ gT' E .byte (gTa E gDg) 100 (fun j => .int (Int32.ofInt (48 + (j : Int) % 10))) := by
  obtain ⟨t, he, hT⟩ := va_Tof (A := gA E) (f := fun j => .int (Int32.ofInt (48 + ((j : Nat) : Int) % 10))) (by omega) (gNr h gDg_w.1) (va_eqt (gNr h gDg_w.2)) (fun j hj => va_eqt (gNr h (gDg_e j hj))) (gA_no E)
  refine ⟨gRd_of he, ?_⟩
  rw [gTa_of he]
  exact hT
theorem xJ6_stringSize {E : gE} {σ : gS} (q : Int) (hq : 0 ≤ q ∧ q ≤ 9) : gCt E mJ6_stringSize_0f7a4 1 0 [iv q] σ (.inl (some (iv (1)))) σ := by
  refine gCt_of (L := [some (iv q), none, none, none]) (by decide +kernel) rfl rfl (Nat.le_of_ble_eq_true rfl) (fun X K hE => ?_)
  refine x_iconst K dJ6_stringSize_0f7a4_0 ?_
  refine x_istore_1 K dJ6_stringSize_0f7a4_1 rfl ?_
  refine x_iload_0 K dJ6_stringSize_0f7a4_2 ?_
  refine x_if_lt (tgt := 11) K (by omega) dJ6_stringSize_0f7a4_3 (by decide) (fun h3 => absurd h3 (by omega)) (fun h3 => ?_)
  refine x_iconst K dJ6_stringSize_0f7a4_6 ?_
  refine x_istore_1 K dJ6_stringSize_0f7a4_7 rfl ?_
  refine x_iload_0 K dJ6_stringSize_0f7a4_8 ?_
  refine x_ineg K dJ6_stringSize_0f7a4_9 ?_
  refine x_istore_0 K dJ6_stringSize_0f7a4_10 ?_
  refine x_bipush K dJ6_stringSize_0f7a4_11 rfl ?_
  refine x_istore_2 K dJ6_stringSize_0f7a4_13 rfl ?_
  refine x_iconst K dJ6_stringSize_0f7a4_14 ?_
  refine x_istore_3 K dJ6_stringSize_0f7a4_15 rfl ?_
  skip
  refine x_iload_3 K dJ6_stringSize_0f7a4_16 ?_
  refine x_bipush K dJ6_stringSize_0f7a4_17 rfl ?_
  refine x_icmp_ge (tgt := 42) K (by omega) dJ6_stringSize_0f7a4_19 (by decide) (fun h19 => absurd h19 (by omega)) (fun h19 => ?_)
  refine x_iload_0 K dJ6_stringSize_0f7a4_22 ?_
  refine x_iload_2 K dJ6_stringSize_0f7a4_23 ?_
  refine x_icmp_le (tgt := 31) K (by omega) dJ6_stringSize_0f7a4_24 (by decide) (fun h24 => absurd h24 (by omega)) (fun h24 => ?_)
  refine x_iload_3 K dJ6_stringSize_0f7a4_27 ?_
  refine x_iload_1 K dJ6_stringSize_0f7a4_28 ?_
  refine x_iadd K dJ6_stringSize_0f7a4_29 ?_
  exact x_iret K hE rfl dJ6_stringSize_0f7a4_30 (by first | decide | omega) (by first | decide | omega) (by omega) rfl
theorem xJ6_getChars {E : gE} {σ : gS} (q : Int) (hq : 0 ≤ q ∧ q ≤ 9) {v w m n : Nat} (hx : (v, 32, w, m) ∈ gX E) (hn : n < m) (hm : m ≤ 60) : gCt E mJ6_getChars_ba4f3 1 0 [iv q, iv ((n : Int) + 1), .inl (.ref v)] σ (.inl (some (iv ((n : Int))))) (gU σ 32 w n (48 + q)) := by
  refine gCt_of (L := [some (iv q), some (iv ((n : Int) + 1)), some (.inl (.ref v)), none, none, none, none]) (by decide +kernel) rfl rfl (Nat.le_of_ble_eq_true rfl) (fun X K hE => ?_)
  refine x_iload_1 K dJ6_getChars_ba4f3_0 ?_
  refine x_istore_5 K dJ6_getChars_ba4f3_1 rfl ?_
  refine x_iload_0 K dJ6_getChars_ba4f3_3 ?_
  refine x_if_ge (tgt := 11) K (by omega) dJ6_getChars_ba4f3_4 (by decide) (fun h4 => ?_) (fun h4 => absurd h4 (by omega))
  refine x_iconst K dJ6_getChars_ba4f3_11 ?_
  refine x_istore_6 K dJ6_getChars_ba4f3_12 rfl ?_
  refine x_iload_6 K dJ6_getChars_ba4f3_14 ?_
  refine x_if_ne (tgt := 22) K (by omega) dJ6_getChars_ba4f3_16 (by decide) (fun h16 => absurd rfl h16) (fun h16 => ?_)
  refine x_iload_0 K dJ6_getChars_ba4f3_19 ?_
  refine x_ineg K dJ6_getChars_ba4f3_20 ?_
  refine x_istore_0 K dJ6_getChars_ba4f3_21 ?_
  refine x_iload_0 K dJ6_getChars_ba4f3_22 ?_
  refine x_bipush K dJ6_getChars_ba4f3_23 rfl ?_
  refine x_icmp_gt (tgt := 72) K (by omega) dJ6_getChars_ba4f3_25 (by decide) (fun h25 => ?_) (fun h25 => absurd h25 (by omega))
  refine x_aloadc_2 K dJ6_getChars_ba4f3_72 ?_
  refine x_iinc_5 K dJ6_getChars_ba4f3_73 rfl ?_
  refine x_iload_5 K dJ6_getChars_ba4f3_76 ?_
  refine x_gets K (g_mem 1020 (by decide +kernel)) (g_mem 29 (by decide +kernel)) (g_mem 1019 (by decide +kernel)) (gDg_T K.2.2.2.2.1).1 dJ6_getChars_ba4f3_78 ?_
  refine x_iload_0 K dJ6_getChars_ba4f3_81 ?_
  refine x_ineg K dJ6_getChars_ba4f3_82 ?_
  refine x_baldK K (gDg_T K.2.2.2.2.1).2 q.toNat (by omega) (by omega) (by omega) dJ6_getChars_ba4f3_83 ?_
  refine gWX.top (b := 48 + q) (by omega) ?_
  refine x_bastX K hx n (by omega) hn hm (by omega) dJ6_getChars_ba4f3_84 ?_
  refine x_iload_0 K dJ6_getChars_ba4f3_85 ?_
  refine x_bipush K dJ6_getChars_ba4f3_86 rfl ?_
  refine x_icmp_ge (tgt := 104) K (by omega) dJ6_getChars_ba4f3_88 (by decide) (fun h88 => ?_) (fun h88 => absurd h88 (by omega))
  refine x_iload_6 K dJ6_getChars_ba4f3_104 ?_
  refine x_if_eq (tgt := 118) K (by omega) dJ6_getChars_ba4f3_106 (by decide) (fun h106 => ?_) (fun h106 => absurd rfl h106)
  refine x_iload_5 K dJ6_getChars_ba4f3_118 ?_
  exact x_iret K hE rfl dJ6_getChars_ba4f3_120 (by first | decide | omega) (by first | decide | omega) (by omega) rfl
theorem xJ5_ensure {E : gE} {σ : gS} {a i v w m n : Nat} {f : Nat → Int} (h : gSB E σ a i v w m n f) (q : Nat) (hq : q ≤ m ∨ (m = 16 ∧ q ≤ 34)) : gCtG E mJ5_ensureCapacityInternal_d00df 4 6 [.inl (.ref a), iv (q : Int)] σ (fun E2 rv σ2 => rv = none ∧ ∃ v2 w2 m2, gSB E2 σ2 a i v2 w2 m2 n f ∧ gCap q m m2 ∧ (w2 = w ∨ ∀ x ∈ gX E, x.2.2.1 ≠ w2) ∧ gFr E σ σ2 [i, w]) := by
  refine gCtG_of (L := [some (.inl (.ref a)), some (iv (q : Int)), none]) (by decide +kernel) rfl rfl (Nat.le_of_ble_eq_true rfl) (fun X K hnm hE => ?_)
  have hsb := h
  obtain ⟨h1, h2, h3, h4, h5, h6, h7, h8, h9⟩ := h
  refine x_aloadc_0 K dJ5_ensureCapacityInternal_d00df_0 ?_
  refine x_get33V K h1 h3 bf_b0 dJ5_ensureCapacityInternal_d00df_1 ?_
  refine x_alenBx K h2 dJ5_ensureCapacityInternal_d00df_4 ?_
  refine x_aloadc_0 K dJ5_ensureCapacityInternal_d00df_5 ?_
  refine x_get33I K (slot := 0) h1 bf_b1 dJ5_ensureCapacityInternal_d00df_6 ?_
  refine gWX.top (b := 0) h4 ?_
  refine x_ishr0 K dJ5_ensureCapacityInternal_d00df_9 ?_
  refine x_istore_2 K dJ5_ensureCapacityInternal_d00df_10 rfl ?_
  refine x_iload_1 K dJ5_ensureCapacityInternal_d00df_11 ?_
  refine x_iload_2 K dJ5_ensureCapacityInternal_d00df_12 ?_
  refine x_isub K dJ5_ensureCapacityInternal_d00df_13 ?_
  refine x_if_le (tgt := 38) K (by omega) dJ5_ensureCapacityInternal_d00df_14 (by decide) (fun h14 => ?_) (fun h14 => ?_)
  · exact x_vretG K (gMore.rf E) hE rfl dJ5_ensureCapacityInternal_d00df_38 (by first | decide | omega) (by first | decide | omega) ⟨rfl, v, w, m, hsb, ⟨by omega, fun _ => rfl, Or.inl rfl⟩, Or.inl rfl, gFr.rf⟩
    skip
  · have hm16 : m = 16 := by omega
    refine x_aloadc_0 K dJ5_ensureCapacityInternal_d00df_17 ?_
    refine x_aloadc_0 K dJ5_ensureCapacityInternal_d00df_18 ?_
    refine x_get33V K h1 h3 bf_b0 dJ5_ensureCapacityInternal_d00df_19 ?_
    refine x_aloadc_0 K dJ5_ensureCapacityInternal_d00df_22 ?_
    refine x_iload_1 K dJ5_ensureCapacityInternal_d00df_23 ?_
    refine x_callUx1 K (x := ⟨"java/lang/AbstractStringBuilder", "newCapacity", "(I)I"⟩) (C := "java/lang/StringBuilder") (xJ5_newCapacity hsb hm16 q (by omega)) mtJ5_newCapacity_0f7a4 ⟨(g_mem 1403 (by decide +kernel)), (gNw_p (x0 := yJ5_isLatin1_aae02) ⟨by decide +kernel, by decide +kernel⟩ rfl (g_mem 935 (by decide +kernel)) (g_mem 933 (by decide +kernel)) (g_mem 908 (by decide +kernel)) (g_mem 909 (by decide +kernel))), (g_mem 909 (by decide +kernel)), rfl⟩ (gRcv_33 K h1) (g_mem 907 (by decide +kernel)) ⟨by omega, by omega, by omega⟩ rfl (Nat.le_of_ble_eq_true rfl) dJ5_ensureCapacityInternal_d00df_24 ?_
    refine x_aloadc_0 K dJ5_ensureCapacityInternal_d00df_27 ?_
    refine x_get33I K (slot := 0) h1 bf_b1 dJ5_ensureCapacityInternal_d00df_28 ?_
    refine gWX.top (b := 0) h4 ?_
    refine x_ishl0 K dJ5_ensureCapacityInternal_d00df_31 ?_
    refine x_callS2G K (xJ7_copyOf (v := v) (f := σ.1 32 w) (Or.inr ⟨w, hm16 ▸ h2, fun _ _ => rfl⟩) (fun j hj => h9 j (by omega))) mtJ7_copyOf_9075b msJ7_copyOf_9075b lkRJ5_108 ⟨by omega, by omega, by omega⟩ rfl (Nat.le_of_ble_eq_true rfl) dJ5_ensureCapacityInternal_d00df_32 (fun E2 ev σ2 em eq K => ?_)
    obtain ⟨v2, w2, rfl, e1, e2, e3, e4, e5⟩ := eq
    have c1 := gMem_more em h1
    have f1 := e5.2.2 _ h1 List.not_mem_nil 33
    refine x_put330 K (v := .inl (.ref v2)) (z := (v2 : Int)) c1 bf_b0 (fun y => by cases y) (by show Value.ref v2 = gRv (v2 : Int); rw [gRv_nat]) rfl rfl dJ5_ensureCapacityInternal_d00df_35 ?_
    exact x_vretG K em hE rfl dJ5_ensureCapacityInternal_d00df_38 (by first | decide | omega) (by first | decide | omega) ⟨rfl, v2, w2, 34, ⟨c1, e1, gUs, (gUj (by decide)).trans ((f1 1).trans h4), (gUj (by decide)).trans ((f1 3).trans h5), by omega, by omega, fun j hj => (gUk (by decide)).trans ((e3 j (by omega)).trans (h8 j hj)), fun j hj => by
      have e6 : (gU σ2 33 i 0 (v2 : Int)).1 32 w2 j = σ2.1 32 w2 j := gUk (by decide)
      rw [e6]
      exact e4 j hj⟩, ⟨by omega, fun y => by omega, Or.inr rfl⟩, Or.inr e2, ((e5.wk (fun c hc => absurd hc List.not_mem_nil)).tr em (gFr_u (l := [i]) (by omega) (Or.inl List.mem_cons_self)) (fun c hc => Or.inl (by simp at hc ⊢; exact Or.inl hc)))⟩
theorem xJ5_append {E : gE} {σ : gS} {a i v w m n : Nat} {f : Nat → Int} (h : gSB E σ a i v w m n f) {z k : Nat} {g : Nat → Int} (hs : gSt E σ z k g [i, w]) (hk : n + k ≤ m ∨ (m = 16 ∧ n + k ≤ 34)) (hb : ∀ j, j < k → 0 ≤ g j ∧ g j < 128) : gCtG E mJ5_append_cf1ce 5 6 [.inl (.ref a), .inl (.ref z)] σ (fun E2 rv σ2 => rv = some (.inl (.ref a)) ∧ ∃ v2 w2 m2, gSB E2 σ2 a i v2 w2 m2 (n + k) (gCat f n g) ∧ gCap (n + k) m m2 ∧ (w2 = w ∨ ∀ x ∈ gX E, x.2.2.1 ≠ w2) ∧ gFr E σ σ2 [i, w]) := by
  refine gCtG_of (L := [some (.inl (.ref a)), some (.inl (.ref z)), none]) (by decide +kernel) rfl rfl (Nat.le_of_ble_eq_true rfl) (fun X K hnm hE => ?_)
  have hsb := h
  obtain ⟨h1, h2, h3, h4, h5, h6, h7, h8, h9⟩ := h
  refine x_aloadc_1 K dJ5_append_cf1ce_0 ?_
  refine x_ifnonnullc (tgt := 9) K dJ5_append_cf1ce_1 (by decide) ?_
  refine x_aloadc_1 K dJ5_append_cf1ce_9 ?_
  refine x_callY0 K (xJ0_length hs) mtJ0_length_8abf5 miJ0_length_8abf5 (gSt_rcv K hs) lkRJ5_32 ⟨by omega, by omega, by omega⟩ rfl (Nat.le_of_ble_eq_true rfl) dJ5_append_cf1ce_10 ?_
  refine x_istore_2 K dJ5_append_cf1ce_13 rfl ?_
  refine x_aloadc_0 K dJ5_append_cf1ce_14 ?_
  refine x_aloadc_0 K dJ5_append_cf1ce_15 ?_
  refine x_get33I K (slot := 2) h1 bf_b3 dJ5_append_cf1ce_16 ?_
  refine gWX.top (b := (n : Int)) h5 ?_
  refine x_iload_2 K dJ5_append_cf1ce_19 ?_
  refine x_iadd K dJ5_append_cf1ce_20 ?_
  refine gWX.top (b := ((n + k : Nat) : Int)) (by omega) ?_
  refine x_callUx1G K (x := ⟨"java/lang/AbstractStringBuilder", "ensureCapacityInternal", "(I)V"⟩) (C := "java/lang/StringBuilder") (xJ5_ensure hsb (n + k) hk) mtJ5_ensureCapacityInternal_d00df ⟨(g_mem 1402 (by decide +kernel)), (gNw_p (x0 := yJ5_isLatin1_aae02) ⟨by decide +kernel, by decide +kernel⟩ rfl (g_mem 935 (by decide +kernel)) (g_mem 933 (by decide +kernel)) (g_mem 904 (by decide +kernel)) (g_mem 905 (by decide +kernel))), (g_mem 905 (by decide +kernel)), rfl⟩ (gRcv_33 K h1) (g_mem 903 (by decide +kernel)) ⟨by omega, by omega, by omega⟩ rfl (Nat.le_of_ble_eq_true rfl) dJ5_append_cf1ce_21 (fun E2 ev σ2 em eq K => ?_)
  obtain ⟨rfl, v2, w2, m2, hsb2, hcap, hw2, hfr⟩ := eq
  have hsb3 := hsb2
  have hcap2 := hcap.1
  have hii : ∀ c ∈ [i, w2], c ∈ [i, w] ∨ ∀ x ∈ gX E, x.2.2.1 ≠ c := fun c hc => by
    rcases List.mem_cons.mp hc with rfl | hc
    · exact Or.inl List.mem_cons_self
    · rw [List.mem_singleton.mp hc]
      rcases hw2 with h | h
      · exact Or.inl (by rw [h]; simp)
      · exact Or.inr h
  obtain ⟨c1, c2, c3, c4, c5, c6, c7, c8, c9⟩ := hsb2
  have hs2 : gSt E2 σ2 z k g [i, w2] := hs.kept em hfr hii
  refine x_aloadc_0 K dJ5_append_cf1ce_24 ?_
  refine x_aloadc_0 K dJ5_append_cf1ce_25 ?_
  refine x_get33I K (slot := 2) c1 bf_b3 dJ5_append_cf1ce_26 ?_
  refine gWX.top (b := (n : Int)) c5 ?_
  refine x_aloadc_1 K dJ5_append_cf1ce_29 ?_
  refine x_callUx2v K (x := ⟨"java/lang/AbstractStringBuilder", "putStringAt", "(ILjava/lang/String;)V"⟩) (C := "java/lang/StringBuilder") (xJ5_putStringAt hsb3 hs2 hcap2 hb) mtJ5_putStringAt_47b60 ⟨(g_mem 1404 (by decide +kernel)), (gNw_p (x0 := yJ5_isLatin1_aae02) ⟨by decide +kernel, by decide +kernel⟩ rfl (g_mem 935 (by decide +kernel)) (g_mem 933 (by decide +kernel)) (g_mem 973 (by decide +kernel)) (g_mem 974 (by decide +kernel))), (g_mem 974 (by decide +kernel)), rfl⟩ (gRcv_33 K c1) (g_mem 972 (by decide +kernel)) ⟨by omega, by omega, by omega⟩ rfl (Nat.le_of_ble_eq_true rfl) dJ5_append_cf1ce_30 ?_
  refine x_aloadc_0 K dJ5_append_cf1ce_33 ?_
  refine x_dup K dJ5_append_cf1ce_34 rfl ?_
  refine x_get33I K (slot := 2) c1 bf_b3 dJ5_append_cf1ce_35 ?_
  refine gWX.top (b := (n : Int)) ((gBk (by decide)).trans c5) ?_
  refine x_iload_2 K dJ5_append_cf1ce_38 ?_
  refine x_iadd K dJ5_append_cf1ce_39 ?_
  refine gWX.top (b := ((n + k : Nat) : Int)) (by omega) ?_
  refine x_put330 K (v := iv ((n + k : Nat) : Int)) (z := ((n + k : Nat) : Int)) c1 bf_b3 (fun y => by cases y) rfl rfl rfl dJ5_append_cf1ce_40 ?_
  refine x_aloadc_0 K dJ5_append_cf1ce_43 ?_
  exact x_aretG K em hE rfl dJ5_append_cf1ce_44 (by first | decide | omega) (by first | decide | omega) ⟨rfl, v2, w2, m2, gSB_app hsb3 hcap2 hb rfl, hcap, hw2, hfr.tr em ((gFr_c (l := [i, w2]) (Or.inl (by simp))).tr1 (gMore.rf E2) (gFr_u (by omega) (Or.inl (by simp)))) hii⟩
theorem xJ4_append {E : gE} {σ : gS} {a i v w m n : Nat} {f : Nat → Int} (h : gSB E σ a i v w m n f) {z k : Nat} {g : Nat → Int} (hs : gSt E σ z k g [i, w]) (hk : n + k ≤ m ∨ (m = 16 ∧ n + k ≤ 34)) (hb : ∀ j, j < k → 0 ≤ g j ∧ g j < 128) : gCtG E mJ4_append_15ec4 6 6 [.inl (.ref a), .inl (.ref z)] σ (fun E2 rv σ2 => rv = some (.inl (.ref a)) ∧ ∃ v2 w2 m2, gSB E2 σ2 a i v2 w2 m2 (n + k) (gCat f n g) ∧ gCap (n + k) m m2 ∧ (w2 = w ∨ ∀ x ∈ gX E, x.2.2.1 ≠ w2) ∧ gFr E σ σ2 [i, w]) := by
  refine gCtG_of (L := [some (.inl (.ref a)), some (.inl (.ref z))]) (by decide +kernel) rfl rfl (Nat.le_of_ble_eq_true rfl) (fun X K hnm hE => ?_)
  refine x_aloadc_0 K dJ4_append_15ec4_0 ?_
  refine x_aloadc_1 K dJ4_append_15ec4_1 ?_
  refine x_callIx1G K (C := "java/lang/StringBuilder") (xJ5_append h hs hk hb) mtJ5_append_cf1ce ⟨(g_mem 1400 (by decide +kernel)), (g_mem 304 (by decide +kernel)), (g_mem 897 (by decide +kernel)), by decide +kernel⟩ (gRcv_33 K h.1) (gAt_33 K) (g_mem 896 (by decide +kernel)) ⟨by omega, by omega, by omega⟩ rfl (Nat.le_of_ble_eq_true rfl) dJ4_append_15ec4_2 (fun E2 ev σ2 em eq K => ?_)
  obtain ⟨rfl, eq⟩ := eq
  refine x_pop K dJ4_append_15ec4_5 rfl ?_
  refine x_aloadc_0 K dJ4_append_15ec4_6 ?_
  exact x_aretG K em hE rfl dJ4_append_15ec4_7 (by first | decide | omega) (by first | decide | omega) ⟨rfl, eq⟩
theorem xJ5_appendI {E : gE} {σ : gS} {a i v w m n : Nat} {f : Nat → Int} (h : gSB E σ a i v w m n f) (q : Int) (hq : 0 ≤ q ∧ q ≤ 9) (hk : n + 1 ≤ m ∨ (m = 16 ∧ n + 1 ≤ 34)) : gCtG E mJ5_append_c97b9 5 6 [.inl (.ref a), iv q] σ (fun E2 rv σ2 => rv = some (.inl (.ref a)) ∧ ∃ v2 w2 m2, gSB E2 σ2 a i v2 w2 m2 (n + 1) (gCat f n (fun _ => 48 + q)) ∧ gCap (n + 1) m m2 ∧ (w2 = w ∨ ∀ x ∈ gX E, x.2.2.1 ≠ w2) ∧ gFr E σ σ2 [i, w]) := by
  refine gCtG_of (L := [some (.inl (.ref a)), some (iv q), none, none]) (by decide +kernel) rfl rfl (Nat.le_of_ble_eq_true rfl) (fun X K hnm hE => ?_)
  have hsb := h
  obtain ⟨h1, h2, h3, h4, h5, h6, h7, h8, h9⟩ := h
  refine x_aloadc_0 K dJ5_append_c97b9_0 ?_
  refine x_get33I K (slot := 2) h1 bf_b3 dJ5_append_c97b9_1 ?_
  refine gWX.top (b := (n : Int)) h5 ?_
  refine x_istore_2 K dJ5_append_c97b9_4 rfl ?_
  refine x_iload_2 K dJ5_append_c97b9_5 ?_
  refine x_iload_1 K dJ5_append_c97b9_6 ?_
  refine x_callS1 K (xJ6_stringSize q hq) mtJ6_stringSize_0f7a4 msJ6_stringSize_0f7a4 lkRJ5_245 ⟨by decide, by decide, by decide⟩ rfl (Nat.le_of_ble_eq_true rfl) dJ5_append_c97b9_7 ?_
  refine x_iadd K dJ5_append_c97b9_10 ?_
  refine gWX.top (b := ((n + 1 : Nat) : Int)) (by omega) ?_
  refine x_istore_3 K dJ5_append_c97b9_11 rfl ?_
  refine x_aloadc_0 K dJ5_append_c97b9_12 ?_
  refine x_iload_3 K dJ5_append_c97b9_13 ?_
  refine x_callUx1G K (x := ⟨"java/lang/AbstractStringBuilder", "ensureCapacityInternal", "(I)V"⟩) (C := "java/lang/StringBuilder") (xJ5_ensure hsb (n + 1) hk) mtJ5_ensureCapacityInternal_d00df ⟨(g_mem 1402 (by decide +kernel)), (gNw_p (x0 := yJ5_isLatin1_aae02) ⟨by decide +kernel, by decide +kernel⟩ rfl (g_mem 935 (by decide +kernel)) (g_mem 933 (by decide +kernel)) (g_mem 904 (by decide +kernel)) (g_mem 905 (by decide +kernel))), (g_mem 905 (by decide +kernel)), rfl⟩ (gRcv_33 K h1) (g_mem 903 (by decide +kernel)) ⟨by omega, by omega, by omega⟩ rfl (Nat.le_of_ble_eq_true rfl) dJ5_append_c97b9_14 (fun E2 ev σ2 em eq K => ?_)
  obtain ⟨rfl, v2, w2, m2, hsb2, hcap, hw2, hfr⟩ := eq
  have hsb3 := hsb2
  have hcap2 := hcap.1
  have hii : ∀ c ∈ [i, w2], c ∈ [i, w] ∨ ∀ x ∈ gX E, x.2.2.1 ≠ c := fun c hc => by
    rcases List.mem_cons.mp hc with rfl | hc
    · exact Or.inl List.mem_cons_self
    · rw [List.mem_singleton.mp hc]
      rcases hw2 with h | h
      · exact Or.inl (by rw [h]; simp)
      · exact Or.inr h
  obtain ⟨c1, c2, c3, c4, c5, c6, c7, c8, c9⟩ := hsb2
  refine x_aloadc_0 K dJ5_append_c97b9_17 ?_
  refine x_callUx0 K (x := ⟨"java/lang/AbstractStringBuilder", "isLatin1", "()Z"⟩) (C := "java/lang/StringBuilder") (xJ5_isLatin1 hsb3) mtJ5_isLatin1_aae02 ⟨(g_mem 934 (by decide +kernel)), (gNw_w (g_mem 935 (by decide +kernel)) rfl), (g_mem 933 (by decide +kernel)), rfl⟩ (gRcv_33 K c1) (g_mem 932 (by decide +kernel)) ⟨by omega, by omega, by omega⟩ rfl (Nat.le_of_ble_eq_true rfl) dJ5_append_c97b9_18 ?_
  refine x_if_eq (tgt := 37) K (by omega) dJ5_append_c97b9_21 (by decide) (fun h21 => absurd h21 (by omega)) (fun h21 => ?_)
  refine x_iload_1 K dJ5_append_c97b9_24 ?_
  refine x_iload_3 K dJ5_append_c97b9_25 ?_
  refine gWX.top (b := (n : Int) + 1) (by omega) ?_
  refine x_aloadc_0 K dJ5_append_c97b9_26 ?_
  refine x_get33V K c1 c3 bf_b0 dJ5_append_c97b9_27 ?_
  refine x_callS3 K (xJ6_getChars q hq c2 (by omega) c7) mtJ6_getChars_ba4f3 msJ6_getChars_ba4f3 lkRJ5_248 ⟨by decide, by decide, by decide⟩ rfl (Nat.le_of_ble_eq_true rfl) dJ5_append_c97b9_30 ?_
  refine x_pop K dJ5_append_c97b9_33 rfl ?_
  refine x_goto (tgt := 48) K dJ5_append_c97b9_34 (by decide) ?_
  refine gWX.eq (gU_cb σ2 w2 n (48 + q)) ?_
  refine x_aloadc_0 K dJ5_append_c97b9_48 ?_
  refine x_iload_3 K dJ5_append_c97b9_49 ?_
  refine x_put330 K (v := iv ((n + 1 : Nat) : Int)) (z := ((n + 1 : Nat) : Int)) c1 bf_b3 (fun y => by cases y) rfl rfl rfl dJ5_append_c97b9_50 ?_
  refine x_aloadc_0 K dJ5_append_c97b9_53 ?_
  exact x_aretG K em hE rfl dJ5_append_c97b9_54 (by first | decide | omega) (by first | decide | omega) ⟨rfl, v2, w2, m2, gSB_app hsb3 hcap2 (fun _ _ => by omega) rfl, hcap, hw2, hfr.tr em ((gFr_c (l := [i, w2]) (Or.inl (by simp))).tr1 (gMore.rf E2) (gFr_u (by omega) (Or.inl (by simp)))) hii⟩
theorem xJ4_appendI {E : gE} {σ : gS} {a i v w m n : Nat} {f : Nat → Int} (h : gSB E σ a i v w m n f) (q : Int) (hq : 0 ≤ q ∧ q ≤ 9) (hk : n + 1 ≤ m ∨ (m = 16 ∧ n + 1 ≤ 34)) : gCtG E mJ4_append_bf812 6 6 [.inl (.ref a), iv q] σ (fun E2 rv σ2 => rv = some (.inl (.ref a)) ∧ ∃ v2 w2 m2, gSB E2 σ2 a i v2 w2 m2 (n + 1) (gCat f n (fun _ => 48 + q)) ∧ gCap (n + 1) m m2 ∧ (w2 = w ∨ ∀ x ∈ gX E, x.2.2.1 ≠ w2) ∧ gFr E σ σ2 [i, w]) := by
  refine gCtG_of (L := [some (.inl (.ref a)), some (iv q)]) (by decide +kernel) rfl rfl (Nat.le_of_ble_eq_true rfl) (fun X K hnm hE => ?_)
  refine x_aloadc_0 K dJ4_append_bf812_0 ?_
  refine x_iload_1 K dJ4_append_bf812_1 ?_
  refine x_callIx1G K (C := "java/lang/StringBuilder") (xJ5_appendI h q hq hk) mtJ5_append_c97b9 ⟨(g_mem 1407 (by decide +kernel)), (g_mem 304 (by decide +kernel)), (g_mem 1011 (by decide +kernel)), by decide +kernel⟩ (gRcv_33 K h.1) (gAt_33 K) (g_mem 1010 (by decide +kernel)) ⟨by omega, by omega, by omega⟩ rfl (Nat.le_of_ble_eq_true rfl) dJ4_append_bf812_2 (fun E2 ev σ2 em eq K => ?_)
  obtain ⟨rfl, eq⟩ := eq
  refine x_pop K dJ4_append_bf812_5 rfl ?_
  refine x_aloadc_0 K dJ4_append_bf812_6 ?_
  exact x_aretG K em hE rfl dJ4_append_bf812_7 (by first | decide | omega) (by first | decide | omega) ⟨rfl, eq⟩
theorem xJ5_init {E : gE} {σ : gS} {a i : Nat} (hx : (a, 33, i, 0) ∈ gX E) (h3 : σ.1 33 i 3 = 0) (f : Nat → Int) : gCtG E mJ5_init_d00df 2 3 [.inl (.ref a), iv 16] σ (fun E2 rv σ2 => rv = none ∧ ∃ v2 w2, gSB E2 σ2 a i v2 w2 16 0 f ∧ gFr E σ σ2 [i] ∧ ∀ x ∈ gX E, x.2.2.1 ≠ w2) := by
  refine gCtG_of (L := [some (.inl (.ref a)), some (iv 16)]) (by decide +kernel) rfl rfl (Nat.le_of_ble_eq_true rfl) (fun X K hnm hE => ?_)
  refine x_aloadc_0 K dJ5_init_d00df_0 ?_
  refine x_objInitX K (g_mem 281 (by decide +kernel)) rfl ⟨by decide, (Nat.le_of_ble_eq_true rfl)⟩ dJ5_init_d00df_1 ?_
  refine x_getsV K (g_mem 283 (by decide +kernel)) (g_mem 8 (by decide +kernel)) (g_mem 282 (by decide +kernel)) (gCS K.2.2.2.2.1) dJ5_init_d00df_4 ?_
  refine x_if_eq (tgt := 25) K (by omega) dJ5_init_d00df_7 (by decide) (fun h7 => absurd h7 (by omega)) (fun h7 => ?_)
  refine x_aloadc_0 K dJ5_init_d00df_10 ?_
  refine x_iload_1 K dJ5_init_d00df_11 ?_
  refine x_newB (N := 16) K (by omega) (g_mem 113 (by decide +kernel)) (by omega) (by omega) dJ5_init_d00df_12 (fun v2 w2 E2 hm hx2 hf2 K => ?_)
  have hx3 := gX_new hx2
  have c1 := gMem_more hm hx
  have hiw : w2 ≠ i := fun q => hf2 _ hx q.symm
  refine x_put330 K (v := .inl (.ref v2)) (z := (v2 : Int)) c1 bf_b0 (fun y => by cases y) (by show Value.ref v2 = gRv (v2 : Int); rw [gRv_nat]) rfl rfl dJ5_init_d00df_14 ?_
  refine x_aloadc_0 K dJ5_init_d00df_17 ?_
  refine x_iconst K dJ5_init_d00df_18 ?_
  refine x_put330 K (v := iv 0) (z := 0) c1 bf_b1 (fun y => by cases y) rfl rfl rfl dJ5_init_d00df_19 ?_
  refine x_goto (tgt := 38) K dJ5_init_d00df_22 (by decide) ?_
  exact x_vretG K hm hE rfl dJ5_init_d00df_38 (by first | decide | omega) (by first | decide | omega) ⟨rfl, v2, w2, ⟨c1, hx3, (gUj (by decide)).trans gUs, gUs, (gUj (by decide)).trans ((gUj (by decide)).trans ((gNk (by decide)).trans h3)), by omega, by omega, fun j hj => absurd hj (by omega), fun j hj => by
    have e6 : (gU (gU (gNw0 σ 32 w2) 33 i 0 (v2 : Int)) 33 i 1 0).1 32 w2 j = 0 := (gUk (by decide)).trans ((gUk (by decide)).trans gNz)
    rw [e6]
    decide⟩, (gFr_n (by omega) hf2).tr hm ((gFr_u (l := [i]) (by omega) (Or.inl List.mem_cons_self)).tr1 (gMore.rf E2) (gFr_u (by omega) (Or.inl List.mem_cons_self))) (fun c hc => Or.inl hc), hf2⟩
theorem xJ4_init {E : gE} {σ : gS} {a i : Nat} (hx : (a, 33, i, 0) ∈ gX E) (h3 : σ.1 33 i 3 = 0) (f : Nat → Int) : gCtG E mJ4_init_da8c8 3 3 [.inl (.ref a)] σ (fun E2 rv σ2 => rv = none ∧ ∃ v2 w2, gSB E2 σ2 a i v2 w2 16 0 f ∧ gFr E σ σ2 [i] ∧ ∀ x ∈ gX E, x.2.2.1 ≠ w2) := by
  refine gCtG_of (L := [some (.inl (.ref a))]) (by decide +kernel) rfl rfl (Nat.le_of_ble_eq_true rfl) (fun X K hnm hE => ?_)
  refine x_aloadc_0 K dJ4_init_da8c8_0 ?_
  refine x_bipush K dJ4_init_da8c8_1 rfl ?_
  refine x_callC1G K (xJ5_init hx h3 f) mtJ5_init_d00df (g_mem 279 (by decide +kernel)) ⟨rfl, rfl⟩ (g_mem 278 (by decide +kernel)) ⟨by omega, by omega, by omega⟩ rfl (Nat.le_of_ble_eq_true rfl) dJ4_init_da8c8_3 (fun E2 ev σ2 em eq K => ?_)
  obtain ⟨rfl, eq⟩ := eq
  exact x_vretG K em hE rfl dJ4_init_da8c8_6 (by first | decide | omega) (by first | decide | omega) ⟨rfl, eq⟩
theorem xJ0_init2 {E : gE} {σ : gS} {a i v w m n : Nat} {f : Nat → Int} (h : gSB E σ a i v w m n f) {z i2 : Nat} (hz : (z, 34, i2, 0) ∈ gX E) (hn : n < m) (hm6 : m ≤ 34) : gCtG E mJ0_init_db425 4 6 [.inl (.ref z), .inl (.ref a), .inl .null] σ (fun E2 rv σ2 => rv = none ∧ ∃ v2 w2 : Nat, (v2, 32, w2, n) ∈ gX E2 ∧ (∀ x ∈ gX E, x.2.2.1 ≠ w2) ∧ σ2.1 34 i2 0 = (v2 : Int) ∧ σ2.1 34 i2 1 = 0 ∧ (∀ j, j < n → σ2.1 32 w2 j = f j) ∧ gFr E σ σ2 [i2]) := by
  refine gCtG_of (L := [some (.inl (.ref z)), some (.inl (.ref a)), some (.inl .null), none, none]) (by decide +kernel) rfl rfl (Nat.le_of_ble_eq_true rfl) (fun X K hnm hE => ?_)
  have hsb4 := h
  obtain ⟨h1, h2, h3, h4, h5, h6, h7, h8, h9⟩ := h
  refine x_aloadc_0 K dJ0_init_db425_0 ?_
  refine x_objInitX K (g_mem 1042 (by decide +kernel)) rfl ⟨by decide, (Nat.le_of_ble_eq_true rfl)⟩ dJ0_init_db425_1 ?_
  refine x_aloadc_1 K dJ0_init_db425_4 ?_
  refine x_callUx0 K (x := ⟨"java/lang/AbstractStringBuilder", "getValue", "()[B"⟩) (C := "java/lang/StringBuilder") (xJ5_getValue hsb4) mtJ5_getValue_6d5f1 ⟨(g_mem 1045 (by decide +kernel)), (gNw_w (g_mem 1046 (by decide +kernel)) rfl), (g_mem 1044 (by decide +kernel)), rfl⟩ (gRcv_33 K h1) (g_mem 1043 (by decide +kernel)) ⟨by omega, by omega, by omega⟩ rfl (Nat.le_of_ble_eq_true rfl) dJ0_init_db425_5 ?_
  refine x_astorec_3 K dJ0_init_db425_8 rfl ?_
  refine x_aloadc_1 K dJ0_init_db425_9 ?_
  refine x_callO0 K (x := ⟨"java/lang/AbstractStringBuilder", "length", "()I"⟩) (C := "java/lang/StringBuilder") (xJ4_length hsb4) mtJ4_length_8abf5 ⟨(g_mem 1050 (by decide +kernel)), gNw_w (g_mem 1051 (by decide +kernel)) rfl, (g_mem 1052 (by decide +kernel)), rfl⟩ (g_mem 1049 (by decide +kernel)) mtJ5_length_8abf5.1 ⟨by decide, by decide⟩ (gRcv_33 K h1) (g_mem 1048 (by decide +kernel)) ⟨by omega, by omega, by omega⟩ rfl (Nat.le_of_ble_eq_true rfl) dJ0_init_db425_10 ?_
  refine x_istore_4 K dJ0_init_db425_13 rfl ?_
  refine x_aloadc_1 K dJ0_init_db425_15 ?_
  refine x_callUx0 K (x := ⟨"java/lang/AbstractStringBuilder", "isLatin1", "()Z"⟩) (C := "java/lang/StringBuilder") (xJ5_isLatin1 hsb4) mtJ5_isLatin1_aae02 ⟨(g_mem 934 (by decide +kernel)), (gNw_w (g_mem 935 (by decide +kernel)) rfl), (g_mem 933 (by decide +kernel)), rfl⟩ (gRcv_33 K h1) (g_mem 1056 (by decide +kernel)) ⟨by omega, by omega, by omega⟩ rfl (Nat.le_of_ble_eq_true rfl) dJ0_init_db425_16 ?_
  refine x_if_eq (tgt := 41) K (by omega) dJ0_init_db425_19 (by decide) (fun h19 => absurd h19 (by omega)) (fun h19 => ?_)
  refine x_aloadc_0 K dJ0_init_db425_22 ?_
  refine x_iconst K dJ0_init_db425_23 ?_
  refine x_put340 K (v := iv 0) (z := 0) hz bf_s1 (fun _ => hnm.trans rfl) rfl rfl rfl dJ0_init_db425_24 ?_
  refine x_aloadc_0 K dJ0_init_db425_27 ?_
  refine x_aloadc_3 K dJ0_init_db425_28 ?_
  refine x_iconst K dJ0_init_db425_29 ?_
  refine x_iload_4 K dJ0_init_db425_30 ?_
  refine x_callS3G K (xJ7_copyOfRange (v := v) (f := σ.1 32 w) (Or.inr ⟨w, h2, fun _ _ => gUk (by decide)⟩) hn hm6 h9) mtJ7_copyOfRange_39247 msJ7_copyOfRange_39247 lkRJ0_54 ⟨by omega, by omega, by omega⟩ rfl (Nat.le_of_ble_eq_true rfl) dJ0_init_db425_32 (fun E2 ev σ2 em eq K => ?_)
  obtain ⟨v2, w2, rfl, e1, e2, e3, e4, e5⟩ := eq
  have c1 := gMem_more em hz
  have f1 := e5.2.2 _ hz List.not_mem_nil 34
  refine x_put340 K (v := .inl (.ref v2)) (z := (v2 : Int)) c1 bf_s0 (fun _ => hnm.trans rfl) (by show Value.ref v2 = gRv (v2 : Int); rw [gRv_nat]) rfl rfl dJ0_init_db425_35 ?_
  refine x_goto (tgt := 97) K dJ0_init_db425_38 (by decide) ?_
  exact x_vretG K em hE rfl dJ0_init_db425_97 (by first | decide | omega) (by first | decide | omega) ⟨rfl, v2, w2, e1, e2, gUs, (gUj (by decide)).trans ((f1 1).trans gUs), fun j hj => (gUk (by decide)).trans ((e3 j hj).trans (h8 j hj)), ((gFr_u (l := [i2]) (by omega) (Or.inl List.mem_cons_self)).tr (gMore.rf E) e5 (fun c hc => absurd hc List.not_mem_nil)).tr1 em (gFr_u (by omega) (Or.inl List.mem_cons_self))⟩
theorem xJ0_init1 {E : gE} {σ : gS} {a i v w m n : Nat} {f : Nat → Int} (h : gSB E σ a i v w m n f) {z i2 : Nat} (hz : (z, 34, i2, 0) ∈ gX E) (hn : n < m) (hm6 : m ≤ 34) : gCtG E mJ0_init_81219 5 6 [.inl (.ref z), .inl (.ref a)] σ (fun E2 rv σ2 => rv = none ∧ ∃ v2 w2 : Nat, (v2, 32, w2, n) ∈ gX E2 ∧ (∀ x ∈ gX E, x.2.2.1 ≠ w2) ∧ σ2.1 34 i2 0 = (v2 : Int) ∧ σ2.1 34 i2 1 = 0 ∧ (∀ j, j < n → σ2.1 32 w2 j = f j) ∧ gFr E σ σ2 [i2]) := by
  refine gCtG_of (L := [some (.inl (.ref z)), some (.inl (.ref a))]) (by decide +kernel) rfl rfl (Nat.le_of_ble_eq_true rfl) (fun X K hnm hE => ?_)
  refine x_aloadc_0 K dJ0_init_81219_0 ?_
  refine x_aloadc_1 K dJ0_init_81219_1 ?_
  refine x_null K dJ0_init_81219_2 ?_
  refine x_callC2G K (xJ0_init2 h hz hn hm6) mtJ0_init_db425 (g_mem 1040 (by decide +kernel)) ⟨rfl, rfl⟩ (g_mem 1039 (by decide +kernel)) ⟨by omega, by omega, by omega⟩ rfl (Nat.le_of_ble_eq_true rfl) dJ0_init_81219_3 (fun E2 ev σ2 em eq K => ?_)
  obtain ⟨rfl, eq⟩ := eq
  exact x_vretG K em hE rfl dJ0_init_81219_6 (by first | decide | omega) (by first | decide | omega) ⟨rfl, eq⟩
theorem xJ4_toString {E : gE} {σ : gS} {a i v w m n : Nat} {f : Nat → Int} (h : gSB E σ a i v w m n f) (hn : n < m) (hm6 : m ≤ 34) : gCtG E mJ4_toString_0e30d 6 7 [.inl (.ref a)] σ (fun E2 rv σ2 => ∃ z : Nat, rv = some (.inl (.ref z)) ∧ (∀ l : List Nat, (∀ c ∈ l, ∃ x ∈ gX E, x.2.2.1 = c) → gSt E2 σ2 z n f l) ∧ gFr E σ σ2 []) := by
  refine gCtG_of (L := [some (.inl (.ref a))]) (by decide +kernel) rfl rfl (Nat.le_of_ble_eq_true rfl) (fun X K hnm hE => ?_)
  have hsb := h
  obtain ⟨h1, h2, h3, h4, h5, h6, h7, h8, h9⟩ := h
  refine x_new34 K (g_mem 1035 (by decide +kernel)) (by omega) (by omega) dJ4_toString_0e30d_0 (fun z i2 E2 hm hx2 hf2 K => ?_)
  have hx3 := gX_new hx2
  have hsb2 : gSB E2 (gNw0 σ 34 i2) a i v w m n f := hsb.kept hm (gFr_n (l := []) (by omega) hf2) List.not_mem_nil List.not_mem_nil
  refine x_dup K dJ4_toString_0e30d_3 rfl ?_
  refine x_aloadc_0 K dJ4_toString_0e30d_4 ?_
  refine x_callC1G K (xJ0_init1 hsb2 hx3 hn hm6) mtJ0_init_81219 (g_mem 1037 (by decide +kernel)) ⟨rfl, rfl⟩ (g_mem 1036 (by decide +kernel)) ⟨by omega, by omega, by omega⟩ rfl (Nat.le_of_ble_eq_true rfl) dJ4_toString_0e30d_5 (fun E3 ev σ2 em eq K => ?_)
  obtain ⟨rfl, v2, w2, e1, e2, e3, e4, e5, e6⟩ := eq
  exact x_aretG K (hm.tr em) hE rfl dJ4_toString_0e30d_8 (by first | decide | omega) (by first | decide | omega) ⟨z, rfl, fun l hl => Or.inr ⟨i2, v2, w2, fun q => by
    obtain ⟨x, x1, x2⟩ := hl _ q
    exact hf2 x x1 x2, fun q => by
    obtain ⟨x, x1, x2⟩ := hl _ q
    exact e2 x (gMem_more hm x1) x2, gMem_more em hx3, e1, e3, e4, e5⟩, (gFr_n (by omega) hf2).tr hm e6 (fun c hc => Or.inr (by rw [List.mem_singleton.mp hc]; exact hf2))⟩
