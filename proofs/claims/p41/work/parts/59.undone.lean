/-! ===== undone ===== -/
theorem gCoA_bd {d : Nat} {Y : Nat → Int} {s r c k : Int} (h : gOb d Y s r c k = 0) (hY : gY Y) (hd : d < 8) : (-1 ≤ gCoA d Y s r c k ∧ gCoA d Y s r c k ≤ 100000) ∧ (d ≠ 1 → 0 ≤ gCoA d Y s r c k) := by
  obtain ⟨a0, a1, a2, a3, a4, a5, a6, a7, a8, a9⟩ := gOb_0 h hY hd
  have h0 := hY.1
  unfold gCoA
  by_cases q0 : d = 0
  · rw [if_pos q0]; omega
  obtain ⟨hh, hz⟩ := a1 q0
  have hz0 := hz.1
  have hz1 := hz.2.1
  rw [if_neg q0]
  by_cases q1 : d = 1
  · rw [if_pos q1]
    have b1 := a2 (Or.inl q1)
    have := gZ_s hz (r := r.toNat) (c := c.toNat) (by omega) (by omega)
    exact ⟨by omega, fun q => absurd q1 q⟩
  rw [if_neg q1]
  by_cases q2 : d = 2
  · rw [if_pos q2]; omega
  rw [if_neg q2]
  by_cases q3 : d = 3
  · rw [if_pos q3]
    have b1 := a2 (Or.inr (Or.inr q3))
    have := s_sm_bd (gZ_set hz (r := r.toNat) (c := c.toNat) (s := -1) (by omega) (by omega) (by omega))
    omega
  rw [if_neg q3]
  by_cases q4 : d = 4
  · rw [if_pos q4]
    have btt := gSum_le (f := fun b => s_b (zb Y s.toNat) b % 10) (c := 9) (fun b => by (try dsimp only); omega) 6
    show (-1 ≤ gSum (fun b => s_b (zb Y s.toNat) b % 10) 6 ∧ gSum (fun b => s_b (zb Y s.toNat) b % 10) 6 ≤ 100000) ∧ (d ≠ 1 → 0 ≤ gSum (fun b => s_b (zb Y s.toNat) b % 10) 6)
    omega
  rw [if_neg q4]
  by_cases q5 : d = 5
  · rw [if_pos q5]; omega
  rw [if_neg q5]
  by_cases q6 : d = 6
  · rw [if_pos q6]
    have f1 := gFst_bd (s_w (zb Y s.toNat)) (14 - 0) 0
    have f2 := gFst_bd (s_w (zb Y s.toNat)) (14 - 6) 6
    have e1 : s_fw (zb Y s.toNat) 0 = gFst (s_w (zb Y s.toNat)) 0 (14 - 0) := rfl
    have e2 : s_fw (zb Y s.toNat) 6 = gFst (s_w (zb Y s.toNat)) 6 (14 - 6) := rfl
    show (-1 ≤ 10 * (((s_fw (zb Y s.toNat) 0).toNat : Nat) : Int) + (((s_fw (zb Y s.toNat) 6).toNat - 6 : Nat) : Int) ∧ 10 * (((s_fw (zb Y s.toNat) 0).toNat : Nat) : Int) + (((s_fw (zb Y s.toNat) 6).toNat - 6 : Nat) : Int) ≤ 100000) ∧ (d ≠ 1 → 0 ≤ 10 * (((s_fw (zb Y s.toNat) 0).toNat : Nat) : Int) + (((s_fw (zb Y s.toNat) 6).toNat - 6 : Nat) : Int))
    omega
  rw [if_neg q6]
  have := s_fill_bd 48 (zb Y s.toNat)
  omega
section US
variable {σ σ1 : gS} {Y : Nat → Int} {pm : Nat} {P : Nat → Nat → Int} {d : Nat} {s r c k v v1 v2 v3 : Int} {A B : Prop}
theorem u_cs (hd : d < 8) (hd1 : d ≠ 1) (hJ : gJv σ Y pm P) (hh : gHi σ σ1) (h : (gOb d Y s r c k = 0 ∧ v = gCoA d Y s r c k ∧ gJv σ1 (gCoY d Y s r c k) (gPn pm) (gPu P pm Y)) ∨ (gOb d Y s r c k = 1 ∧ v = v1 ∧ σ1 = σ) ∨ (gOb d Y s r c k = 2 ∧ v = v2 ∧ σ1 = σ) ∨ (100 ≤ gOb d Y s r c k ∧ v = v3 ∧ gJv σ1 Y pm P ∧ A ∧ B)) (h1 : -100 ≤ v1 ∧ v1 < 0) (h2 : -100 ≤ v2 ∧ v2 < 0) (h3 : -100 ≤ v3 ∧ v3 < 0) : uR σ σ1 v Y pm P := by
  have hY := (gJv_s hJ).2.1
  rcases h with ⟨q, rfl, j⟩ | ⟨q, rfl, rfl⟩ | ⟨q, rfl, rfl⟩ | ⟨q, rfl, j, -, -⟩
  · have b := gCoA_bd q hY hd
    exact ⟨hh, by omega, Or.inl ⟨b.2 hd1, _, j⟩⟩
  · exact ⟨hh, by omega, Or.inr ⟨by omega, hJ⟩⟩
  · exact ⟨hh, by omega, Or.inr ⟨by omega, hJ⟩⟩
  · exact ⟨hh, by omega, Or.inr ⟨by omega, j⟩⟩
theorem u_csw (hJ : gJv σ Y pm P) (h : (gOb 1 Y s r c k = 0 ∧ v = gCoA 1 Y s r c k ∧ gJv σ1 (gCoY 1 Y s r c k) (gPn pm) (gPu P pm Y)) ∨ (gOb 1 Y s r c k = 1 ∧ v = -11 ∧ σ1 = σ) ∨ (gOb 1 Y s r c k = 2 ∧ v = -12 ∧ σ1 = σ) ∨ (100 ≤ gOb 1 Y s r c k ∧ v = -99 ∧ gJv σ1 Y pm P ∧ A ∧ B)) : (-1000000 ≤ v ∧ v < 1000000) ∧ ((-1 ≤ v ∧ ∃ Y2, gJv σ1 Y2 (gPn pm) (gPu P pm Y)) ∨ (v < -1 ∧ gJv σ1 Y pm P)) := by
  have hY := (gJv_s hJ).2.1
  rcases h with ⟨q, rfl, j⟩ | ⟨q, rfl, rfl⟩ | ⟨q, rfl, rfl⟩ | ⟨q, rfl, j, -, -⟩
  · have b := gCoA_bd q hY (by omega)
    exact ⟨by omega, Or.inl ⟨by omega, _, j⟩⟩
  · exact ⟨by omega, Or.inr ⟨by omega, hJ⟩⟩
  · exact ⟨by omega, Or.inr ⟨by omega, hJ⟩⟩
  · exact ⟨by omega, Or.inr ⟨by omega, j⟩⟩
/-- what a step leaves for the sums of the law -/
def uS (τ1 τ5 : gS) (v : Int) (Y : Nat → Int) (pm : Nat) (P : Nat → Nat → Int) : Prop := (∀ j, τ5.1 31 0 j = τ1.1 31 0 j) ∧ (-1000000 ≤ v ∧ v < 1000000) ∧ ((0 ≤ v ∧ ∃ Y2, gJv τ5 Y2 (gPn pm) (gPu P pm Y)) ∨ (v < 0 ∧ gJv τ5 Y pm P))
theorem uS_of (h : uR σ σ1 v Y pm P) : uS σ σ1 v Y pm P := ⟨fun j => h.1 _ _ _ (by omega), h.2⟩
/-- the shelves kept that undoing is to bring back -/
def uK (τ : gS) (pm : Nat) (P : Nat → Nat → Int) (n : Nat) : Prop := n ≤ pm ∧ ∀ t, t < n → gGd (P (pm - n + t)) ∧ Int64.ofInt (τ.1 31 0 t) = pSum (P (pm - n + t))
theorem uK_eq {n : Nat} (h : uK σ pm P n) (he : ∀ j, j < n → σ1.1 31 0 j = σ.1 31 0 j) : uK σ1 pm P n := ⟨h.1, fun t ht => by rw [he t ht]; exact h.2 t ht⟩
theorem uK_up {n : Nat} (h : uK σ pm P n) (hn : n ≤ 7) (hp : pm ≤ 8) (hg : gGd Y) (he : Int64.ofInt (σ.1 31 0 n) = pSum Y) : uK σ (gPn pm) (gPu P pm Y) (n + 1) := by
  obtain ⟨h1, h2⟩ := h
  unfold gPn gPu
  by_cases q : pm = 8
  · rw [if_pos q, if_pos q]
    refine ⟨by omega, fun t ht => ?_⟩
    dsimp only
    by_cases e : t = n
    · subst e
      rw [if_pos (by omega)]
      exact ⟨hg, he⟩
    · rw [if_neg (by omega), show 8 - (n + 1) + t + 1 = pm - n + t by omega]
      exact h2 t (by omega)
  · rw [if_neg q, if_neg q]
    refine ⟨by omega, fun t ht => ?_⟩
    dsimp only
    by_cases e : t = n
    · subst e
      rw [if_pos (by omega)]
      exact ⟨hg, he⟩
    · rw [if_neg (by omega), show pm + 1 - (n + 1) + t = pm - n + t by omega]
      exact h2 t (by omega)
theorem uK_dn {n j0 : Nat} (h : uK σ pm P (n + 1)) (hj : pm = j0 + 1) : uK σ j0 P n ∧ gGd (P j0) ∧ Int64.ofInt (σ.1 31 0 n) = pSum (P j0) := by
  obtain ⟨h1, h2⟩ := h
  have h3 := h2 n (by omega)
  rw [show pm - (n + 1) + n = j0 by omega] at h3
  refine ⟨⟨by omega, fun t ht => ?_⟩, h3⟩
  have h4 := h2 t (by omega)
  rw [show pm - (n + 1) + t = j0 - n + t by omega] at h4
  exact h4
theorem hSc_more {E E2 : gE} (hm : gMore E E2) {b L9 : Nat} {xs : Nat → Int32} (S : hSc E b L9 xs) : hSc E2 b L9 xs := by
  unfold hSc at S ⊢
  rw [hm.2.1, gMore_B hm]
  exact S
theorem gCat_bd {n k : Nat} {f g : Nat → Int} (hf : ∀ j, j < n → 0 ≤ f j ∧ f j < 128) (hg : ∀ j, j < k → 0 ≤ g j ∧ g j < 128) : ∀ j, j < n + k → 0 ≤ gCat f n g j ∧ gCat f n g j < 128 := fun j hj => by
  unfold gCat
  split
  · rename_i q; exact hf j q
  · exact hg _ (by omega)
end US
set_option maxHeartbeats 1000000 in
theorem c_undone {E : gE} {σ : gS} (Y : Nat → Int) {pm : Nat} {P : Nat → Nat → Int} (hX : gX E = []) {b L9 : Nat} {xs : Nat → Int32} (S : hSc E b L9 xs) (hI : gJv σ Y pm P) : gCtR E mL_undone 17 2500 [.inl (.ref b), rf 0 0] σ (fun rv _ => rv = some (iv 1)) := by
  refine gCtR_of (L := [some (.inl (.ref b)), some (rf 0 0), none, none, none, none, none, none, none, none]) (by decide +kernel) rfl rfl (Nat.le_of_ble_eq_true rfl) (fun X K hE => ?_)
  have K0 := K
  obtain ⟨-, hY0, -, -, hpm0⟩ := gJv_s hI
  refine x_bipush K dL_undone_0 rfl ?_
  refine gWX.top (b := ((9 : Nat) : Int)) (by omega) ?_
  refine x_newL (i := 0) (N := 9) K (by omega) (by rw [hX]; exact fun y hy => absurd hy List.not_mem_nil) (g_mem 1398 (by decide +kernel)) (by omega) (by omega) dL_undone_2 (fun qa E2 hm hx2 K => ?_)
  have hqa := gX_new hx2
  have hI0 : gJv (fun k i2 j => if k = 31 ∧ i2 = 0 then 0 else σ.1 k i2 j, σ.2) Y pm P := gJv_lo ⟨fun a c e q => if_neg (by omega), rfl⟩ hI
  have hKz : uK (fun k i2 j => if k = 31 ∧ i2 = 0 then 0 else σ.1 k i2 j, σ.2) pm P 0 := ⟨by omega, fun t ht => absurd ht (Nat.not_lt_zero t)⟩
  refine x_astorec_2 K dL_undone_4 rfl ?_
  refine x_iconst K dL_undone_5 ?_
  refine x_istore_3 K dL_undone_6 rfl ?_
  refine x_iconst K dL_undone_7 ?_
  refine x_istore_4 K dL_undone_8 rfl ?_
  refine gLp (P := fun n : Nat => ∀ (E1 : gE) (τ : gS) (Y : Nat → Int) (pm : Nat) (P : Nat → Nat → Int) (e : Nat), (gMore E E1 ∧ gK X E1 mL_undone 17 2500 ∧ gJv τ Y pm P ∧ uK τ pm P e ∧ (qa, 31, 0, 9) ∈ gX E1 ∧ e ≤ n) → gWX X E1 (10 + 260 * n) (6 * (10 + 260 * n)) 10 [some (.inl (.ref b)), some (rf 0 0), some (.inl (.ref qa)), some (iv (e : Int)), some (iv (n : Int)), none, none, none, none, none] [] (τ)) (7) (fun k0 => ?_) (fun n hn ih => ?_) ?_
  · refine gWX.le (c' := 10 + 260 * 0) (s' := 6 * (10 + 260 * 0)) (by omega) (by omega) ?_
    exact gWX.to rfl rfl (k0 E2 _ Y pm P 0 ⟨hm, K, hI0, hKz, hqa, by omega⟩)
  · intro E1 τ Y pm P e ⟨mE, K, hτ, hu, hqa, he⟩
    have s1 := gJv_s hτ
    obtain ⟨e9, he9⟩ := List.getElem?_of_mem hqa
    refine x_iload_4 K dL_undone_10 ?_
    refine x_bipush K dL_undone_12 rfl ?_
    refine x_icmp_ge (tgt := 393) K (by omega) dL_undone_14 (by decide) (fun h14 => absurd h14 (by omega)) (fun h14 => ?_)
    refine x_aloadc_0 K dL_undone_17 ?_
    refine x_bipush K dL_undone_18 rfl ?_
    refine x_iload_4 K dL_undone_20 ?_
    refine x_iadd K dL_undone_22 ?_
    refine gWX.top (b := ((72 + n : Nat) : Int)) (by omega) ?_
    refine x_callS2 K (c_cell (hSc_more mE S) (72 + n) (by omega)) mtL_cell msL_cell lkRL_137 ⟨by omega, by omega, by omega⟩ rfl (Nat.le_of_ble_eq_true rfl) dL_undone_23 ?_
    refine x_iconst K dL_undone_26 ?_
    refine x_iushr1 K dL_undone_27 (fun ud ud0 ud1 => ?_)
    refine x_istore_5 K dL_undone_28 rfl ?_
    refine x_iload_5 K dL_undone_30 ?_
    refine x_iconst K dL_undone_32 ?_
    refine x_iushr K (by omega) dL_undone_33 (fun ua ua0 ua1 => ?_)
    refine x_bipush K dL_undone_34 rfl ?_
    refine x_irem K (by omega) dL_undone_36 ?_
    refine x_istore_6 K dL_undone_37 rfl ?_
    refine x_iload_5 K dL_undone_39 ?_
    refine x_bipush K dL_undone_41 rfl ?_
    refine x_iushr K (by omega) dL_undone_43 (fun ub ub0 ub1 => ?_)
    refine x_bipush K dL_undone_44 rfl ?_
    refine x_irem K (by omega) dL_undone_46 ?_
    refine x_istore_7 K dL_undone_47 rfl ?_
    refine x_iload_5 K dL_undone_49 ?_
    refine x_bipush K dL_undone_51 rfl ?_
    refine x_iushr K (by omega) dL_undone_53 (fun uc uc0 uc1 => ?_)
    refine x_bipush K dL_undone_54 rfl ?_
    refine x_irem K (by omega) dL_undone_56 ?_
    refine x_istore_8 K dL_undone_57 rfl ?_
    refine x_aloadc_2 K dL_undone_59 ?_
    refine x_iload_3 K dL_undone_60 ?_
    refine x_aload_1 K dL_undone_61 ?_
    refine x_callS1 K (c_sum Y s1.1 s1.2.1) mtL_sum msL_sum lkRL_294 ⟨by omega, by omega, by omega⟩ rfl (Nat.le_of_ble_eq_true rfl) dL_undone_62 ?_
    refine x_lastX K he9 e rfl (by omega) (by omega) dL_undone_65 ?_
    have hJ1 : gJv (gU τ 31 0 e (pSum Y).toInt) Y pm P := gJv_lo ⟨fun a c f q => if_neg (by omega), rfl⟩ hτ
    have hK1 : uK (gU τ 31 0 e (pSum Y).toInt) pm P e := uK_eq hu (fun j hj => if_neg (by omega))
    have hS1 : (gU τ 31 0 e (pSum Y).toInt).1 31 0 e = (pSum Y).toInt := if_pos ⟨rfl, rfl, rfl⟩
    generalize gU τ 31 0 e (pSum Y).toInt = τ1 at hJ1 hK1 hS1 ⊢
    refine gJn (P := ∀ (E5 : gE) (τ5 : gS) (v : Int), gMore E1 E5 → gK X E5 mL_undone 17 2500 → uS τ1 τ5 v Y pm P → gWX X E5 (10 + 260 * n + 175) (6 * (10 + 260 * n + 175)) 356 [some (.inl (.ref b)), some (rf 0 0), some (.inl (.ref qa)), some (iv (e : Int)), some (iv (n : Int)), none, none, none, none, some (iv v)] [] τ5) (fun kJ => ?_) ?_
    · refine x_iload_5 K dL_undone_66 ?_
      refine x_bipush K dL_undone_68 rfl ?_
      refine x_irem K (by omega) dL_undone_70 ?_
      obtain y | y | y | y | y | y | y | y | y | y | y | y : ud % 13 = 0 ∨ ud % 13 = 1 ∨ ud % 13 = 2 ∨ ud % 13 = 3 ∨ ud % 13 = 4 ∨ ud % 13 = 5 ∨ ud % 13 = 6 ∨ ud % 13 = 7 ∨ ud % 13 = 8 ∨ ud % 13 = 9 ∨ ud % 13 = 10 ∨ 11 ≤ ud % 13 := by omega
      · obtain ⟨v, σ1, hf, hHi, hcs⟩ := q_scroll (E := E1) hJ1 (ub % 7) (uc % 9) (by omega) (by omega)
        have hu9 := u_cs (d := 0) (s := -1) (r := ub % 7) (c := uc % 9) (k := 0) (by omega) (by omega) hJ1 hHi hcs (by omega) (by omega) (by omega)
        refine x_tblIn (tgt := 128) K 0 (by omega) (by omega) (by omega) rfl dL_undone_71 (by decide) ?_
        refine x_aload_1 K dL_undone_128 ?_
        refine x_iload_7 K dL_undone_129 ?_
        refine x_iload_8 K dL_undone_131 ?_
        refine x_callH3 K hf mtL_scroll msL_scroll (g_mem 342 (by decide +kernel)) ⟨by omega, by omega, by omega⟩ rfl (Nat.le_of_ble_eq_true rfl) dL_undone_133 ?_
        refine x_istore_9 K dL_undone_136 rfl ?_
        refine x_goto (tgt := 356) K dL_undone_138 (by decide) ?_
        refine gWX.fgt 5 ?_
        refine gWX.fgt 6 ?_
        refine gWX.fgt 7 ?_
        refine gWX.fgt 8 ?_
        exact gWX.le (by omega) (by omega) (gWX.to rfl rfl (kJ E1 σ1 (v) (gMore.rf E1) K (uS_of hu9)))
      · refine x_tblIn (tgt := 141) K 1 (by omega) (by omega) (by omega) rfl dL_undone_71 (by decide) ?_
        refine x_aload_1 K dL_undone_141 ?_
        refine x_iload_6 K dL_undone_142 ?_
        refine x_iload_7 K dL_undone_144 ?_
        refine x_iload_8 K dL_undone_146 ?_
        refine x_iload_5 K dL_undone_148 ?_
        refine x_bipush K dL_undone_150 rfl ?_
        refine x_iushr K (by omega) dL_undone_152 (fun ux ux0 ux1 => ?_)
        refine x_bipush K dL_undone_153 rfl ?_
        refine x_irem K (by omega) dL_undone_155 ?_
        obtain ⟨v, σ1, hf, hHi, hcs⟩ := q_write (E := E1) hJ1 (ua % 6) (ub % 7) (uc % 9) (ux % 11) (by omega) (by omega) (by omega) (by omega)
        obtain ⟨hv9, hcw⟩ := u_csw hJ1 hcs
        refine x_callH5 K hf mtL_write msL_write (g_mem 567 (by decide +kernel)) ⟨by omega, by omega, by omega⟩ rfl (Nat.le_of_ble_eq_true rfl) dL_undone_156 ?_
        refine x_iconst K dL_undone_159 ?_
        refine x_icmp_ge (tgt := 167) K (by omega) dL_undone_160 (by decide) (fun h160 => ?_) (fun h160 => ?_)
        · skip
          refine x_iconst K dL_undone_167 ?_
          refine x_istore_9 K dL_undone_168 rfl ?_
          refine x_goto (tgt := 356) K dL_undone_170 (by decide) ?_
          refine gWX.fgt 5 ?_
          refine gWX.fgt 6 ?_
          refine gWX.fgt 7 ?_
          refine gWX.fgt 8 ?_
          exact gWX.le (by omega) (by omega) (gWX.to rfl rfl (kJ E1 σ1 (0) (gMore.rf E1) K ⟨fun j => hHi _ _ _ (by omega), by omega, Or.inl ⟨by omega, (hcw.resolve_right (fun y => by omega)).2⟩⟩))
        · refine x_iconst K dL_undone_163 ?_
          refine x_goto (tgt := 168) K dL_undone_164 (by decide) ?_
          refine x_istore_9 K dL_undone_168 rfl ?_
          refine x_goto (tgt := 356) K dL_undone_170 (by decide) ?_
          refine gWX.fgt 5 ?_
          refine gWX.fgt 6 ?_
          refine gWX.fgt 7 ?_
          refine gWX.fgt 8 ?_
          exact gWX.le (by omega) (by omega) (gWX.to rfl rfl (kJ E1 σ1 (-1) (gMore.rf E1) K ⟨fun j => hHi _ _ _ (by omega), by omega, Or.inr ⟨by omega, (hcw.resolve_left (fun y => by omega)).2⟩⟩))
      · refine x_tblIn (tgt := 141) K 2 (by omega) (by omega) (by omega) rfl dL_undone_71 (by decide) ?_
        refine x_aload_1 K dL_undone_141 ?_
        refine x_iload_6 K dL_undone_142 ?_
        refine x_iload_7 K dL_undone_144 ?_
        refine x_iload_8 K dL_undone_146 ?_
        refine x_iload_5 K dL_undone_148 ?_
        refine x_bipush K dL_undone_150 rfl ?_
        refine x_iushr K (by omega) dL_undone_152 (fun ux ux0 ux1 => ?_)
        refine x_bipush K dL_undone_153 rfl ?_
        refine x_irem K (by omega) dL_undone_155 ?_
        obtain ⟨v, σ1, hf, hHi, hcs⟩ := q_write (E := E1) hJ1 (ua % 6) (ub % 7) (uc % 9) (ux % 11) (by omega) (by omega) (by omega) (by omega)
        obtain ⟨hv9, hcw⟩ := u_csw hJ1 hcs
        refine x_callH5 K hf mtL_write msL_write (g_mem 567 (by decide +kernel)) ⟨by omega, by omega, by omega⟩ rfl (Nat.le_of_ble_eq_true rfl) dL_undone_156 ?_
        refine x_iconst K dL_undone_159 ?_
        refine x_icmp_ge (tgt := 167) K (by omega) dL_undone_160 (by decide) (fun h160 => ?_) (fun h160 => ?_)
        · skip
          refine x_iconst K dL_undone_167 ?_
          refine x_istore_9 K dL_undone_168 rfl ?_
          refine x_goto (tgt := 356) K dL_undone_170 (by decide) ?_
          refine gWX.fgt 5 ?_
          refine gWX.fgt 6 ?_
          refine gWX.fgt 7 ?_
          refine gWX.fgt 8 ?_
          exact gWX.le (by omega) (by omega) (gWX.to rfl rfl (kJ E1 σ1 (0) (gMore.rf E1) K ⟨fun j => hHi _ _ _ (by omega), by omega, Or.inl ⟨by omega, (hcw.resolve_right (fun y => by omega)).2⟩⟩))
        · refine x_iconst K dL_undone_163 ?_
          refine x_goto (tgt := 168) K dL_undone_164 (by decide) ?_
          refine x_istore_9 K dL_undone_168 rfl ?_
          refine x_goto (tgt := 356) K dL_undone_170 (by decide) ?_
          refine gWX.fgt 5 ?_
          refine gWX.fgt 6 ?_
          refine gWX.fgt 7 ?_
          refine gWX.fgt 8 ?_
          exact gWX.le (by omega) (by omega) (gWX.to rfl rfl (kJ E1 σ1 (-1) (gMore.rf E1) K ⟨fun j => hHi _ _ _ (by omega), by omega, Or.inr ⟨by omega, (hcw.resolve_left (fun y => by omega)).2⟩⟩))
      · obtain ⟨v, σ1, hf, hHi, hcs⟩ := q_seal (E := E1) hJ1 (ua % 6) (by omega)
        have hu9 := u_cs (d := 4) (s := ua % 6) (r := 0) (c := 0) (k := 0) (by omega) (by omega) hJ1 hHi hcs (by omega) (by omega) (by omega)
        refine x_tblIn (tgt := 173) K 3 (by omega) (by omega) (by omega) rfl dL_undone_71 (by decide) ?_
        refine x_aload_1 K dL_undone_173 ?_
        refine x_iload_6 K dL_undone_174 ?_
        refine x_callH2 K hf mtL_seal msL_seal (g_mem 597 (by decide +kernel)) ⟨by omega, by omega, by omega⟩ rfl (Nat.le_of_ble_eq_true rfl) dL_undone_176 ?_
        refine x_istore_9 K dL_undone_179 rfl ?_
        refine x_goto (tgt := 356) K dL_undone_181 (by decide) ?_
        refine gWX.fgt 5 ?_
        refine gWX.fgt 6 ?_
        refine gWX.fgt 7 ?_
        refine gWX.fgt 8 ?_
        exact gWX.le (by omega) (by omega) (gWX.to rfl rfl (kJ E1 σ1 (v) (gMore.rf E1) K (uS_of hu9)))
      · obtain ⟨v, σ1, hf, hHi, hcs⟩ := q_copy (E := E1) hJ1 (ua % 6) (by omega)
        have hu9 := u_cs (d := 5) (s := ua % 6) (r := 0) (c := 0) (k := 0) (by omega) (by omega) hJ1 hHi hcs (by omega) (by omega) (by omega)
        refine x_tblIn (tgt := 184) K 4 (by omega) (by omega) (by omega) rfl dL_undone_71 (by decide) ?_
        refine x_aload_1 K dL_undone_184 ?_
        refine x_iload_6 K dL_undone_185 ?_
        refine x_callH2 K hf mtL_copy msL_copy (g_mem 621 (by decide +kernel)) ⟨by omega, by omega, by omega⟩ rfl (Nat.le_of_ble_eq_true rfl) dL_undone_187 ?_
        refine x_istore_9 K dL_undone_190 rfl ?_
        refine x_goto (tgt := 356) K dL_undone_192 (by decide) ?_
        refine gWX.fgt 5 ?_
        refine gWX.fgt 6 ?_
        refine gWX.fgt 7 ?_
        refine gWX.fgt 8 ?_
        exact gWX.le (by omega) (by omega) (gWX.to rfl rfl (kJ E1 σ1 (v) (gMore.rf E1) K (uS_of hu9)))
      · refine x_tblIn (tgt := 195) K 5 (by omega) (by omega) (by omega) rfl dL_undone_71 (by decide) ?_
        refine x_aload_1 K dL_undone_195 ?_
        refine x_iload_6 K dL_undone_196 ?_
        refine x_iload_7 K dL_undone_198 ?_
        refine x_iload_8 K dL_undone_200 ?_
        refine x_iload_5 K dL_undone_202 ?_
        refine x_bipush K dL_undone_204 rfl ?_
        refine x_iushr K (by omega) dL_undone_206 (fun ux ux0 ux1 => ?_)
        refine x_bipush K dL_undone_207 rfl ?_
        refine x_irem K (by omega) dL_undone_209 ?_
        obtain ⟨v, σ1, hf, hHi, hcs⟩ := q_slip (E := E1) hJ1 (ua % 6) (ub % 7) (uc % 9) (ux % 11) (by omega) (by omega) (by omega) (by omega)
        have hu9 := u_cs (d := 2) (s := ua % 6) (r := ub % 7) (c := uc % 9) (k := ux % 11) (by omega) (by omega) hJ1 hHi hcs (by omega) (by omega) (by omega)
        refine x_callH5 K hf mtL_slip msL_slip (g_mem 630 (by decide +kernel)) ⟨by omega, by omega, by omega⟩ rfl (Nat.le_of_ble_eq_true rfl) dL_undone_210 ?_
        refine x_istore_9 K dL_undone_213 rfl ?_
        refine x_goto (tgt := 356) K dL_undone_215 (by decide) ?_
        refine gWX.fgt 5 ?_
        refine gWX.fgt 6 ?_
        refine gWX.fgt 7 ?_
        refine gWX.fgt 8 ?_
        exact gWX.le (by omega) (by omega) (gWX.to rfl rfl (kJ E1 σ1 (v) (gMore.rf E1) K (uS_of hu9)))
      · refine x_tblIn (tgt := 195) K 6 (by omega) (by omega) (by omega) rfl dL_undone_71 (by decide) ?_
        refine x_aload_1 K dL_undone_195 ?_
        refine x_iload_6 K dL_undone_196 ?_
        refine x_iload_7 K dL_undone_198 ?_
        refine x_iload_8 K dL_undone_200 ?_
        refine x_iload_5 K dL_undone_202 ?_
        refine x_bipush K dL_undone_204 rfl ?_
        refine x_iushr K (by omega) dL_undone_206 (fun ux ux0 ux1 => ?_)
        refine x_bipush K dL_undone_207 rfl ?_
        refine x_irem K (by omega) dL_undone_209 ?_
        obtain ⟨v, σ1, hf, hHi, hcs⟩ := q_slip (E := E1) hJ1 (ua % 6) (ub % 7) (uc % 9) (ux % 11) (by omega) (by omega) (by omega) (by omega)
        have hu9 := u_cs (d := 2) (s := ua % 6) (r := ub % 7) (c := uc % 9) (k := ux % 11) (by omega) (by omega) hJ1 hHi hcs (by omega) (by omega) (by omega)
        refine x_callH5 K hf mtL_slip msL_slip (g_mem 630 (by decide +kernel)) ⟨by omega, by omega, by omega⟩ rfl (Nat.le_of_ble_eq_true rfl) dL_undone_210 ?_
        refine x_istore_9 K dL_undone_213 rfl ?_
        refine x_goto (tgt := 356) K dL_undone_215 (by decide) ?_
        refine gWX.fgt 5 ?_
        refine gWX.fgt 6 ?_
        refine gWX.fgt 7 ?_
        refine gWX.fgt 8 ?_
        exact gWX.le (by omega) (by omega) (gWX.to rfl rfl (kJ E1 σ1 (v) (gMore.rf E1) K (uS_of hu9)))
      · obtain ⟨v, σ1, hf, hHi, hcs⟩ := q_smudge (E := E1) hJ1 (ua % 6) (ub % 7) (uc % 9) (by omega) (by omega) (by omega)
        have hu9 := u_cs (d := 3) (s := ua % 6) (r := ub % 7) (c := uc % 9) (k := 0) (by omega) (by omega) hJ1 hHi hcs (by omega) (by omega) (by omega)
        refine x_tblIn (tgt := 218) K 7 (by omega) (by omega) (by omega) rfl dL_undone_71 (by decide) ?_
        refine x_aload_1 K dL_undone_218 ?_
        refine x_iload_6 K dL_undone_219 ?_
        refine x_iload_7 K dL_undone_221 ?_
        refine x_iload_8 K dL_undone_223 ?_
        refine x_callH4 K hf mtL_smudge msL_smudge (g_mem 639 (by decide +kernel)) ⟨by omega, by omega, by omega⟩ rfl (Nat.le_of_ble_eq_true rfl) dL_undone_225 ?_
        refine x_istore_9 K dL_undone_228 rfl ?_
        refine x_goto (tgt := 356) K dL_undone_230 (by decide) ?_
        refine gWX.fgt 5 ?_
        refine gWX.fgt 6 ?_
        refine gWX.fgt 7 ?_
        refine gWX.fgt 8 ?_
        exact gWX.le (by omega) (by omega) (gWX.to rfl rfl (kJ E1 σ1 (v) (gMore.rf E1) K (uS_of hu9)))
      · obtain ⟨v, σ1, hf, hHi, hcs⟩ := q_smudge (E := E1) hJ1 (ua % 6) (ub % 7) (uc % 9) (by omega) (by omega) (by omega)
        have hu9 := u_cs (d := 3) (s := ua % 6) (r := ub % 7) (c := uc % 9) (k := 0) (by omega) (by omega) hJ1 hHi hcs (by omega) (by omega) (by omega)
        refine x_tblIn (tgt := 218) K 8 (by omega) (by omega) (by omega) rfl dL_undone_71 (by decide) ?_
        refine x_aload_1 K dL_undone_218 ?_
        refine x_iload_6 K dL_undone_219 ?_
        refine x_iload_7 K dL_undone_221 ?_
        refine x_iload_8 K dL_undone_223 ?_
        refine x_callH4 K hf mtL_smudge msL_smudge (g_mem 639 (by decide +kernel)) ⟨by omega, by omega, by omega⟩ rfl (Nat.le_of_ble_eq_true rfl) dL_undone_225 ?_
        refine x_istore_9 K dL_undone_228 rfl ?_
        refine x_goto (tgt := 356) K dL_undone_230 (by decide) ?_
        refine gWX.fgt 5 ?_
        refine gWX.fgt 6 ?_
        refine gWX.fgt 7 ?_
        refine gWX.fgt 8 ?_
        exact gWX.le (by omega) (by omega) (gWX.to rfl rfl (kJ E1 σ1 (v) (gMore.rf E1) K (uS_of hu9)))
      · obtain ⟨v, σ1, hf, hHi, hcs⟩ := q_mend (E := E1) hJ1 (ua % 6) (by omega)
        have hu9 := u_cs (d := 6) (s := ua % 6) (r := 0) (c := 0) (k := 0) (by omega) (by omega) hJ1 hHi hcs (by omega) (by omega) (by omega)
        refine x_tblIn (tgt := 233) K 9 (by omega) (by omega) (by omega) rfl dL_undone_71 (by decide) ?_
        refine x_aload_1 K dL_undone_233 ?_
        refine x_iload_6 K dL_undone_234 ?_
        refine x_callH2 K hf mtL_mend msL_mend (g_mem 648 (by decide +kernel)) ⟨by omega, by omega, by omega⟩ rfl (Nat.le_of_ble_eq_true rfl) dL_undone_236 ?_
        refine x_istore_9 K dL_undone_239 rfl ?_
        refine x_goto (tgt := 356) K dL_undone_241 (by decide) ?_
        refine gWX.fgt 5 ?_
        refine gWX.fgt 6 ?_
        refine gWX.fgt 7 ?_
        refine gWX.fgt 8 ?_
        exact gWX.le (by omega) (by omega) (gWX.to rfl rfl (kJ E1 σ1 (v) (gMore.rf E1) K (uS_of hu9)))
      · obtain ⟨v, σ1, hf, hHi, hcs⟩ := q_fill (E := E1) hJ1 (ua % 6) (by omega)
        have hu9 := u_cs (d := 7) (s := ua % 6) (r := 0) (c := 0) (k := 0) (by omega) (by omega) hJ1 hHi hcs (by omega) (by omega) (by omega)
        refine x_tblIn (tgt := 244) K 10 (by omega) (by omega) (by omega) rfl dL_undone_71 (by decide) ?_
        refine x_aload_1 K dL_undone_244 ?_
        refine x_iload_6 K dL_undone_245 ?_
        refine x_callH2 K hf mtL_fill msL_fill (g_mem 657 (by decide +kernel)) ⟨by omega, by omega, by omega⟩ rfl (Nat.le_of_ble_eq_true rfl) dL_undone_247 ?_
        refine x_istore_9 K dL_undone_250 rfl ?_
        refine x_goto (tgt := 356) K dL_undone_252 (by decide) ?_
        refine gWX.fgt 5 ?_
        refine gWX.fgt 6 ?_
        refine gWX.fgt 7 ?_
        refine gWX.fgt 8 ?_
        exact gWX.le (by omega) (by omega) (gWX.to rfl rfl (kJ E1 σ1 (v) (gMore.rf E1) K (uS_of hu9)))
      · refine x_tblOut (tgt := 255) K (by omega) (by omega) dL_undone_71 (by decide) ?_
        refine x_aload_1 K dL_undone_255 ?_
        refine x_new33 K (g_mem 888 (by decide +kernel)) (by omega) (by omega) dL_undone_256 (fun a ia G2 ma xa fa K => ?_)
        refine x_dup K dL_undone_259 rfl ?_
        refine x_callC0G K (xJ4_init (gX_new xa) nb_n0 (fun _ => 0)) mtJ4_init_da8c8 (g_mem 276 (by decide +kernel)) ⟨rfl, rfl⟩ (g_mem 889 (by decide +kernel)) ⟨by omega, by omega, by omega⟩ rfl (Nat.le_of_ble_eq_true rfl) dL_undone_260 (fun G3 qv ρ3 qm qq K => ?_)
        obtain ⟨rfl, va3, wa3, q1, q2, q3⟩ := qq
        have nba3 := nb_init ma xa fa qm q1 q2 q3
        refine x_ldcSw (tx := "w0:0,0=") K rfl (g_mem 1303 (by decide +kernel)) lw298_x dL_undone_263 ?_
        refine x_callY1G K (xJ4_append nba3.2.2.1 (Or.inl (ls298 K.2.2.2.2.1)) (Or.inl (by omega)) lb298) mtJ4_append_15ec4 miJ4_append_15ec4 (gRcv_33 K nba3.2.2.1.1) lkRL_249 ⟨by omega, by omega, by omega⟩ rfl (Nat.le_of_ble_eq_true rfl) dL_undone_266 (fun G4 uv ρ4 um uq K => ?_)
        obtain ⟨rfl, va4, wa4, ma4, u1, u2, u3, u4⟩ := uq
        have nba4 := nb_app nba3 um u1 u3 u4
        have mma4 : ma4 = 16 := u2.2.1 (by omega)
        subst mma4
        refine x_iload_5 K dL_undone_269 ?_
        refine x_iconst K dL_undone_271 ?_
        refine x_iushr K (by omega) dL_undone_272 (fun uz uz0 uz1 => ?_)
        refine x_bipush K dL_undone_273 rfl ?_
        refine x_irem K (by omega) dL_undone_275 ?_
        refine x_callY1G K (xJ4_appendI nba4.2.2.1 (uz % 10) (by omega) (Or.inl (by omega))) mtJ4_append_bf812 miJ4_append_bf812 (gRcv_33 K nba4.2.2.1.1) lkRL_252 ⟨by omega, by omega, by omega⟩ rfl (Nat.le_of_ble_eq_true rfl) dL_undone_276 (fun G5 uv ρ5 um uq K => ?_)
        obtain ⟨rfl, va5, wa5, ma5, u1, u2, u3, u4⟩ := uq
        have nba5 := nb_app nba4 um u1 u3 u4
        have mma5 : ma5 = 16 := u2.2.1 (by omega)
        subst mma5
        refine gJn (P := ∀ (E5 : gE) (τ5 : gS) (z k : Nat) (g : Nat → Int), gMore G5 E5 → gK X E5 mL_undone 17 2500 → gFr G5 ρ5 τ5 [] → gSt E5 τ5 z k g [ia, wa5] → (12 ≤ k ∧ k ≤ 13) → (∀ j, j < k → 0 ≤ g j ∧ g j < 128) → gWX X E5 (10 + 260 * n + 120) (6 * (10 + 260 * n + 120)) 345 [some (.inl (.ref b)), some (rf 0 0), some (.inl (.ref qa)), some (iv (e : Int)), some (iv (n : Int)), some (iv ud), some (iv (ua % 6)), some (iv (ub % 7)), some (iv (uc % 9)), none] [.inl (.ref z), .inl (.ref a), rf 0 0] τ5) (fun kR => ?_) ?_
        · refine x_iload_5 K dL_undone_279 ?_
          refine x_bipush K dL_undone_281 rfl ?_
          refine x_irem K (by omega) dL_undone_283 ?_
          refine x_bipush K dL_undone_284 rfl ?_
          refine x_icmp_ge (tgt := 319) K (by omega) dL_undone_286 (by decide) (fun h286 => ?_) (fun h286 => ?_)
          · skip
            refine x_new33 K (g_mem 888 (by decide +kernel)) (by omega) (by omega) dL_undone_319 (fun b2 ib F2 mb2 xb2 fb2 K => ?_)
            refine x_dup K dL_undone_322 rfl ?_
            refine x_callC0G K (xJ4_init (gX_new xb2) nb_n0 (fun _ => 0)) mtJ4_init_da8c8 (g_mem 276 (by decide +kernel)) ⟨rfl, rfl⟩ (g_mem 889 (by decide +kernel)) ⟨by omega, by omega, by omega⟩ rfl (Nat.le_of_ble_eq_true rfl) dL_undone_323 (fun F3 qv ς3 qm qq K => ?_)
            obtain ⟨rfl, vx3, wx3, q1, q2, q3⟩ := qq
            have nbx3 := nb_init mb2 xb2 fb2 qm q1 q2 q3
            refine x_ldcSw (tx := ";x0:0,0;f0;m") K rfl (g_mem 1305 (by decide +kernel)) lw302_x dL_undone_326 ?_
            refine x_callY1G K (xJ4_append nbx3.2.2.1 (Or.inl (ls302 K.2.2.2.2.1)) (Or.inl (by omega)) lb302) mtJ4_append_15ec4 miJ4_append_15ec4 (gRcv_33 K nbx3.2.2.1.1) lkRL_249 ⟨by omega, by omega, by omega⟩ rfl (Nat.le_of_ble_eq_true rfl) dL_undone_329 (fun F4 uv ς4 um uq K => ?_)
            obtain ⟨rfl, vx4, wx4, mx4, u1, u2, u3, u4⟩ := uq
            have nbx4 := nb_app nbx3 um u1 u3 u4
            have mmx4 : mx4 = 16 := u2.2.1 (by omega)
            subst mmx4
            refine x_iload_5 K dL_undone_332 ?_
            refine x_bipush K dL_undone_334 rfl ?_
            refine x_iushr K (by omega) dL_undone_336 (fun uy uy0 uy1 => ?_)
            refine x_iconst K dL_undone_337 ?_
            refine x_irem K (by omega) dL_undone_338 ?_
            refine x_callY1G K (xJ4_appendI nbx4.2.2.1 (uy % 3) (by omega) (Or.inl (by omega))) mtJ4_append_bf812 miJ4_append_bf812 (gRcv_33 K nbx4.2.2.1.1) lkRL_252 ⟨by omega, by omega, by omega⟩ rfl (Nat.le_of_ble_eq_true rfl) dL_undone_339 (fun F5 uv ς5 um uq K => ?_)
            obtain ⟨rfl, vx5, wx5, mx5, u1, u2, u3, u4⟩ := uq
            have nbx5 := nb_app nbx4 um u1 u3 u4
            have mmx5 : mx5 = 16 := u2.2.1 (by omega)
            subst mmx5
            refine x_callY0G K (xJ4_toString nbx5.2.2.1 (by omega) (by omega)) mtJ4_toString_0e30d miJ4_toString_0e30d (gRcv_33 K nbx5.2.2.1.1) lkRL_255 ⟨by omega, by omega, by omega⟩ rfl (Nat.le_of_ble_eq_true rfl) dL_undone_342 (fun F6 uv ς6 um uq K => ?_)
            obtain ⟨zt, rfl, zts, u10⟩ := uq
            have fr6 := nbx5.2.1.tr nbx5.1 u10 (fun c hc => absurd hc List.not_mem_nil)
            have m6 := nbx5.1.tr um
            refine gWX.le (by omega) (by omega) (kR F6 ς6 zt _ _ m6 K fr6 (zts [ia, wa5] (fun c hc => ?_)) (by omega) (gCat_bd (gCat_bd (fun j hj => absurd hj (Nat.not_lt_zero j)) lb302) (fun j hj => by (try dsimp only); omega)))
            rcases List.mem_cons.mp hc with rfl | hc
            · exact ⟨_, gMem_more nbx5.1 nba5.2.2.1.1, rfl⟩
            · rw [List.mem_singleton.mp hc]
              exact ⟨_, gMem_more nbx5.1 nba5.2.2.1.2.1, rfl⟩
          · refine x_new33 K (g_mem 888 (by decide +kernel)) (by omega) (by omega) dL_undone_289 (fun b2 ib F2 mb2 xb2 fb2 K => ?_)
            refine x_dup K dL_undone_292 rfl ?_
            refine x_callC0G K (xJ4_init (gX_new xb2) nb_n0 (fun _ => 0)) mtJ4_init_da8c8 (g_mem 276 (by decide +kernel)) ⟨rfl, rfl⟩ (g_mem 889 (by decide +kernel)) ⟨by omega, by omega, by omega⟩ rfl (Nat.le_of_ble_eq_true rfl) dL_undone_293 (fun F3 qv ς3 qm qq K => ?_)
            obtain ⟨rfl, vx3, wx3, q1, q2, q3⟩ := qq
            have nbx3 := nb_init mb2 xb2 fb2 qm q1 q2 q3
            refine x_ldcSw (tx := ";s0;e0:0,0+") K rfl (g_mem 1304 (by decide +kernel)) lw300_x dL_undone_296 ?_
            refine x_callY1G K (xJ4_append nbx3.2.2.1 (Or.inl (ls300 K.2.2.2.2.1)) (Or.inl (by omega)) lb300) mtJ4_append_15ec4 miJ4_append_15ec4 (gRcv_33 K nbx3.2.2.1.1) lkRL_249 ⟨by omega, by omega, by omega⟩ rfl (Nat.le_of_ble_eq_true rfl) dL_undone_299 (fun F4 uv ς4 um uq K => ?_)
            obtain ⟨rfl, vx4, wx4, mx4, u1, u2, u3, u4⟩ := uq
            have nbx4 := nb_app nbx3 um u1 u3 u4
            have mmx4 : mx4 = 16 := u2.2.1 (by omega)
            subst mmx4
            refine x_iload_5 K dL_undone_302 ?_
            refine x_bipush K dL_undone_304 rfl ?_
            refine x_iushr K (by omega) dL_undone_306 (fun uy uy0 uy1 => ?_)
            refine x_bipush K dL_undone_307 rfl ?_
            refine x_irem K (by omega) dL_undone_309 ?_
            refine x_callY1G K (xJ4_appendI nbx4.2.2.1 (uy % 10) (by omega) (Or.inl (by omega))) mtJ4_append_bf812 miJ4_append_bf812 (gRcv_33 K nbx4.2.2.1.1) lkRL_252 ⟨by omega, by omega, by omega⟩ rfl (Nat.le_of_ble_eq_true rfl) dL_undone_310 (fun F5 uv ς5 um uq K => ?_)
            obtain ⟨rfl, vx5, wx5, mx5, u1, u2, u3, u4⟩ := uq
            have nbx5 := nb_app nbx4 um u1 u3 u4
            have mmx5 : mx5 = 16 := u2.2.1 (by omega)
            subst mmx5
            refine x_callY0G K (xJ4_toString nbx5.2.2.1 (by omega) (by omega)) mtJ4_toString_0e30d miJ4_toString_0e30d (gRcv_33 K nbx5.2.2.1.1) lkRL_255 ⟨by omega, by omega, by omega⟩ rfl (Nat.le_of_ble_eq_true rfl) dL_undone_313 (fun F6 uv ς6 um uq K => ?_)
            obtain ⟨zt, rfl, zts, u10⟩ := uq
            have fr6 := nbx5.2.1.tr nbx5.1 u10 (fun c hc => absurd hc List.not_mem_nil)
            have m6 := nbx5.1.tr um
            refine x_goto (tgt := 345) K dL_undone_316 (by decide) ?_
            refine gWX.le (by omega) (by omega) (kR F6 ς6 zt _ _ m6 K fr6 (zts [ia, wa5] (fun c hc => ?_)) (by omega) (gCat_bd (gCat_bd (fun j hj => absurd hj (Nat.not_lt_zero j)) lb300) (fun j hj => by (try dsimp only); omega)))
            rcases List.mem_cons.mp hc with rfl | hc
            · exact ⟨_, gMem_more nbx5.1 nba5.2.2.1.1, rfl⟩
            · rw [List.mem_singleton.mp hc]
              exact ⟨_, gMem_more nbx5.1 nba5.2.2.1.2.1, rfl⟩
        · intro E5 τ5 z k g mE5 K fr5 hst hk9 hbg
          have nb5 := nba5.kept mE5 fr5
          refine x_callY1G K (xJ4_append nb5.2.2.1 hst (Or.inr ⟨rfl, by omega⟩) hbg) mtJ4_append_15ec4 miJ4_append_15ec4 (gRcv_33 K nb5.2.2.1.1) lkRL_249 ⟨by omega, by omega, by omega⟩ rfl (Nat.le_of_ble_eq_true rfl) dL_undone_345 (fun E6 uv τ6 um uq K => ?_)
          obtain ⟨rfl, v6, w6, m6, u1, u2, u3, u4⟩ := uq
          have nb6 := nb_app nb5 um u1 u3 u4
          have mm6 : m6 = 34 := by
            have a1 := u2.1
            have a2 := u2.2.2
            omega
          subst mm6
          refine x_callY0G K (xJ4_toString nb6.2.2.1 (by omega) (by omega)) mtJ4_toString_0e30d miJ4_toString_0e30d (gRcv_33 K nb6.2.2.1.1) lkRL_255 ⟨by omega, by omega, by omega⟩ rfl (Nat.le_of_ble_eq_true rfl) dL_undone_348 (fun E7 uv τ7 um uq K => ?_)
          obtain ⟨zz, rfl, zzs, u10⟩ := uq
          have fr7 := nb6.2.1.tr nb6.1 u10 (fun c hc => absurd hc List.not_mem_nil)
          have m7 := nb6.1.tr um
          have hJ7 := gJv_fr fr7 hJ1
          have hbz := gCat_bd (n := 0 + 7 + 1) (k := k) (gCat_bd (n := 0 + 7) (k := 1) (gCat_bd (n := 0) (k := 7) (f := fun _ => 0) (fun j hj => absurd hj (Nat.not_lt_zero j)) lb298) (g := fun _ => 48 + uz % 10) (fun j hj => by (try dsimp only); omega)) hbg
          refine x_callS2G K (c_read (zzs [] (fun c hc => absurd hc List.not_mem_nil)) (by omega) hbz hJ7) mtL_read msL_read lkRL_304 ⟨by omega, by omega, by omega⟩ rfl (Nat.le_of_ble_eq_true rfl) dL_undone_351 (fun E8 yv τ8 ym yq K => ?_)
          obtain ⟨v, rfl, hu8⟩ := yq
          have hS8 : uS τ1 τ8 v Y pm P := ⟨fun j => (hu8.1 _ _ _ (by omega)).trans (fr7.2.2 _ hqa List.not_mem_nil 31 j), hu8.2⟩
          refine x_istore_9 K dL_undone_354 rfl ?_
          refine gWX.fgt 5 ?_
          refine gWX.fgt 6 ?_
          refine gWX.fgt 7 ?_
          refine gWX.fgt 8 ?_
          exact gWX.le (by omega) (by omega) (gWX.to rfl rfl (kJ E8 τ8 (v) (m7.tr ym) K hS8))
    · intro E5 τ5 v mE5 K hS5
      have hvr := hS5.2.1
      rcases hS5.2.2 with ⟨hv, Y2, hJ5⟩ | ⟨hv, hJ5⟩
      · refine x_iload_9 K dL_undone_356 ?_
        refine x_if_ge (tgt := 374) K (by omega) dL_undone_358 (by decide) (fun h358 => ?_) (fun h358 => absurd h358 (by omega))
        refine x_iload_3 K dL_undone_374 ?_
        refine x_iload_9 K dL_undone_375 ?_
        refine x_if_ge (tgt := 384) K (by omega) dL_undone_377 (by decide) (fun h377 => ?_) (fun h377 => absurd h377 (by omega))
        refine x_iconst K dL_undone_384 ?_
        refine x_iadd K dL_undone_385 ?_
        refine gWX.top (b := ((e + 1 : Nat) : Int)) (by omega) ?_
        refine x_istore_3 K dL_undone_386 rfl ?_
        refine x_iinc_4 K dL_undone_387 rfl ?_
        refine x_goto (tgt := 10) K dL_undone_390 (by decide) ?_
        refine gWX.fgt 5 ?_
        refine gWX.fgt 6 ?_
        refine gWX.fgt 7 ?_
        refine gWX.fgt 8 ?_
        refine gWX.fgt 9 ?_
        exact gWX.le (by omega) (by omega) (gWX.to rfl rfl (ih E5 τ5 Y2 (gPn pm) (gPu P pm Y) (e + 1) ⟨mE.tr mE5, K, hJ5, (uK_up (uK_eq hK1 (fun j hj => hS5.1 j)) (by omega) s1.2.2.2.2 s1.2.2.2.1 (by rw [hS5.1 e, hS1, Int64.ofInt_toInt])), gMem_more mE5 hqa, by omega⟩))
      · have s5 := gJv_s hJ5
        refine x_iload_9 K dL_undone_356 ?_
        refine x_if_ge (tgt := 374) K (by omega) dL_undone_358 (by decide) (fun h358 => absurd h358 (by omega)) (fun h358 => ?_)
        refine x_aload_1 K dL_undone_361 ?_
        refine x_callS1 K (c_sum Y s5.1 s5.2.1) mtL_sum msL_sum lkRL_294 ⟨by omega, by omega, by omega⟩ rfl (Nat.le_of_ble_eq_true rfl) dL_undone_362 ?_
        refine x_aloadc_2 K dL_undone_365 ?_
        refine x_iload_3 K dL_undone_366 ?_
        obtain ⟨e8, he8⟩ := List.getElem?_of_mem (gMem_more mE5 hqa)
        refine x_laldX K he8 e rfl (by omega) (by omega) dL_undone_367 ?_
        refine x_lcmpE K (by rw [hS5.1 e, hS1, Int64.ofInt_toInt]) dL_undone_368 ?_
        refine x_if_eq (tgt := 374) K (by omega) dL_undone_369 (by decide) (fun h369 => ?_) (fun h369 => absurd rfl h369)
        refine x_iload_3 K dL_undone_374 ?_
        refine x_iload_9 K dL_undone_375 ?_
        refine x_if_ge (tgt := 384) K (by omega) dL_undone_377 (by decide) (fun h377 => absurd h377 (by omega)) (fun h377 => ?_)
        refine x_iconst K dL_undone_380 ?_
        refine x_goto (tgt := 385) K dL_undone_381 (by decide) ?_
        refine x_iadd K dL_undone_385 ?_
        refine gWX.top (b := (e : Int)) (by omega) ?_
        refine x_istore_3 K dL_undone_386 rfl ?_
        refine x_iinc_4 K dL_undone_387 rfl ?_
        refine x_goto (tgt := 10) K dL_undone_390 (by decide) ?_
        refine gWX.fgt 5 ?_
        refine gWX.fgt 6 ?_
        refine gWX.fgt 7 ?_
        refine gWX.fgt 8 ?_
        refine gWX.fgt 9 ?_
        exact gWX.le (by omega) (by omega) (gWX.to rfl rfl (ih E5 τ5 Y pm P e ⟨mE.tr mE5, K, hJ5, (uK_eq hK1 (fun j hj => hS5.1 j)), gMem_more mE5 hqa, by omega⟩))
  · intro E1 τ Y pm P e ⟨mE, K, hτ, hu, hqa, he⟩
    obtain ⟨e9, he9⟩ := List.getElem?_of_mem hqa
    refine x_iload_4 K dL_undone_10 ?_
    refine x_bipush K dL_undone_12 rfl ?_
    refine x_icmp_ge (tgt := 393) K (by omega) dL_undone_14 (by decide) (fun h14 => ?_) (fun h14 => absurd h14 (by omega))
    refine x_iload_3 K dL_undone_393 ?_
    refine x_iconst K dL_undone_394 ?_
    refine x_isub K dL_undone_395 ?_
    refine x_istore_4 K dL_undone_396 rfl ?_
    refine gLp (P := fun t : Nat => ∀ (τ2 : gS) (Y2 : Nat → Int) (pm2 : Nat) (P2 : Nat → Nat → Int), (gJv τ2 Y2 pm2 P2 ∧ uK τ2 pm2 P2 (e - t)) → gWX X E1 (10 + 260 * 7 + 85 * t) (6 * (10 + 260 * 7 + 85 * t)) 398 [some (.inl (.ref b)), some (rf 0 0), some (.inl (.ref qa)), some (iv (e : Int)), some (iv ((e : Int) - 1 - (t : Int))), none, none, none, none, none] [] (τ2)) (e) (fun k0 => ?_) (fun t ht ihb => ?_) ?_
    · exact gWX.to (by rw [show (e : Int) - 1 - ((0 : Nat) : Int) = (e : Int) - 1 by omega]) rfl (k0 τ Y pm P ⟨hτ, hu⟩)
    · intro τ2 Y2 pm2 P2 ⟨hJ2, hK2⟩
      obtain ⟨j0, hj0⟩ : ∃ j0, pm2 = j0 + 1 := ⟨pm2 - 1, by have := hK2.1; omega⟩
      rw [show e - t = (e - (t + 1)) + 1 by omega] at hK2
      obtain ⟨hK3, hg3, hs3⟩ := uK_dn hK2 hj0
      obtain ⟨σ2, hf2, hHi2, hJ3⟩ := q_undo (E := E1) hJ2 hj0 hg3
      have s3 := gJv_s hJ3
      have pm8 := (gJv_s hJ2).2.2.2.2
      have hK4 : uK σ2 j0 P2 (e - (t + 1)) := uK_eq hK3 (fun j hj => hHi2 _ _ _ (by omega))
      have es : σ2.1 31 0 (e - (t + 1)) = τ2.1 31 0 (e - (t + 1)) := hHi2 _ _ _ (by omega)
      refine x_iload_4 K dL_undone_398 ?_
      refine x_if_lt (tgt := 430) K (by omega) dL_undone_400 (by decide) (fun h400 => absurd h400 (by omega)) (fun h400 => ?_)
      refine x_aload_1 K dL_undone_403 ?_
      refine x_callH1 K hf2 mtL_undo msL_undo (g_mem 1227 (by decide +kernel)) ⟨by omega, by omega, by omega⟩ rfl (Nat.le_of_ble_eq_true rfl) dL_undone_404 ?_
      refine x_if_lt (tgt := 422) K (by omega) dL_undone_407 (by decide) (fun h407 => absurd h407 (by omega)) (fun h407 => ?_)
      refine x_aload_1 K dL_undone_410 ?_
      refine x_callS1 K (c_sum _ s3.1 s3.2.1) mtL_sum msL_sum lkRL_294 ⟨by omega, by omega, by omega⟩ rfl (Nat.le_of_ble_eq_true rfl) dL_undone_411 ?_
      refine x_aloadc_2 K dL_undone_414 ?_
      refine x_iload_4 K dL_undone_415 ?_
      refine x_laldX K he9 (e - (t + 1)) (by omega) (by omega) (by omega) dL_undone_417 ?_
      refine x_lcmpE K (by rw [es]; exact hs3.symm) dL_undone_418 ?_
      refine x_if_eq (tgt := 424) K (by omega) dL_undone_419 (by decide) (fun h419 => ?_) (fun h419 => absurd rfl h419)
      refine x_iinc_4 K dL_undone_424 rfl ?_
      refine x_goto (tgt := 398) K dL_undone_427 (by decide) ?_
      exact gWX.le (by omega) (by omega) (gWX.to (by rw [show (e : Int) - 1 - (t : Int) + -1 = (e : Int) - 1 - ((t + 1 : Nat) : Int) by omega]) rfl (ihb σ2 _ j0 P2 ⟨hJ3, hK4⟩))
    · intro τ2 Y2 pm2 P2 ⟨hJ2, hK2⟩
      refine x_iload_4 K dL_undone_398 ?_
      refine x_if_lt (tgt := 430) K (by omega) dL_undone_400 (by decide) (fun h400 => ?_) (fun h400 => absurd h400 (by omega))
      refine x_iconst K dL_undone_430 ?_
      exact x_zretR K K0 mE hX hE rfl dL_undone_431 (by omega) (by omega) (Or.inr rfl) (gEqv.rf _) rfl
