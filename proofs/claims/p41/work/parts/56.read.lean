/-! ===== reading a text ===== -/
theorem g_run_n {T : Nat → Int} {l : Nat} : ∀ (n : Nat) (s : Int) (Y : Nat → Int), 0 ≤ (g_run T l n s Y).1 ∧ (g_run T l n s Y).1 ≤ (n : Int)
  | 0, s, Y => by show (0 : Int) ≤ 0 ∧ (0 : Int) ≤ 0; omega
  | n + 1, s, Y => by
    rw [g_run_1]
    split
    · show (0 : Int) ≤ 0 ∧ (0 : Int) ≤ ((n + 1 : Nat) : Int); omega
    · split
      · show (0 : Int) ≤ 1 ∧ (1 : Int) ≤ ((n + 1 : Nat) : Int); omega
      · have := g_run_n (T := T) (l := l) n (t_nx T l s) (rdY T l s Y)
        show (0 : Int) ≤ (g_run T l n (t_nx T l s) (rdY T l s Y)).1 + 1 ∧ (g_run T l n (t_nx T l s) (rdY T l s Y)).1 + 1 ≤ ((n + 1 : Nat) : Int)
        omega
theorem g_run_G {T : Nat → Int} {l : Nat} : ∀ (n : Nat) (s : Int) {Y : Nat → Int}, gY Y → gGd Y → gGd (g_run T l n s Y).2.2 ∧ (g_run T l n s Y).2.1 < 800
  | 0, s, Y, hY, hg => ⟨hg, by show (0 : Int) < 800; omega⟩
  | n + 1, s, Y, hY, hg => by
    have hsp := t_dd_spec T l s
    rw [g_run_1]
    split
    · exact ⟨hg, by show (0 : Int) < 800; omega⟩
    · split
      · rename_i h0 h1
        refine ⟨hg, ?_⟩
        have b := gOb_cs (d := t_dd T l s) hY (rdN T l s 0) (rdN T l s 1) (rdN T l s 2) (rdN T l s 3) hsp.1
        show rdB T l s Y < 800
        unfold rdB
        omega
      · rename_i h0 h1
        have h1' := Classical.byContradiction h1
        exact g_run_G n _ (gCoY_Y h1' hY hsp.1) (gGd_co h1' hY hsp.1 hg)
/-- what a step may have come to: a change that can be undone, or nothing -/
def uR (σ σ1 : gS) (v : Int) (Y : Nat → Int) (pm : Nat) (P : Nat → Nat → Int) : Prop := gHi σ σ1 ∧ (-1000000 ≤ v ∧ v < 1000000) ∧ ((0 ≤ v ∧ ∃ Y2, gJv σ1 Y2 (gPn pm) (gPu P pm Y)) ∨ (v < 0 ∧ gJv σ1 Y pm P))
theorem gHi_tr {σ σ1 σ2 : gS} (h : gHi σ σ1) (h2 : gHi σ1 σ2) : gHi σ σ2 := fun a b c q => (h2 a b c q).trans (h a b c q)
theorem q_append {E : gE} {σ : gS} {Y : Nat → Int} {pm : Nat} {P : Nat → Nat → Int} (hI : gJv σ Y pm P) (c : Int) (hc : 0 ≤ c ∧ c < 65536) : ∃ (v : Int) (σ1 : gS), hCt E mL_append hhL_append 13 1 [rf 0 0, iv c] σ (.inl (some (iv v))) σ1 ∧ gHi σ σ1 ∧ gJv σ1 Y pm P ∧ (-1 ≤ v ∧ v ≤ 61) := by
  obtain ⟨sv, S, rs, dt, er, T, l, k, w, h1, h2, h3⟩ := hI
  have hin := h1.2.2.2.1
  have hl := hin.2.1
  by_cases q : l < 60
  · exact ⟨_, _, l_append _ _ 0 1 (by omega) (c6_append T l hin q c hc), gHi_u _ _ _ _ (by omega) (gHi_u _ _ _ _ (by omega) gHi_rf), ⟨sv, S, rs, dt, er, _, _, k, w, CI_ap q hc h2 h1, h2, h3⟩, by omega, by omega⟩
  · exact ⟨-1, σ, l_append_1 _ 1 1 (by omega) (c6_append_1 T l hin (by omega) c), gHi_rf, ⟨sv, S, rs, dt, er, T, l, k, w, h1, h2, h3⟩, by omega, by omega⟩
theorem q_reads {E : gE} {σ : gS} {Y : Nat → Int} {pm : Nat} {P : Nat → Nat → Int} (hI : gJv σ Y pm P) : ∃ (v : Int) (σ1 : gS), hCt E mL_reads hhL_reads 13 1 [rf 0 0] σ (.inl (some (iv v))) σ1 ∧ uR σ σ1 v Y pm P := by
  obtain ⟨sv, S9, rs, dt, er, T, l, k, w, hC, hV, hg⟩ := hI
  have hY := hV.1
  have h6 := hC.1.1
  have hin := hC.2.2.2.1
  by_cases he : t_err T l 60 0 = -1
  · have hr := g_run_Y (T := T) (l := l) 60 0 hY
    have hG := g_run_G (T := T) (l := l) 60 0 hY hg
    have hn := g_run_n (T := T) (l := l) 60 0 Y
    have hc6 := c6_read (E := E) Y h6 hY T l hin hC.1.2.1 he
    have hV1 := VI_er (e9 := -1) (by omega) hV
    by_cases h0 : (g_run T l 60 0 Y).2.1 = 0
    · rw [show rdO (g_run T l 60 0 Y) = .inl (some (iv (g_run T l 60 0 Y).1)) from if_pos h0] at hc6
      have es : rdS σ Y (g_run T l 60 0 Y) = gRem (rd3 σ Y (g_run T l 60 0 Y).2.2) Y := if_pos h0
      have hV3 := VI_y hr.1 hV1
      have hV2 := VI_pu (g_run T l 60 0 Y).2.2 hr.1 hV1
      have hCi : CI (rdS σ Y (g_run T l 60 0 Y)) (g_run T l 60 0 Y).2.2 (gPn pm) (gPu P pm Y) sv S9 rs dt (-1) T 0 k w := by rw [es]; exact CI_remg hY hV3 (CI_rd3 hr.1 hV hC)
      exact ⟨_, _, l_reads _ 1 1 (by omega) hc6, gHi_rdS, by omega, Or.inl ⟨hn.1, _, sv, S9, rs, dt, -1, T, 0, k, w, hCi, hV2, hG.1⟩⟩
    · by_cases h1 : (g_run T l 60 0 Y).2.1 < 100
      · rw [show rdO (g_run T l 60 0 Y) = .inr "java/lang/IllegalArgumentException" from (if_neg h0).trans (if_pos h1)] at hc6
        have es : rdS σ Y (g_run T l 60 0 Y) = rd4 σ Y (g_run T l 60 0 Y).2.2 := (if_neg h0).trans (if_pos h1)
        have hCi : CI (rdS σ Y (g_run T l 60 0 Y)) Y pm P sv S9 rs dt (-1) T 0 k w := by rw [es]; exact CI_rd4 hr.1 hV hC
        exact ⟨_, _, l_reads_1 1 1 (by omega) hc6, gHi_rdS, by omega, Or.inr ⟨by omega, sv, S9, rs, dt, -1, T, 0, k, w, hCi, hV1, hg⟩⟩
      · rw [show rdO (g_run T l 60 0 Y) = .inr "java/lang/UnsupportedOperationException" from (if_neg h0).trans (if_neg h1)] at hc6
        have es : rdS σ Y (g_run T l 60 0 Y) = gRf (rd4 σ Y (g_run T l 60 0 Y).2.2) (g_run T l 60 0 Y).2.1 := (if_neg h0).trans (if_neg h1)
        have h8 := hG.2
        have hV2 := VI_rs (r9 := (g_run T l 60 0 Y).2.1 / 100) (by omega) hV1
        have hCi : CI (rdS σ Y (g_run T l 60 0 Y)) Y pm P sv S9 ((g_run T l 60 0 Y).2.1 / 100) ((g_run T l 60 0 Y).2.1 % 100) (-1) T 0 k w := by rw [es]; exact CI_rf _ hV1 (CI_rd4 hr.1 hV hC)
        exact ⟨_, _, l_reads_2 1 1 (by omega) hc6, gHi_rdS, by omega, Or.inr ⟨by omega, sv, S9, _, _, -1, T, 0, k, w, hCi, hV2, hg⟩⟩
  · have hb := t_err_bd (T := T) (l := l) 60 (s := 0) (by omega)
    have hV1 := VI_er (e9 := t_err T l 60 0) (by omega) hV
    have hHi : gHi σ (rdE σ (t_err T l 60 0)) := gHi_u _ _ _ _ (by omega) (gHi_u _ _ _ _ (by omega) gHi_rf)
    have hCi : CI (rdE σ (t_err T l 60 0)) Y pm P sv S9 rs dt (t_err T l 60 0) T 0 k w := CI_er hV hC (by unfold rdE; rw [gU_at, if_neg (by omega)]; rfl) rfl (fun a b c q1 q2 q3 q4 => by unfold rdE; rw [gU_at, if_neg (by omega), gU_at, if_neg (by omega)]) rfl
    exact ⟨_, _, l_reads_1 1 1 (by omega) (c6_read_e T l hin he), hHi, by omega, Or.inr ⟨by omega, sv, S9, rs, dt, _, T, 0, k, w, hCi, hV1, hg⟩⟩
theorem gSt.hi {E : gE} {σ σ' : gS} {z n : Nat} {f : Nat → Int} {l : List Nat} (h : gSt E σ z n f l) (hh : gHi σ σ') : gSt E σ' z n f l := by
  rcases h with h | ⟨i, v, w, h1, h2, h3, h4, h5, h6, h7⟩
  · exact Or.inl h
  · exact Or.inr ⟨i, v, w, h1, h2, h3, h4, (hh _ _ _ (by omega)).trans h5, (hh _ _ _ (by omega)).trans h6, fun j hj => (hh _ _ _ (by omega)).trans (h7 j hj)⟩
theorem c_read {E : gE} {σ : gS} {z n : Nat} {f : Nat → Int} (h : gSt E σ z n f []) (hn : n ≤ 34) (hb : ∀ j, j < n → 0 ≤ f j ∧ f j < 128) {Y : Nat → Int} {pm : Nat} {P : Nat → Nat → Int} (hI : gJv σ Y pm P) : gCtG E mL_read 14 40 [rf 0 0, .inl (.ref z)] σ (fun E2 rv σ2 => ∃ v : Int, rv = some (iv v) ∧ uR σ σ2 v Y pm P) := by
  refine gCtG_of (L := [some (rf 0 0), some (.inl (.ref z)), none]) (by decide +kernel) rfl rfl (Nat.le_of_ble_eq_true rfl) (fun X K hnm hE => ?_)
  have hZ : gSt E σ z n f [] := h
  refine x_iconst K dL_read_0 ?_
  refine x_istore_2 K dL_read_1 rfl ?_
  refine gLp (P := fun i : Nat => ∀ τ : gS, (gJv τ Y pm P ∧ gHi σ τ) → gWX X E i (6 * i) 2 [some (rf 0 0), some (.inl (.ref z)), some (iv (i : Int))] [] (τ)) (n) (fun k0 => ?_) (fun i hi ih => ?_) ?_
  · exact gWX.to rfl rfl (k0 σ ⟨hI, gHi_rf⟩)
  · intro τ ⟨hτ, hh⟩
    skip
    refine x_iload_2 K dL_read_2 ?_
    refine x_aloadc_1 K dL_read_3 ?_
    refine x_callY0 K (xJ0_length (h.hi hh)) mtJ0_length_8abf5 miJ0_length_8abf5 (gSt_rcv K (h.hi hh)) lkRL_111 ⟨by omega, by omega, by omega⟩ rfl (Nat.le_of_ble_eq_true rfl) dL_read_4 ?_
    refine x_icmp_ge (tgt := 34) K (by omega) dL_read_7 (by decide) (fun h7 => absurd h7 (by omega)) (fun h7 => ?_)
    refine x_aload_0 K dL_read_10 ?_
    refine x_aloadc_1 K dL_read_11 ?_
    refine x_iload_2 K dL_read_12 ?_
    refine x_callY1 K (xJ0_charAt (h.hi hh) (by omega) hb i hi) mtJ0_charAt_5068e miJ0_charAt_5068e (gSt_rcv K (h.hi hh)) lkRL_116 ⟨by omega, by omega, by omega⟩ rfl (Nat.le_of_ble_eq_true rfl) dL_read_13 ?_
    have hbi := hb i hi
    obtain ⟨va, τ1, t1, t2, t3, t4⟩ := q_append (E := E) hτ (f i) (by omega)
    refine x_callH2 K t1 mtL_append msL_append (g_mem 1325 (by decide +kernel)) ⟨by omega, by omega, by omega⟩ rfl (Nat.le_of_ble_eq_true rfl) dL_read_16 ?_
    refine x_iload_2 K dL_read_19 ?_
    refine x_iconst K dL_read_20 ?_
    refine x_iadd K dL_read_21 ?_
    refine x_icmp_eq (tgt := 28) K (by omega) dL_read_22 (by decide) (fun h22 => ?_) (fun h22 => ?_)
    · refine x_iinc_2 K dL_read_28 rfl ?_
      refine x_goto (tgt := 2) K dL_read_31 (by decide) ?_
      exact gWX.le (by omega) (by omega) (gWX.to rfl rfl (ih τ1 ⟨t3, gHi_tr hh t2⟩))
    · refine x_bipush K dL_read_25 rfl ?_
      exact x_iretG K (gMore.rf E) hE rfl dL_read_27 (by omega) (by omega) ⟨-9, rfl, gHi_tr hh t2, by omega, Or.inr ⟨by omega, t3⟩⟩
  · intro τ ⟨hτ, hh⟩
    skip
    refine x_iload_2 K dL_read_2 ?_
    refine x_aloadc_1 K dL_read_3 ?_
    refine x_callY0 K (xJ0_length (h.hi hh)) mtJ0_length_8abf5 miJ0_length_8abf5 (gSt_rcv K (h.hi hh)) lkRL_111 ⟨by omega, by omega, by omega⟩ rfl (Nat.le_of_ble_eq_true rfl) dL_read_4 ?_
    refine x_icmp_ge (tgt := 34) K (by omega) dL_read_7 (by decide) (fun h7 => ?_) (fun h7 => absurd h7 (by omega))
    obtain ⟨va, τ1, t1, t2⟩ := q_reads (E := E) hτ
    refine x_aload_0 K dL_read_34 ?_
    refine x_callH1 K t1 mtL_reads msL_reads (g_mem 1341 (by decide +kernel)) ⟨by omega, by omega, by omega⟩ rfl (Nat.le_of_ble_eq_true rfl) dL_read_35 ?_
    exact x_iretG K (gMore.rf E) hE rfl dL_read_38 (by omega) (by omega) ⟨va, rfl, gHi_tr hh t2.1, t2.2.1, t2.2.2⟩
