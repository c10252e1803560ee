/-! ===== ScrollChecksModel: read ===== -/
theorem gPz_start (σ : gS) : gU (gU (gU σ 14 0 15 0) 14 0 16 0) 14 0 19 0 = gPz σ 0 0 0 (σ.1 22 0) :=
  (congrArg (fun τ => gU (gU (gU τ 14 0 15 0) 14 0 16 0) 14 0 19 0) (gPz_0 σ)).trans (by rw [gPz_p, gPz_b, gPz_m])
abbrev m_R (σ : gS) (T : Nat → Int) (l : Nat) : (Nat × Int) × Nat × (Nat → Int) := m_prs T l 60 0 0 (σ.1 22 0)
/-- behind the taking apart: e the place of the error or -1, b whether there is one -/
def rd7 (σ : gS) (R : (Nat × Int) × Nat × (Nat → Int)) (b e : Int) : gS := gU (gU (gPz σ (R.1.1 : Int) b (R.2.1 : Int) R.2.2) 14 0 17 e) 14 0 14 0
def rdX (τ : gS) (k : Nat) : gS := if k = 0 then gKp τ else gU (gKp τ) 14 0 10 0
abbrev rdK (τ : gS) : gS := gU (gKp τ) 14 0 10 0
theorem rdX_put (τ : gS) (k : Nat) (Y : Nat → Int) : gU (gMp (rdX τ k) Y) 14 0 10 0 = gMp (rdK τ) Y := gS_ext (fun a b c => by
  rw [gU_at, gMp_at, gMp_at, gU_at]
  unfold rdX
  by_cases q : a = 14 ∧ b = 0 ∧ c = 10
  · rw [if_pos q, if_neg (by omega), if_pos q]
  · rw [if_neg q, if_neg q]
    by_cases q2 : a = 15 ∧ b = 0 ∧ c < 345
    · rw [if_pos q2, if_pos q2]
    · rw [if_neg q2, if_neg q2]
      split
      · rfl
      · rw [gU_at, if_neg q]) (by unfold rdX; split <;> rfl)
theorem rdX_1 (τ : gS) (k : Nat) : rdX τ (k + 1) = rdK τ := if_neg (by omega)
theorem rdX_at (τ : gS) (k : Nat) {a b c : Nat} (h : ¬ (a = 14 ∧ c = 10)) : (rdX τ k).1 a b c = (gKp τ).1 a b c := by
  unfold rdX
  split
  · rfl
  · rw [gU_at, if_neg (by omega)]
/-- what a refused order leaves -/
def rdS7 (τ : gS) (pm : Nat) (R : Int × Int × (Nat → Int)) : gS := if R.2.1 = 0 then gEn (gMp (rdK τ) R.2.2) pm else if R.2.1 < 100 then gFl (rdK τ) 1 else gRu (rdK τ) 2 (R.2.1 / 100) (R.2.1 % 100)
theorem rdK_ms {τ : gS} {Y : Nat → Int} (h : gMs τ Y) : gMs (rdK τ) Y := gMs_u (gKp_ms h) 10 0
theorem rdK_b {τ : gS} {Y : Nat → Int} (h : gMs τ Y) : ∀ j, j < 345 → (rdK τ).1 16 0 j = Y j := fun j hj => by
  rw [gU_at, if_neg (by omega)]
  exact gKp_b h j hj
theorem gMO_f1 {d : Nat} {σ : gS} {Y : Nat → Int} {s r c k : Int} (h : gOb d Y s r c k ≠ 0) (h2 : gOb d Y s r c k ≤ 2) : gMO d σ Y s r c k = gFl σ (gOb d Y s r c k) := by
  unfold gMO; rw [if_neg h, if_pos h2]
theorem gMO_r1 {d : Nat} {σ : gS} {Y : Nat → Int} {s r c k : Int} (h : gOb d Y s r c k ≠ 0) (h2 : ¬ gOb d Y s r c k ≤ 2) : gMO d σ Y s r c k = gRu σ (if d = 2 then 3 else 2) (gOb d Y s r c k / 100) (gOb d Y s r c k % 100) := by
  unfold gMO; rw [if_neg h, if_neg h2]
/-- thrown and refused, behind a deed -/
def m_th (d : Nat) (ob : Int) : Int := if ob = 0 then 0 else if ob ≤ 2 then ob else if d = 2 then 3 else 2
theorem gMO_th {d : Nat} {σ : gS} {Y : Nat → Int} {s r c k : Int} (h7 : σ.1 14 0 7 = 0) : (gMO d σ Y s r c k).1 14 0 7 = m_th d (gOb d Y s r c k) := by
  unfold gMO m_th
  split
  · rw [gMp_at, if_neg (by omega)]; exact h7
  · split <;> rfl
theorem gMO_rf {d : Nat} {σ : gS} {Y : Nat → Int} {s r c k : Int} (h7 : σ.1 14 0 10 = 0) (h : gOb d Y s r c k ≠ 0) : (gMO d σ Y s r c k).1 14 0 10 = if gOb d Y s r c k ≤ 2 then 0 else 1 := by
  unfold gMO
  rw [if_neg h]
  split
  · rw [gU_at, if_neg (by omega)]; exact h7
  · rfl
theorem rd_back1 {τ : gS} {Y Y2 : Nat → Int} (h : gMs τ Y) (v : Int) : gCp (gU (gFl (gMp (rdK τ) Y2) v) 14 0 7 1) 16 0 15 0 0 0 345 = gFl (rdK τ) 1 := gS_ext (fun a b x => by
  rw [gU_gU, gCp_at]
  by_cases q : a = 15 ∧ b = 0 ∧ 0 ≤ x ∧ x < 0 + 345
  · rw [if_pos q, q.1, q.2.1, gU_at, if_neg (by omega), gMp_at, if_neg (by omega), show 0 + (x - 0) = x by omega, rdK_b h x (by omega), gU_at, if_neg (by omega)]
    exact (rdK_ms h x (by omega)).symm
  · rw [if_neg q, gU_at, gU_at, gMp_at]
    by_cases q2 : a = 14 ∧ b = 0 ∧ x = 7
    · rw [if_pos q2, if_pos q2]
    · rw [if_neg q2, if_neg q2, if_neg (by omega)]) rfl
theorem rd_back2 {τ : gS} {Y Y2 : Nat → Int} (h : gMs τ Y) (p w d : Int) : gCp (gU (gRu (gMp (rdK τ) Y2) p w d) 14 0 7 2) 16 0 15 0 0 0 345 = gRu (rdK τ) 2 w d := gS_ext (fun a b x => by
  rw [gCp_at]
  by_cases q : a = 15 ∧ b = 0 ∧ 0 ≤ x ∧ x < 0 + 345
  · rw [if_pos q, q.1, q.2.1]
    simp only [gU_at, gMp_at]
    rw [if_neg (by omega), if_neg (by omega), if_neg (by omega), if_neg (by omega), if_neg (by omega), if_neg (by omega), if_neg (by omega), show 0 + (x - 0) = x by omega, if_neg (by omega), if_neg (by omega), if_neg (by omega), if_neg (by omega), if_neg (by omega)]
    have e1 := gKp_b h x (by omega)
    have e2 := gKp_ms h x (by omega)
    exact e1.trans e2.symm
  · rw [if_neg q]
    simp only [gU_at, gMp_at]
    by_cases q2 : a = 14 ∧ b = 0 ∧ x = 7
    · rw [if_pos q2, if_neg (by omega), if_neg (by omega), if_neg (by omega), if_pos q2]
    · rw [if_neg q2, if_neg (c := a = 14 ∧ b = 0 ∧ x = 7) q2, if_neg (c := a = 14 ∧ b = 0 ∧ x = 7) q2]
      by_cases q3 : a = 15 ∧ b = 0 ∧ x < 345
      · exact absurd ⟨q3.1, q3.2.1, by omega, by omega⟩ q
      · rw [if_neg q3]) rfl
theorem c7_read_e {E : gE} {σ : gS} (T : Nat → Int) (l : Nat) (hI : gI7 σ T l) (he : t_err T l 60 0 ≠ -1) : gCt E mX7_read 12 0 [rf 14 0] σ (.inl (some (iv (0)))) (gFl (rd7 σ (m_R σ T l) 1 (t_err T l 60 0)) 1) := by
  refine gCt_of (L := [some (rf 14 0), none]) (by decide +kernel) rfl rfl (Nat.le_of_ble_eq_true rfl) (fun X K hE => ?_)
  have hee : t_err T l 60 0 = m_e l (m_R σ T l) := m_err (T := T) (l := l) 60 0 0 (σ.1 22 0) (by omega)
  refine x_aload_0 K dX7_read_0 ?_
  refine x_iconst K dX7_read_1 ?_
  refine x_putI K gpRX7_214 ⟨by decide, (by decide)⟩ dX7_read_2 ?_
  refine x_aload_0 K dX7_read_5 ?_
  refine x_iconst K dX7_read_6 ?_
  refine x_putZ K gpRX7_211 ⟨by decide, (by decide)⟩ (by omega) dX7_read_7 ?_
  refine x_aload_0 K dX7_read_10 ?_
  refine x_iconst K dX7_read_11 ?_
  refine x_putI K gpRX7_236 ⟨by decide, (by decide)⟩ dX7_read_12 ?_
  refine gWX.eq (σ' := gPz σ ((0 : Nat) : Int) 0 ((0 : Nat) : Int) (σ.1 22 0)) (gPz_start σ) ?_
  refine x_aload_0 K dX7_read_15 ?_
  refine x_callV0v K (c7_readOrder T l hI 0 0 (σ.1 22 0) (by omega) (by omega)) mtX7_readOrder miX7_readOrder rc14 ⟨by decide, (by decide)⟩ lkRX7_243 ⟨by decide, by decide, by decide⟩ rfl (Nat.le_of_ble_eq_true rfl) dX7_read_16 ?_
  refine gLp (P := fun i : Nat => ∀ (s m : Nat) (O : Nat → Int), (s ≤ l ∧ 3 * i ≤ s ∧ m = i ∧ m_R σ T l = m_prs T l (60 - i) s m O) → gWX X E 0 0 19 [some (rf 14 0), none] [] (gPrs σ (m_ro T l s m O))) (21) (fun k0 => ?_) (fun i hi ih => ?_) ?_
  · exact gWX.to rfl rfl (k0 0 0 (σ.1 22 0) ⟨by omega, by omega, rfl, rfl⟩)
  · intro s m O hy
    obtain ⟨y1, y2, y3, y4⟩ := hy
    have hrq := m_ro_q (T := T) (m := m) (O := O) y1
    have hI2 := hI.2.1
    rw [show 60 - i = (60 - (i + 1)) + 1 by omega, m_prs_1] at y4
    refine x_aload_0 K dX7_read_19 ?_
    refine x_bipush K dX7_read_20 rfl ?_
    refine x_bipush K dX7_read_22 rfl ?_
    refine x_callV2 K (c7_isHere T l hI (m_ro T l s m O).1 hrq ((m_ro T l s m O).2.1 : Int) (m_ro T l s m O).2.2 59 59 (by omega)) mtX7_isHere miX7_isHere rc14 ⟨by decide, (by decide)⟩ lkRX7_217 ⟨by decide, by decide, by decide⟩ rfl (Nat.le_of_ble_eq_true rfl) dX7_read_24 ?_
    have b9 := gB1_bd (m_h T l (m_ro T l s m O).1 59 59)
    refine x_if_eq (tgt := 47) K (by omega) dX7_read_27 (by decide) (fun h27 => ?_) (fun h27 => ?_)
    · have hx : ¬ m_h T l (m_ro T l s m O).1 59 59 := fun q => by rw [gB1_t q] at h27; omega
      have y5 : m_R σ T l = (m_ro T l s m O) := by
        rw [y4, if_neg (fun q => hx (by
          have h3 := q.2.2
          rw [t_at_nat (by have := q.2.1; omega)] at h3
          exact ⟨q.1, by have := q.2.1; omega, by rw [h3]; exact Int.le_refl _, by rw [h3]; exact Int.le_refl _⟩))]
      rw [← y5]
      have hI2 := hI.2.1
      have hRq : m_q l (m_R σ T l).1 := by rw [y5]; exact hrq
      have hq1 := hRq.1
      have hq2 := hRq.2
      refine x_aload_0 K dX7_read_47 ?_
      refine x_aload_0 K dX7_read_48 ?_
      refine x_getI K gfRX7_211 ⟨by decide, (by decide)⟩ dX7_read_49 ?_
      refine gWX.top (b := (m_R σ T l).1.2) rfl ?_
      refine x_if_ne (tgt := 66) K (by omega) dX7_read_52 (by decide) (fun h52 => ?_) (fun h52 => ?_)
      · refine x_iconst K dX7_read_66 ?_
        refine x_goto (tgt := 71) K dX7_read_67 (by decide) ?_
        refine x_putZ K gpRX7_211 ⟨by decide, (by decide)⟩ (by omega) dX7_read_71 ?_
        refine gWX.eq (σ' := gPz σ ((m_R σ T l).1.1 : Int) 1 ((m_R σ T l).2.1 : Int) (m_R σ T l).2.2) (gPz_b _ _ _ _ _ _) ?_
        have e9 : t_err T l 60 0 = ((m_R σ T l).1.1 : Int) := hee.trans (if_pos (by omega))
        refine x_aload_0 K dX7_read_74 ?_
        refine x_aload_0 K dX7_read_75 ?_
        refine x_getI K gfRX7_211 ⟨by decide, (by decide)⟩ dX7_read_76 ?_
        refine gWX.top (b := 1) rfl ?_
        refine x_if_eq (tgt := 89) K (by omega) dX7_read_79 (by decide) (fun h79 => absurd h79 (by omega)) (fun h79 => ?_)
        refine x_aload_0 K dX7_read_82 ?_
        refine x_getI K gfRX7_214 ⟨by decide, (by decide)⟩ dX7_read_83 ?_
        refine x_goto (tgt := 90) K dX7_read_86 (by decide) ?_
        refine gWX.top (b := t_err T l 60 0) e9.symm ?_
        refine x_putI K gpRX7_32 ⟨by decide, (by decide)⟩ dX7_read_90 ?_
        refine x_aload_0 K dX7_read_93 ?_
        refine x_iconst K dX7_read_94 ?_
        refine x_putI K gpRX7_209 ⟨by decide, (by decide)⟩ dX7_read_95 ?_
        refine x_aload_0 K dX7_read_98 ?_
        refine x_getI K gfRX7_211 ⟨by decide, (by decide)⟩ dX7_read_99 ?_
        refine gWX.top (b := 1) rfl ?_
        refine x_if_eq (tgt := 111) K (by omega) dX7_read_102 (by decide) (fun h102 => absurd h102 (by omega)) (fun h102 => ?_)
        refine x_aload_0 K dX7_read_105 ?_
        refine x_iconst K dX7_read_106 ?_
        refine x_callV1 K (c7_fails 1) mtX7_fails miX7_fails rc14 ⟨by decide, (by decide)⟩ lkRX7_124 ⟨by decide, by decide, by decide⟩ rfl (Nat.le_of_ble_eq_true rfl) dX7_read_107 ?_
        exact x_iret K hE rfl dX7_read_110 (by decide) (by decide) rfl rfl
      · refine x_aload_0 K dX7_read_55 ?_
        refine x_getI K gfRX7_214 ⟨by decide, (by decide)⟩ dX7_read_56 ?_
        refine gWX.top (b := ((m_R σ T l).1.1 : Int)) rfl ?_
        refine x_aload_0 K dX7_read_59 ?_
        refine x_getI K gfRX7_209 ⟨by decide, (by decide)⟩ dX7_read_60 ?_
        refine gWX.top (b := (l : Int)) hI.1 ?_
        refine x_icmp_ge (tgt := 70) K (by omega) dX7_read_63 (by decide) (fun h63 => absurd (hee.trans (if_neg (fun y => by rcases y with y | y; exact y (by omega); omega))) he) (fun h63 => ?_)
        refine x_iconst K dX7_read_66 ?_
        refine x_goto (tgt := 71) K dX7_read_67 (by decide) ?_
        refine x_putZ K gpRX7_211 ⟨by decide, (by decide)⟩ (by omega) dX7_read_71 ?_
        refine gWX.eq (σ' := gPz σ ((m_R σ T l).1.1 : Int) 1 ((m_R σ T l).2.1 : Int) (m_R σ T l).2.2) (gPz_b _ _ _ _ _ _) ?_
        have e9 : t_err T l 60 0 = ((m_R σ T l).1.1 : Int) := hee.trans (if_pos (by omega))
        refine x_aload_0 K dX7_read_74 ?_
        refine x_aload_0 K dX7_read_75 ?_
        refine x_getI K gfRX7_211 ⟨by decide, (by decide)⟩ dX7_read_76 ?_
        refine gWX.top (b := 1) rfl ?_
        refine x_if_eq (tgt := 89) K (by omega) dX7_read_79 (by decide) (fun h79 => absurd h79 (by omega)) (fun h79 => ?_)
        refine x_aload_0 K dX7_read_82 ?_
        refine x_getI K gfRX7_214 ⟨by decide, (by decide)⟩ dX7_read_83 ?_
        refine x_goto (tgt := 90) K dX7_read_86 (by decide) ?_
        refine gWX.top (b := t_err T l 60 0) e9.symm ?_
        refine x_putI K gpRX7_32 ⟨by decide, (by decide)⟩ dX7_read_90 ?_
        refine x_aload_0 K dX7_read_93 ?_
        refine x_iconst K dX7_read_94 ?_
        refine x_putI K gpRX7_209 ⟨by decide, (by decide)⟩ dX7_read_95 ?_
        refine x_aload_0 K dX7_read_98 ?_
        refine x_getI K gfRX7_211 ⟨by decide, (by decide)⟩ dX7_read_99 ?_
        refine gWX.top (b := 1) rfl ?_
        refine x_if_eq (tgt := 111) K (by omega) dX7_read_102 (by decide) (fun h102 => absurd h102 (by omega)) (fun h102 => ?_)
        refine x_aload_0 K dX7_read_105 ?_
        refine x_iconst K dX7_read_106 ?_
        refine x_callV1 K (c7_fails 1) mtX7_fails miX7_fails rc14 ⟨by decide, (by decide)⟩ lkRX7_124 ⟨by decide, by decide, by decide⟩ rfl (Nat.le_of_ble_eq_true rfl) dX7_read_107 ?_
        exact x_iret K hE rfl dX7_read_110 (by decide) (by decide) rfl rfl
    · have hx : m_h T l (m_ro T l s m O).1 59 59 := Classical.byContradiction (fun q => h27 (gB1_f q))
      have hx59 : t_is T l ((m_ro T l s m O).1.1 : Int) 59 := ⟨by have := hx.2.1; omega, (t_at_nat hx.2.1).trans (by have h3 := hx.2.2.1; have h4 := hx.2.2.2; omega)⟩
      have y5 : m_R σ T l = m_prs T l (60 - (i + 1)) ((m_ro T l s m O).1.1 + 1) (m_ro T l s m O).2.1 (m_ro T l s m O).2.2 := by
        rw [y4, if_pos ⟨hx.1, hx59⟩]
      have hgo : s + 3 ≤ (m_ro T l s m O).1.1 + 1 ∧ (m_ro T l s m O).2.1 = m + 1 := by
        by_cases q0 : t_dd T l (s : Int) = 0
        · have h3 := hx.1
          rw [m_ro_0 q0] at h3
          exact absurd h3 (by show ¬ (1 : Int) = 0; omega)
        · have hsp := t_dd_spec T l (s : Int)
          have hd1 : 1 ≤ t_dd T l (s : Int) := by omega
          by_cases hm : t_mis T l (s : Int) (t_dd T l (s : Int)) = -1
          · have e1 := (m_fin_ok hsp.1 hd1 hm).1
            have hp := gDb_pos _ hsp.1 hd1
            rw [m_ro_1 q0, e1]
            exact ⟨by show s + 3 ≤ s + (gDb (t_dd T l (s : Int))).length + 1; omega, rfl⟩
          · obtain ⟨x, ex, e1, _⟩ := m_fin_bad hsp.1 hd1 (hsp.2.1 q0) hm
            have h3 := hx.1
            rw [m_ro_1 q0, e1] at h3
            exact absurd h3 (by show ¬ (1 : Int) = 0; omega)
      refine x_aload_0 K dX7_read_30 ?_
      refine x_dup K dX7_read_31 rfl ?_
      refine x_getI K gfRX7_214 ⟨by decide, (by decide)⟩ dX7_read_32 ?_
      refine gWX.top (b := ((m_ro T l s m O).1.1 : Int)) rfl ?_
      refine x_iconst K dX7_read_35 ?_
      refine x_iadd K dX7_read_36 ?_
      refine x_putI K gpRX7_214 ⟨by decide, (by decide)⟩ dX7_read_37 ?_
      refine gWX.eq (σ' := gPz σ (((m_ro T l s m O).1.1 + 1 : Nat) : Int) 0 ((m_ro T l s m O).2.1 : Int) (m_ro T l s m O).2.2) ((gPz_p _ _ _ _ _ _).trans (by rw [hx.1]; rfl)) ?_
      refine x_aload_0 K dX7_read_40 ?_
      refine x_callV0v K (c7_readOrder T l hI ((m_ro T l s m O).1.1 + 1) (m_ro T l s m O).2.1 (m_ro T l s m O).2.2 (by have := hx.2.1; omega) (by omega)) mtX7_readOrder miX7_readOrder rc14 ⟨by decide, (by decide)⟩ lkRX7_243 ⟨by decide, by decide, by decide⟩ rfl (Nat.le_of_ble_eq_true rfl) dX7_read_41 ?_
      refine x_goto (tgt := 19) K dX7_read_44 (by decide) ?_
      refine gWX.to rfl rfl (ih _ _ _ ⟨?_, ?_, ?_, y5⟩)
      · have := hx.2.1; omega
      · omega
      · omega
  · intro s m O hy
    refine x_aload_0 K dX7_read_19 ?_
    exfalso
    have hI2 := hI.2.1
    omega
theorem c7_read {E : gE} {σ : gS} (T : Nat → Int) (l : Nat) (hI : gI7 σ T l) (Y : Nat → Int) (h : gMs σ Y) (hY : gY Y) (pm : Nat) (hp : σ.1 14 0 6 = (pm : Int)) (hp8 : pm ≤ 8) (he : t_err T l 60 0 = -1) : gCt E mX7_read 12 0 [rf 14 0] σ (.inl (some (iv (if (g_run T l 60 0 Y).2.1 = 0 then (g_run T l 60 0 Y).1 else 0)))) (rdS7 (rd7 σ (m_R σ T l) 0 (-1)) pm (g_run T l 60 0 Y)) := by
  refine gCt_of (L := [some (rf 14 0), none]) (by decide +kernel) rfl rfl (Nat.le_of_ble_eq_true rfl) (fun X K hE => ?_)
  have hee : t_err T l 60 0 = m_e l (m_R σ T l) := m_err (T := T) (l := l) 60 0 0 (σ.1 22 0) (by omega)
  refine x_aload_0 K dX7_read_0 ?_
  refine x_iconst K dX7_read_1 ?_
  refine x_putI K gpRX7_214 ⟨by decide, (by decide)⟩ dX7_read_2 ?_
  refine x_aload_0 K dX7_read_5 ?_
  refine x_iconst K dX7_read_6 ?_
  refine x_putZ K gpRX7_211 ⟨by decide, (by decide)⟩ (by omega) dX7_read_7 ?_
  refine x_aload_0 K dX7_read_10 ?_
  refine x_iconst K dX7_read_11 ?_
  refine x_putI K gpRX7_236 ⟨by decide, (by decide)⟩ dX7_read_12 ?_
  refine gWX.eq (σ' := gPz σ ((0 : Nat) : Int) 0 ((0 : Nat) : Int) (σ.1 22 0)) (gPz_start σ) ?_
  refine x_aload_0 K dX7_read_15 ?_
  refine x_callV0v K (c7_readOrder T l hI 0 0 (σ.1 22 0) (by omega) (by omega)) mtX7_readOrder miX7_readOrder rc14 ⟨by decide, (by decide)⟩ lkRX7_243 ⟨by decide, by decide, by decide⟩ rfl (Nat.le_of_ble_eq_true rfl) dX7_read_16 ?_
  refine gLp (P := fun i : Nat => ∀ (s m : Nat) (O : Nat → Int), (s ≤ l ∧ 3 * i ≤ s ∧ m = i ∧ m_R σ T l = m_prs T l (60 - i) s m O) → gWX X E 0 0 19 [some (rf 14 0), none] [] (gPrs σ (m_ro T l s m O))) (21) (fun k0 => ?_) (fun i hi ih => ?_) ?_
  · exact gWX.to rfl rfl (k0 0 0 (σ.1 22 0) ⟨by omega, by omega, rfl, rfl⟩)
  · intro s m O hy
    obtain ⟨y1, y2, y3, y4⟩ := hy
    have hrq := m_ro_q (T := T) (m := m) (O := O) y1
    have hI2 := hI.2.1
    rw [show 60 - i = (60 - (i + 1)) + 1 by omega, m_prs_1] at y4
    refine x_aload_0 K dX7_read_19 ?_
    refine x_bipush K dX7_read_20 rfl ?_
    refine x_bipush K dX7_read_22 rfl ?_
    refine x_callV2 K (c7_isHere T l hI (m_ro T l s m O).1 hrq ((m_ro T l s m O).2.1 : Int) (m_ro T l s m O).2.2 59 59 (by omega)) mtX7_isHere miX7_isHere rc14 ⟨by decide, (by decide)⟩ lkRX7_217 ⟨by decide, by decide, by decide⟩ rfl (Nat.le_of_ble_eq_true rfl) dX7_read_24 ?_
    have b9 := gB1_bd (m_h T l (m_ro T l s m O).1 59 59)
    refine x_if_eq (tgt := 47) K (by omega) dX7_read_27 (by decide) (fun h27 => ?_) (fun h27 => ?_)
    · have hx : ¬ m_h T l (m_ro T l s m O).1 59 59 := fun q => by rw [gB1_t q] at h27; omega
      have y5 : m_R σ T l = (m_ro T l s m O) := by
        rw [y4, if_neg (fun q => hx (by
          have h3 := q.2.2
          rw [t_at_nat (by have := q.2.1; omega)] at h3
          exact ⟨q.1, by have := q.2.1; omega, by rw [h3]; exact Int.le_refl _, by rw [h3]; exact Int.le_refl _⟩))]
      rw [← y5]
      have hI2 := hI.2.1
      have hRq : m_q l (m_R σ T l).1 := by rw [y5]; exact hrq
      have hq1 := hRq.1
      have hq2 := hRq.2
      refine x_aload_0 K dX7_read_47 ?_
      refine x_aload_0 K dX7_read_48 ?_
      refine x_getI K gfRX7_211 ⟨by decide, (by decide)⟩ dX7_read_49 ?_
      refine gWX.top (b := (m_R σ T l).1.2) rfl ?_
      refine x_if_ne (tgt := 66) K (by omega) dX7_read_52 (by decide) (fun h52 => absurd (hee.symm.trans he) (by rw [show m_e l (m_R σ T l) = ((m_R σ T l).1.1 : Int) from if_pos (Or.inl h52)]; omega)) (fun h52 => ?_)
      refine x_aload_0 K dX7_read_55 ?_
      refine x_getI K gfRX7_214 ⟨by decide, (by decide)⟩ dX7_read_56 ?_
      refine gWX.top (b := ((m_R σ T l).1.1 : Int)) rfl ?_
      refine x_aload_0 K dX7_read_59 ?_
      refine x_getI K gfRX7_209 ⟨by decide, (by decide)⟩ dX7_read_60 ?_
      refine gWX.top (b := (l : Int)) hI.1 ?_
      refine x_icmp_ge (tgt := 70) K (by omega) dX7_read_63 (by decide) (fun h63 => ?_) (fun h63 => absurd (hee.symm.trans he) (by rw [show m_e l (m_R σ T l) = ((m_R σ T l).1.1 : Int) from if_pos (Or.inr (by omega))]; omega))
      refine x_iconst K dX7_read_70 ?_
      refine x_putZ K gpRX7_211 ⟨by decide, (by decide)⟩ (by omega) dX7_read_71 ?_
      refine gWX.eq (σ' := gPz σ ((m_R σ T l).1.1 : Int) 0 ((m_R σ T l).2.1 : Int) (m_R σ T l).2.2) (gPz_b _ _ _ _ _ _) ?_
      have hz0 : (m_R σ T l).1.2 = 0 := by omega
      have hgd : m_good T l (m_R σ T l).2.2 (m_R σ T l).2.1 60 0 0 ∧ (∀ c, c < 5 * 0 → (m_R σ T l).2.2 c = σ.1 22 0 c) ∧ 0 < (m_R σ T l).2.1 := m_prs_good (T := T) (l := l) 60 0 0 (σ.1 22 0) (by omega) hz0 (show l ≤ (m_R σ T l).1.1 by omega)
      have hM : 2 * (m_R σ T l).2.1 ≤ l + 2 * 0 - 0 + 2 ∨ (m_R σ T l).2.1 = 0 := m_good_M 60 0 0 hgd.1
      have hM1 : 0 < (m_R σ T l).2.1 := hgd.2.2
      have hM30 : (m_R σ T l).2.1 ≤ 31 := by omega
      refine x_aload_0 K dX7_read_74 ?_
      refine x_aload_0 K dX7_read_75 ?_
      refine x_getI K gfRX7_211 ⟨by decide, (by decide)⟩ dX7_read_76 ?_
      refine gWX.top (b := 0) rfl ?_
      refine x_if_eq (tgt := 89) K (by omega) dX7_read_79 (by decide) (fun h79 => ?_) (fun h79 => absurd rfl h79)
      refine x_iconst K dX7_read_89 ?_
      refine x_putI K gpRX7_32 ⟨by decide, (by decide)⟩ dX7_read_90 ?_
      refine x_aload_0 K dX7_read_93 ?_
      refine x_iconst K dX7_read_94 ?_
      refine x_putI K gpRX7_209 ⟨by decide, (by decide)⟩ dX7_read_95 ?_
      refine x_aload_0 K dX7_read_98 ?_
      refine x_getI K gfRX7_211 ⟨by decide, (by decide)⟩ dX7_read_99 ?_
      refine gWX.top (b := 0) rfl ?_
      refine x_if_eq (tgt := 111) K (by omega) dX7_read_102 (by decide) (fun h102 => ?_) (fun h102 => absurd rfl h102)
      refine gWX.eq (σ' := (rd7 σ (m_R σ T l) 0 (-1))) rfl ?_
      have hms : gMs (rd7 σ (m_R σ T l) 0 (-1)) Y := fun j hj => (h j hj)
      refine x_aload_0 K dX7_read_111 ?_
      refine x_callV0v K c7_keep mtX7_keep miX7_keep rc14 ⟨by decide, (by decide)⟩ lkRX7_121 ⟨by decide, by decide, by decide⟩ rfl (Nat.le_of_ble_eq_true rfl) dX7_read_112 ?_
      refine x_iconst K dX7_read_115 ?_
      refine x_istore_1 K dX7_read_116 rfl ?_
      refine gLp (P := fun k : Nat => ∀ (s : Nat) (Z : Nat → Int), (m_good T l (m_R σ T l).2.2 (m_R σ T l).2.1 (60 - k) s k ∧ gY Z ∧ 3 * k ≤ s ∧ g_run T l 60 0 Y = ((k : Int) + (g_run T l (60 - k) (s : Int) Z).1, (g_run T l (60 - k) (s : Int) Z).2)) → gWX X E 0 0 117 [some (rf 14 0), some (iv (k : Int))] [] (gMp (rdX (rd7 σ (m_R σ T l) 0 (-1)) k) Z)) ((m_R σ T l).2.1) (fun k0 => ?_) (fun k hk ih => ?_) ?_
      · exact gWX.to rfl (by show gKp _ = _; exact (gMp_self (gKp_ms hms)).symm) (k0 0 Y ⟨hgd.1, hY, by omega, by rw [show (((0 : Nat) : Int)) + (g_run T l (60 - 0) ((0 : Nat) : Int) Y).1 = (g_run T l (60 - 0) ((0 : Nat) : Int) Y).1 by omega]; rfl⟩)
      · intro s Z hz
        obtain ⟨z1, z2, z3, z4⟩ := hz
        have z5 : k < (m_R σ T l).2.1 ∧ s < l ∧ (t_dd T l (s : Int)) ≠ 0 ∧ (m_R σ T l).2.2 (5 * k) = gD1 (t_dd T l (s : Int)) ∧ (∀ i, i < 4 → (m_R σ T l).2.2 (5 * k + (i + 1)) = rdN T l (s : Int) i) ∧ m_good T l (m_R σ T l).2.2 (m_R σ T l).2.1 (60 - (k + 1)) (s + (gDb (t_dd T l (s : Int))).length + 1) (k + 1) := by
          rw [show 60 - k = (60 - (k + 1)) + 1 by omega] at z1
          rcases z1 with z1 | z1
          · omega
          · exact z1
        have z6 : g_run T l (60 - k) (s : Int) Z = if rdB T l (s : Int) Z ≠ 0 then (1, rdB T l (s : Int) Z, Z) else ((g_run T l (60 - (k + 1)) (t_nx T l (s : Int)) (rdY T l (s : Int) Z)).1 + 1, (g_run T l (60 - (k + 1)) (t_nx T l (s : Int)) (rdY T l (s : Int) Z)).2) := by
          rw [show 60 - k = (60 - (k + 1)) + 1 by omega, g_run_1, if_neg (by omega)]
        have hsp := t_dd_spec T l (s : Int)
        have hI2 := hI.2.1
        have nb := fun i => t_num_bd (T := T) (l := l) (s : Int) (t_dd T l (s : Int)) i
        have nb0 : 0 ≤ (rdN T l (s : Int) 0) ∧ (rdN T l (s : Int) 0) ≤ 9 := nb 0
        have nb1 : 0 ≤ (rdN T l (s : Int) 1) ∧ (rdN T l (s : Int) 1) ≤ 9 := nb 1
        have nb2 : 0 ≤ (rdN T l (s : Int) 2) ∧ (rdN T l (s : Int) 2) ≤ 9 := nb 2
        have nb3 : 0 ≤ (rdN T l (s : Int) 3) ∧ (rdN T l (s : Int) 3) ≤ 9 := nb 3
        have obd := gOb_bd (d := (t_dd T l (s : Int))) (s := (rdN T l (s : Int) 0)) (r := (rdN T l (s : Int) 1)) (c := (rdN T l (s : Int) 2)) (k := (rdN T l (s : Int) 3)) z2 hsp.1
        have hrd : rdB T l (s : Int) Z = gOb (t_dd T l (s : Int)) Z (rdN T l (s : Int) 0) (rdN T l (s : Int) 1) (rdN T l (s : Int) 2) (rdN T l (s : Int) 3) := rfl
        have hO : ∀ j, j < 300 → (gMp (rdK (rd7 σ (m_R σ T l) 0 (-1))) Z).1 22 0 j = (m_R σ T l).2.2 j := fun j hj => by
          rw [gMp_at, if_neg (by omega), gU_at, if_neg (by omega), gCp_at, if_neg (by omega), gU_at, if_neg (by omega)]
          unfold rd7
          rw [gU_at, if_neg (by omega), gU_at, if_neg (by omega), gPz_at, if_neg (by omega), if_neg (by omega), if_neg (by omega), if_pos ⟨rfl, rfl, hj⟩]
        refine x_iload_1 K dX7_read_117 ?_
        refine x_aload_0 K dX7_read_118 ?_
        refine x_getI K gfRX7_236 ⟨by decide, (by decide)⟩ dX7_read_119 ?_
        refine gWX.top (b := ((m_R σ T l).2.1 : Int)) (by first | rfl | exact (rdX_at (rd7 σ (m_R σ T l) 0 (-1)) _ (by omega)).trans rfl) ?_
        refine x_icmp_ge (tgt := 170) K (by omega) dX7_read_122 (by decide) (fun h122 => absurd h122 (by omega)) (fun h122 => ?_)
        refine x_aload_0 K dX7_read_125 ?_
        refine x_iconst K dX7_read_126 ?_
        refine x_putZ K gpRX7_57 ⟨by decide, (by decide)⟩ (by omega) dX7_read_127 ?_
        refine gWX.eq (σ' := gMp (rdK (rd7 σ (m_R σ T l) 0 (-1))) Z) (rdX_put _ _ _) ?_
        refine x_aload_0 K dX7_read_130 ?_
        refine x_iload_1 K dX7_read_131 ?_
        refine x_callV1v K (c7_does Z (gMp_ms _ _) z2 k (by omega) (rdN T l (s : Int) 0) (rdN T l (s : Int) 1) (rdN T l (s : Int) 2) (rdN T l (s : Int) 3) nb0 nb1 nb2 nb3 (t_dd T l (s : Int)) hsp.1 (by omega) ((hO _ (by omega)).trans z5.2.2.2.1) ((hO _ (by omega)).trans (z5.2.2.2.2.1 0 (by omega))) ((hO _ (by omega)).trans (z5.2.2.2.2.1 1 (by omega))) ((hO _ (by omega)).trans (z5.2.2.2.2.1 2 (by omega))) ((hO _ (by omega)).trans (z5.2.2.2.2.1 3 (by omega)))) mtX7_does miX7_does rc14 ⟨by decide, (by decide)⟩ lkRX7_246 ⟨by decide, by decide, by decide⟩ rfl (Nat.le_of_ble_eq_true rfl) dX7_read_132 ?_
        refine x_aload_0 K dX7_read_135 ?_
        refine x_getI K gfRX7_39 ⟨by decide, (by decide)⟩ dX7_read_136 ?_
        refine gWX.top (b := m_th (t_dd T l (s : Int)) (gOb (t_dd T l (s : Int)) Z (rdN T l (s : Int) 0) (rdN T l (s : Int) 1) (rdN T l (s : Int) 2) (rdN T l (s : Int) 3))) (gMO_th rfl) ?_
        have hth : m_th (t_dd T l (s : Int)) (gOb (t_dd T l (s : Int)) Z (rdN T l (s : Int) 0) (rdN T l (s : Int) 1) (rdN T l (s : Int) 2) (rdN T l (s : Int) 3)) = if gOb (t_dd T l (s : Int)) Z (rdN T l (s : Int) 0) (rdN T l (s : Int) 1) (rdN T l (s : Int) 2) (rdN T l (s : Int) 3) = 0 then 0 else if gOb (t_dd T l (s : Int)) Z (rdN T l (s : Int) 0) (rdN T l (s : Int) 1) (rdN T l (s : Int) 2) (rdN T l (s : Int) 3) ≤ 2 then gOb (t_dd T l (s : Int)) Z (rdN T l (s : Int) 0) (rdN T l (s : Int) 1) (rdN T l (s : Int) 2) (rdN T l (s : Int) 3) else if (t_dd T l (s : Int)) = 2 then 3 else 2 := rfl
        have hthb : 0 ≤ m_th (t_dd T l (s : Int)) (gOb (t_dd T l (s : Int)) Z (rdN T l (s : Int) 0) (rdN T l (s : Int) 1) (rdN T l (s : Int) 2) (rdN T l (s : Int) 3)) ∧ m_th (t_dd T l (s : Int)) (gOb (t_dd T l (s : Int)) Z (rdN T l (s : Int) 0) (rdN T l (s : Int) 1) (rdN T l (s : Int) 2) (rdN T l (s : Int) 3)) < 10 ∧ (m_th (t_dd T l (s : Int)) (gOb (t_dd T l (s : Int)) Z (rdN T l (s : Int) 0) (rdN T l (s : Int) 1) (rdN T l (s : Int) 2) (rdN T l (s : Int) 3)) = 0 → gOb (t_dd T l (s : Int)) Z (rdN T l (s : Int) 0) (rdN T l (s : Int) 1) (rdN T l (s : Int) 2) (rdN T l (s : Int) 3) = 0) := by
          rw [hth]
          split
          · exact ⟨by omega, by omega, fun _ => by assumption⟩
          · split
            · exact ⟨by omega, by omega, fun q => by omega⟩
            · split <;> exact ⟨by omega, by omega, fun q => by omega⟩
        refine x_if_le (tgt := 164) K (by omega) dX7_read_139 (by decide) (fun h139 => ?_) (fun h139 => ?_)
        · have hob : gOb (t_dd T l (s : Int)) Z (rdN T l (s : Int) 0) (rdN T l (s : Int) 1) (rdN T l (s : Int) 2) (rdN T l (s : Int) 3) = 0 := hthb.2.2 (by omega)
          refine gWX.eq (σ' := gMp (rdK (rd7 σ (m_R σ T l) 0 (-1))) (rdY T l (s : Int) Z)) ((gMO_0 hob).symm.trans (gMp_mp _ _ _)) ?_
          refine x_iinc_1 K dX7_read_164 rfl ?_
          refine x_goto (tgt := 117) K dX7_read_167 (by decide) ?_
          refine gWX.to rfl (by rw [rdX_1]) (ih (s + (gDb (t_dd T l (s : Int))).length + 1) (rdY T l (s : Int) Z) ⟨z5.2.2.2.2.2, gCoY_Y hob z2 hsp.1, ?_, ?_⟩)
          · have := gDb_pos _ hsp.1 (by omega); omega
          · have enx : t_nx T l (s : Int) = ((s + (gDb (t_dd T l (s : Int))).length + 1 : Nat) : Int) := by
              unfold t_nx; rw [if_neg z5.2.2.1]; omega
            rw [z4, z6, if_neg (fun y => y (hrd.trans hob)), enx]
            refine Prod.ext ?_ rfl
            show (k : Int) + ((g_run T l (60 - (k + 1)) _ _).1 + 1) = ((k + 1 : Nat) : Int) + _
            omega
        · have hob : gOb (t_dd T l (s : Int)) Z (rdN T l (s : Int) 0) (rdN T l (s : Int) 1) (rdN T l (s : Int) 2) (rdN T l (s : Int) 3) ≠ 0 := fun q => by rw [hth, if_pos q] at h139; omega
          have z7 : g_run T l 60 0 Y = ((k : Int) + 1, gOb (t_dd T l (s : Int)) Z (rdN T l (s : Int) 0) (rdN T l (s : Int) 1) (rdN T l (s : Int) 2) (rdN T l (s : Int) 3), Z) := z4.trans (by rw [z6, if_pos (show rdB T l (s : Int) Z ≠ 0 from fun q => hob q)] <;> rfl)
          rw [z7] at hE
          have hrf : (gMO (t_dd T l (s : Int)) (gMp (rdK (rd7 σ (m_R σ T l) 0 (-1))) Z) Z (rdN T l (s : Int) 0) (rdN T l (s : Int) 1) (rdN T l (s : Int) 2) (rdN T l (s : Int) 3)).1 14 0 10 = if gOb (t_dd T l (s : Int)) Z (rdN T l (s : Int) 0) (rdN T l (s : Int) 1) (rdN T l (s : Int) 2) (rdN T l (s : Int) 3) ≤ 2 then 0 else 1 := gMO_rf rfl hob
          refine x_aload_0 K dX7_read_142 ?_
          refine x_aload_0 K dX7_read_143 ?_
          refine x_getI K gfRX7_57 ⟨by decide, (by decide)⟩ dX7_read_144 ?_
          refine gWX.top (b := (if gOb (t_dd T l (s : Int)) Z (rdN T l (s : Int) 0) (rdN T l (s : Int) 1) (rdN T l (s : Int) 2) (rdN T l (s : Int) 3) ≤ 2 then 0 else 1)) hrf ?_
          by_cases h2 : gOb (t_dd T l (s : Int)) Z (rdN T l (s : Int) 0) (rdN T l (s : Int) 1) (rdN T l (s : Int) 2) (rdN T l (s : Int) 3) ≤ 2
          · rw [if_pos h2, gMO_f1 hob h2]
            refine x_if_eq (tgt := 154) K (by omega) dX7_read_147 (by decide) (fun h147 => ?_) (fun h147 => absurd rfl h147)
            refine x_iconst K dX7_read_154 ?_
            refine x_putI K gpRX7_39 ⟨by decide, (by decide)⟩ dX7_read_155 ?_
            refine x_aload_0 K dX7_read_158 ?_
            refine x_iconst K dX7_read_159 ?_
            refine x_callV1 K (c7_ends_t 0 (by show 0 < (1 : Int) ∧ (1 : Int) < 10; omega)) mtX7_ends miX7_ends rc14 ⟨by decide, (by decide)⟩ lkRX7_131 ⟨by decide, by decide, by decide⟩ rfl (Nat.le_of_ble_eq_true rfl) dX7_read_160 ?_
            exact x_iret K hE rfl dX7_read_163 (by decide) (by decide) (if_neg hob).symm ((rd_back1 hms _).trans ((if_neg hob).trans (if_pos (by show gOb _ _ _ _ _ _ < 100; omega))).symm)
          · rw [if_neg h2, gMO_r1 hob h2]
            refine x_if_eq (tgt := 154) K (by omega) dX7_read_147 (by decide) (fun h147 => absurd h147 (by omega)) (fun h147 => ?_)
            refine x_iconst K dX7_read_150 ?_
            refine x_goto (tgt := 155) K dX7_read_151 (by decide) ?_
            refine x_putI K gpRX7_39 ⟨by decide, (by decide)⟩ dX7_read_155 ?_
            refine x_aload_0 K dX7_read_158 ?_
            refine x_iconst K dX7_read_159 ?_
            refine x_callV1 K (c7_ends_t 0 (by show 0 < (2 : Int) ∧ (2 : Int) < 10; omega)) mtX7_ends miX7_ends rc14 ⟨by decide, (by decide)⟩ lkRX7_131 ⟨by decide, by decide, by decide⟩ rfl (Nat.le_of_ble_eq_true rfl) dX7_read_160 ?_
            exact x_iret K hE rfl dX7_read_163 (by decide) (by decide) (if_neg hob).symm ((rd_back2 hms _ _ _).trans ((if_neg hob).trans (if_neg (by show ¬ gOb _ _ _ _ _ _ < 100; omega))).symm)
      · intro s Z hz
        obtain ⟨z1, z2, z3, z4⟩ := hz
        have hl9 : l ≤ s := by
          have key : ∀ n, m_good T l (m_R σ T l).2.2 (m_R σ T l).2.1 n s (m_R σ T l).2.1 → l ≤ s := fun n hn => by
            cases n with
            | zero => exact hn.2
            | succ n =>
              rcases hn with hn | hn
              · exact hn.2
              · exact absurd hn.1 (Nat.lt_irrefl _)
          exact key _ z1
        have hI2 := hI.2.1
        have z6 : g_run T l (60 - (m_R σ T l).2.1) (s : Int) Z = (0, 0, Z) := by
          rw [show 60 - (m_R σ T l).2.1 = (59 - (m_R σ T l).2.1) + 1 by omega, g_run_1, if_pos (by omega)]
        rw [z6] at z4
        have z7 : g_run T l 60 0 Y = (((m_R σ T l).2.1 : Int), 0, Z) := by rw [z4]; exact congrArg (fun x => (x, (0 : Int), Z)) (Int.add_zero _)
        have eX : rdX (rd7 σ (m_R σ T l) 0 (-1)) (m_R σ T l).2.1 = rdK (rd7 σ (m_R σ T l) 0 (-1)) := if_neg (by omega)
        rw [z7] at hE
        rw [eX]
        refine x_iload_1 K dX7_read_117 ?_
        refine x_aload_0 K dX7_read_118 ?_
        refine x_getI K gfRX7_236 ⟨by decide, (by decide)⟩ dX7_read_119 ?_
        refine gWX.top (b := ((m_R σ T l).2.1 : Int)) (by first | rfl | exact (rdX_at (rd7 σ (m_R σ T l) 0 (-1)) _ (by omega)).trans rfl) ?_
        refine x_icmp_ge (tgt := 170) K (by omega) dX7_read_122 (by decide) (fun h122 => ?_) (fun h122 => absurd h122 (by omega))
        refine x_aload_0 K dX7_read_170 ?_
        refine x_aload_0 K dX7_read_171 ?_
        refine x_getI K gfRX7_236 ⟨by decide, (by decide)⟩ dX7_read_172 ?_
        refine gWX.top (b := ((m_R σ T l).2.1 : Int)) rfl ?_
        refine x_callV1 K (c7_ends (((m_R σ T l).2.1 : Nat) : Int) rfl pm hp hp8) mtX7_ends miX7_ends rc14 ⟨by decide, (by decide)⟩ lkRX7_131 ⟨by decide, by decide, by decide⟩ rfl (Nat.le_of_ble_eq_true rfl) dX7_read_175 ?_
        exact x_iret K hE rfl dX7_read_178 (by decide) (by decide) (if_pos rfl).symm (if_pos rfl).symm
    · have hx : m_h T l (m_ro T l s m O).1 59 59 := Classical.byContradiction (fun q => h27 (gB1_f q))
      have hx59 : t_is T l ((m_ro T l s m O).1.1 : Int) 59 := ⟨by have := hx.2.1; omega, (t_at_nat hx.2.1).trans (by have h3 := hx.2.2.1; have h4 := hx.2.2.2; omega)⟩
      have y5 : m_R σ T l = m_prs T l (60 - (i + 1)) ((m_ro T l s m O).1.1 + 1) (m_ro T l s m O).2.1 (m_ro T l s m O).2.2 := by
        rw [y4, if_pos ⟨hx.1, hx59⟩]
      have hgo : s + 3 ≤ (m_ro T l s m O).1.1 + 1 ∧ (m_ro T l s m O).2.1 = m + 1 := by
        by_cases q0 : t_dd T l (s : Int) = 0
        · have h3 := hx.1
          rw [m_ro_0 q0] at h3
          exact absurd h3 (by show ¬ (1 : Int) = 0; omega)
        · have hsp := t_dd_spec T l (s : Int)
          have hd1 : 1 ≤ t_dd T l (s : Int) := by omega
          by_cases hm : t_mis T l (s : Int) (t_dd T l (s : Int)) = -1
          · have e1 := (m_fin_ok hsp.1 hd1 hm).1
            have hp := gDb_pos _ hsp.1 hd1
            rw [m_ro_1 q0, e1]
            exact ⟨by show s + 3 ≤ s + (gDb (t_dd T l (s : Int))).length + 1; omega, rfl⟩
          · obtain ⟨x, ex, e1, _⟩ := m_fin_bad hsp.1 hd1 (hsp.2.1 q0) hm
            have h3 := hx.1
            rw [m_ro_1 q0, e1] at h3
            exact absurd h3 (by show ¬ (1 : Int) = 0; omega)
      refine x_aload_0 K dX7_read_30 ?_
      refine x_dup K dX7_read_31 rfl ?_
      refine x_getI K gfRX7_214 ⟨by decide, (by decide)⟩ dX7_read_32 ?_
      refine gWX.top (b := ((m_ro T l s m O).1.1 : Int)) rfl ?_
      refine x_iconst K dX7_read_35 ?_
      refine x_iadd K dX7_read_36 ?_
      refine x_putI K gpRX7_214 ⟨by decide, (by decide)⟩ dX7_read_37 ?_
      refine gWX.eq (σ' := gPz σ (((m_ro T l s m O).1.1 + 1 : Nat) : Int) 0 ((m_ro T l s m O).2.1 : Int) (m_ro T l s m O).2.2) ((gPz_p _ _ _ _ _ _).trans (by rw [hx.1]; rfl)) ?_
      refine x_aload_0 K dX7_read_40 ?_
      refine x_callV0v K (c7_readOrder T l hI ((m_ro T l s m O).1.1 + 1) (m_ro T l s m O).2.1 (m_ro T l s m O).2.2 (by have := hx.2.1; omega) (by omega)) mtX7_readOrder miX7_readOrder rc14 ⟨by decide, (by decide)⟩ lkRX7_243 ⟨by decide, by decide, by decide⟩ rfl (Nat.le_of_ble_eq_true rfl) dX7_read_41 ?_
      refine x_goto (tgt := 19) K dX7_read_44 (by decide) ?_
      refine gWX.to rfl rfl (ih _ _ _ ⟨?_, ?_, ?_, y5⟩)
      · have := hx.2.1; omega
      · omega
      · omega
  · intro s m O hy
    refine x_aload_0 K dX7_read_19 ?_
    exfalso
    have hI2 := hI.2.1
    omega
