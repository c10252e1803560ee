/-! ===== means and shares; longs and doubles that the law keeps ===== -/
section GF2
variable {X : gM} {E : gE} {M : gMt} {D n cells slots pc : Nat} {L : List (Option gV)} {st : List gV} {σ σ' : gS}
theorem x_dret (K : gK X E M D n) {v v' : UInt64} (hE : gEnd X E n (.inl (some (.inl (.double v')))) σ') (hr : M.2.2.2 = some .double) (d : decode M.2.1 pc = .ok (.dreturn, 1)) (hc : cells ≤ n) (hs : slots ≤ 6 * n) (hz : v = v') (hσ : σ = σ') : gWX X E cells slots pc L [.inl (.double v)] σ := by
  subst hz; subst hσ
  intro H locs ls hP hS hl
  unfold gW_
  rw [hE]
  refine vx_ret (W.widen hc hs ?_)
  exact W.dret K.1 K.2.1 (K.2.2.2.2.2.2.2.1.trans hr) (gEnd_ret rfl K.2.2.2.2.1 hP hS) hS.2.2 d K.2.2.2.2.2.1
theorem x_fret (K : gK X E M D n) {v v' : UInt32} (hE : gEnd X E n (.inl (some (.inl (.float v')))) σ') (hr : M.2.2.2 = some .float) (d : decode M.2.1 pc = .ok (.freturn, 1)) (hc : cells ≤ n) (hs : slots ≤ 6 * n) (hz : v = v') (hσ : σ = σ') : gWX X E cells slots pc L [.inl (.float v)] σ := by
  subst hz; subst hσ
  intro H locs ls hP hS hl
  unfold gW_
  rw [hE]
  refine vx_ret (W.widen hc hs ?_)
  exact W.fret K.1 K.2.1 (K.2.2.2.2.2.2.2.1.trans hr) (gEnd_ret rfl K.2.2.2.2.1 hP hS) hS.2.2 d K.2.2.2.2.2.1
theorem g_arr1 {cI : ClassId} {f g : Nat → Value} (h : f 0 = g 0) : arrV cI 1 f = arrV cI 1 g := by
  have e : (fun j : Fin 1 => f j.val) = fun j : Fin 1 => g j.val := funext fun j => by
    rw [show j.val = 0 by omega]
    exact h
  unfold arrV
  rw [e]
theorem g_Pset {Dg : va_G} {cl : List vw_C} {ws : va_W} {H : Heap} {q0 : Nat} {e e' : Nat × va_E} (h : va_P Dg cl (ws.set q0 e) H) (hl : q0 < ws.length) (he : va_at Dg cl e H → va_at Dg cl e' H) : va_P Dg cl (ws.set q0 e') H := by
  intro k q hk
  by_cases hq : q0 = k
  · subst hq
    rw [List.getElem?_set_self hl] at hk
    cases hk
    exact he (h q0 e (List.getElem?_set_self hl))
  · rw [List.getElem?_set_ne hq] at hk
    exact h k q (by rw [List.getElem?_set_ne hq]; exact hk)
theorem g_in0 : vp_in (Int32.ofInt 0) 1 := g_in (j := 0) (N := 1) (by omega) (by omega)
def lv (z : Int) : Int64 := (Int32.ofInt z).toInt64
theorem x_i2l (K : gK X E M D n) {z : Int} (d : decode M.2.1 pc = .ok (.i2l, 1)) (k : gWX X E cells slots (pc + 1) L (.inl (.long (lv z)) :: st) σ) : gWX X E cells slots pc L (iv z :: st) σ :=
  fun H locs ls hP hS hl => lv_i2l K.1 K.2.1 d rfl (k H locs ls hP hS hl)
theorem x_lconst (K : gK X E M D n) {m : Fin 2} (d : decode M.2.1 pc = .ok (.lconst m, 1)) (k : gWX X E cells slots (pc + 1) L (.inl (.long (lv ((m : Nat) : Int))) :: st) σ) : gWX X E cells slots pc L st σ :=
  fun H locs ls hP hS hl => lv_lconst K.1 K.2.1 d (by
    have h : m = 0 ∨ m = 1 := by omega
    rcases h with rfl | rfl
    · decide
    · decide) (k H locs ls hP hS hl)
theorem x_fconst0 (K : gK X E M D n) (d : decode M.2.1 pc = .ok (.fconst 0, 1)) (k : gWX X E cells slots (pc + 1) L (.inl (.float FP.fconst0) :: st) σ) : gWX X E cells slots pc L st σ :=
  fun H locs ls hP hS hl => lv_fconst0 K.1 K.2.1 d (k H locs ls hP hS hl)
end GF2
/-- the sum of the signs of a scroll -/
def s_al (z : Nat → Int) : Int := gSum (s_b z) (z 0).toNat
theorem s_al_bd {z : Nat → Int} (hz : gZ z) : 0 ≤ s_al z ∧ s_al z ≤ 432 := by
  have h0 := hz.1
  have := gSum_bd (f := s_b z) (c := 72) (z 0).toNat (fun k hk => s_b_bd hz (by omega))
  unfold s_al
  omega
theorem s_sm_cl {z : Nat → Int} (hz : gZ z) : s_sm z ≤ s_cl z := by
  have h0 := hz.1
  have h1 := hz.2.1
  have hb : ∀ r, r < (z 0).toNat → 0 ≤ s_m z r ∧ s_m z r ≤ z 1 := fun r hr => by
    refine ⟨(s_m_bd z r).1, ?_⟩
    unfold s_m
    rw [if_pos (by omega)]
    unfold s_rm
    have e := gSum_more (f := fun c => gB1 (z (20 + (8 * r + c)) = -1)) (n := (z 1).toNat) (8 - (z 1).toNat) (fun k h1 h2 => by
      try dsimp only
      rw [hz.2.2.2.2.2.2.1 r (by omega) k (by omega) (Or.inr (by omega))]
      rfl)
    rw [show (z 1).toNat + (8 - (z 1).toNat) = 8 by omega] at e
    rw [e]
    have := gSum_le (f := fun c => gB1 (z (20 + (8 * r + c)) = -1)) (c := 1) (fun k => gB1_bd _) (z 1).toNat
    omega
  have := gSum_bd (f := s_m z) (c := z 1) (z 0).toNat hb
  unfold s_sm s_cl
  rw [show (((z 0).toNat : Nat) : Int) = z 0 by omega] at this
  exact this.2
theorem c6_meanSign_1 {E : gE} {σ : gS} (Y : Nat → Int) (h : gSh σ 0 Y) (hY : gY Y) (s : Int) (hs : -2147483648 ≤ s ∧ s < 2147483648) (hh : ¬ gHit Y s) : gCt E mX6_meanSign 12 1 [rf 0 0, iv s] σ (.inr "java/lang/IndexOutOfBoundsException") σ := by
  refine gCt_of (L := [some (rf 0 0), some (iv s), none, none]) (by decide +kernel) rfl rfl (Nat.le_of_ble_eq_true rfl) (fun X K hE => ?_)
  refine x_aload_0 K dX6_meanSign_0 ?_
  refine x_iload_1 K dX6_meanSign_1 ?_
  refine x_callV1x K (c6_existing_x Y h hY s hs hh) mtX6_existing miX6_existing rc0 ⟨by decide, (by decide)⟩ lkRX6_64 ⟨by decide, by decide, by decide⟩ rfl (Nat.le_of_ble_eq_true rfl) dX6_meanSign_2 hE
theorem c6_meanSign_2 {E : gE} {σ : gS} (Y : Nat → Int) (h : gSh σ 0 Y) (hY : gY Y) (s : Int) (hs : -2147483648 ≤ s ∧ s < 2147483648) (hh : gHit Y s) (hc : s_sm (zb Y s.toNat) = s_cl (zb Y s.toNat)) : gCt E mX6_meanSign 12 1 [rf 0 0, iv s] σ (.inr "java/lang/ArithmeticException") σ := by
  refine gCt_of (L := [some (rf 0 0), some (iv s), none, none]) (by decide +kernel) rfl rfl (Nat.le_of_ble_eq_true rfl) (fun X K hE => ?_)
  have hY0 := hY.1
  have hi : 5 * 0 + s.toNat < 56 := by omega
  have hz := hY.2 s.toNat (by omega)
  have hgs := h.2 s.toNat (by omega)
  have ⟨e0, e1, e2, e3, e4, e5, es, eb, em, et⟩ := hgs
  have ⟨z0, z1, z2, z3, _⟩ := hz
  have bcl := s_cl_bd hz
  have bsm := s_sm_bd hz
  have bal := s_al_bd hz
  have bsc := s_sm_cl hz
  have bdb := s_db_bd hz
  have eal : gSum (s_b (zb Y s.toNat)) (zb Y s.toNat 0).toNat = s_al (zb Y s.toNat) := rfl
  refine x_aload_0 K dX6_meanSign_0 ?_
  refine x_iload_1 K dX6_meanSign_1 ?_
  refine x_callV1 K (c6_existing Y h hY s hh) mtX6_existing miX6_existing rc0 ⟨by decide, (by decide)⟩ lkRX6_64 ⟨by decide, by decide, by decide⟩ rfl (Nat.le_of_ble_eq_true rfl) dX6_meanSign_2 ?_
  refine x_astore_2 K dX6_meanSign_5 rfl ?_
  refine x_aload_2 K dX6_meanSign_6 ?_
  refine x_callV0 K (c4_cells (5 * 0 + s.toNat) hi) mtX4_cells miX4_cells rc3 ⟨by decide, hi⟩ lkRX6_301 ⟨by decide, by decide, by decide⟩ rfl (Nat.le_of_ble_eq_true rfl) dX6_meanSign_7 ?_
  refine gWX.top (b := s_cl (zb Y s.toNat)) (by unfold s_cl; rw [e0, e1]) ?_
  refine x_aload_2 K dX6_meanSign_10 ?_
  refine x_callV0 K (c4_smudgedCells (5 * 0 + s.toNat) hi (zb Y s.toNat) hgs hz) mtX4_smudgedCells miX4_smudgedCells rc3 ⟨by decide, hi⟩ lkRX6_81 ⟨by decide, by decide, by decide⟩ rfl (Nat.le_of_ble_eq_true rfl) dX6_meanSign_11 ?_
  refine x_isub K dX6_meanSign_14 ?_
  refine x_istore_3 K dX6_meanSign_15 rfl ?_
  refine x_iload_3 K dX6_meanSign_16 ?_
  refine x_if_gt (tgt := 31) K (by omega) dX6_meanSign_17 (by decide) (fun h17 => absurd h17 (by omega)) (fun h17 => ?_)
  exact x_throww K gThr_ArithmeticException gTxt_306 hE rfl ⟨by decide, (Nat.le_of_ble_eq_true rfl)⟩ (by decide) (by decide) dX6_meanSign_20 dX6_meanSign_23 dX6_meanSign_24 dX6_meanSign_27 dX6_meanSign_30
theorem c6_meanSign {E : gE} {σ : gS} (Y : Nat → Int) (h : gSh σ 0 Y) (hY : gY Y) (s : Int) (hs : -2147483648 ≤ s ∧ s < 2147483648) (hh : gHit Y s) (hc : s_sm (zb Y s.toNat) ≠ s_cl (zb Y s.toNat)) : gCt E mX6_meanSign 12 0 [rf 0 0, iv s] σ (.inl (some (.inl (.double (gQ (s_al (zb Y s.toNat)).toNat (s_cl (zb Y s.toNat) - s_sm (zb Y s.toNat)).toNat))))) σ := by
  refine gCt_of (L := [some (rf 0 0), some (iv s), none, none]) (by decide +kernel) rfl rfl (Nat.le_of_ble_eq_true rfl) (fun X K hE => ?_)
  have hY0 := hY.1
  have hi : 5 * 0 + s.toNat < 56 := by omega
  have hz := hY.2 s.toNat (by omega)
  have hgs := h.2 s.toNat (by omega)
  have ⟨e0, e1, e2, e3, e4, e5, es, eb, em, et⟩ := hgs
  have ⟨z0, z1, z2, z3, _⟩ := hz
  have bcl := s_cl_bd hz
  have bsm := s_sm_bd hz
  have bal := s_al_bd hz
  have bsc := s_sm_cl hz
  have bdb := s_db_bd hz
  have eal : gSum (s_b (zb Y s.toNat)) (zb Y s.toNat 0).toNat = s_al (zb Y s.toNat) := rfl
  refine x_aload_0 K dX6_meanSign_0 ?_
  refine x_iload_1 K dX6_meanSign_1 ?_
  refine x_callV1 K (c6_existing Y h hY s hh) mtX6_existing miX6_existing rc0 ⟨by decide, (by decide)⟩ lkRX6_64 ⟨by decide, by decide, by decide⟩ rfl (Nat.le_of_ble_eq_true rfl) dX6_meanSign_2 ?_
  refine x_astore_2 K dX6_meanSign_5 rfl ?_
  refine x_aload_2 K dX6_meanSign_6 ?_
  refine x_callV0 K (c4_cells (5 * 0 + s.toNat) hi) mtX4_cells miX4_cells rc3 ⟨by decide, hi⟩ lkRX6_301 ⟨by decide, by decide, by decide⟩ rfl (Nat.le_of_ble_eq_true rfl) dX6_meanSign_7 ?_
  refine gWX.top (b := s_cl (zb Y s.toNat)) (by unfold s_cl; rw [e0, e1]) ?_
  refine x_aload_2 K dX6_meanSign_10 ?_
  refine x_callV0 K (c4_smudgedCells (5 * 0 + s.toNat) hi (zb Y s.toNat) hgs hz) mtX4_smudgedCells miX4_smudgedCells rc3 ⟨by decide, hi⟩ lkRX6_81 ⟨by decide, by decide, by decide⟩ rfl (Nat.le_of_ble_eq_true rfl) dX6_meanSign_11 ?_
  refine x_isub K dX6_meanSign_14 ?_
  refine x_istore_3 K dX6_meanSign_15 rfl ?_
  refine x_iload_3 K dX6_meanSign_16 ?_
  refine x_if_gt (tgt := 31) K (by omega) dX6_meanSign_17 (by decide) (fun h17 => ?_) (fun h17 => absurd h17 (by omega))
  refine x_aload_2 K dX6_meanSign_31 ?_
  refine x_callV0 K (c4_allSigns (5 * 0 + s.toNat) hi (zb Y s.toNat) hgs hz) mtX4_allSigns miX4_allSigns rc3 ⟨by decide, hi⟩ lkRX6_309 ⟨by decide, by decide, by decide⟩ rfl (Nat.le_of_ble_eq_true rfl) dX6_meanSign_32 ?_
  refine gWX.top (b := (((s_al (zb Y s.toNat)).toNat : Nat) : Int)) (by rw [eal]; omega) ?_
  refine x_i2d K dX6_meanSign_35 ?_
  refine x_iload_3 K dX6_meanSign_36 ?_
  refine gWX.top (b := (((s_cl (zb Y s.toNat) - s_sm (zb Y s.toNat)).toNat : Nat) : Int)) (by omega) ?_
  refine x_i2d K dX6_meanSign_37 ?_
  refine x_ddiv K (gQ_n (a := (s_al (zb Y s.toNat)).toNat) (b := (s_cl (zb Y s.toNat) - s_sm (zb Y s.toNat)).toNat) (by omega) (by omega)) dX6_meanSign_38 ?_
  exact x_dret K hE rfl dX6_meanSign_39 (by decide) (by decide) rfl rfl
theorem c6_doubtShare_1 {E : gE} {σ : gS} (Y : Nat → Int) (h : gSh σ 0 Y) (hY : gY Y) (s : Int) (hs : -2147483648 ≤ s ∧ s < 2147483648) (hh : ¬ gHit Y s) : gCt E mX6_doubtShare 12 1 [rf 0 0, iv s] σ (.inr "java/lang/IndexOutOfBoundsException") σ := by
  refine gCt_of (L := [some (rf 0 0), some (iv s), none, none]) (by decide +kernel) rfl rfl (Nat.le_of_ble_eq_true rfl) (fun X K hE => ?_)
  refine x_aload_0 K dX6_doubtShare_0 ?_
  refine x_iload_1 K dX6_doubtShare_1 ?_
  refine x_callV1x K (c6_existing_x Y h hY s hs hh) mtX6_existing miX6_existing rc0 ⟨by decide, (by decide)⟩ lkRX6_64 ⟨by decide, by decide, by decide⟩ rfl (Nat.le_of_ble_eq_true rfl) dX6_doubtShare_2 hE
theorem c6_doubtShare {E : gE} {σ : gS} (Y : Nat → Int) (h : gSh σ 0 Y) (hY : gY Y) (s : Int) (hs : -2147483648 ≤ s ∧ s < 2147483648) (hh : gHit Y s) : gCt E mX6_doubtShare 12 0 [rf 0 0, iv s] σ (.inl (some (.inl (.float (gQf (s_db (zb Y s.toNat)).toNat (s_cl (zb Y s.toNat)).toNat))))) σ := by
  refine gCt_of (L := [some (rf 0 0), some (iv s), none, none]) (by decide +kernel) rfl rfl (Nat.le_of_ble_eq_true rfl) (fun X K hE => ?_)
  have hY0 := hY.1
  have hi : 5 * 0 + s.toNat < 56 := by omega
  have hz := hY.2 s.toNat (by omega)
  have hgs := h.2 s.toNat (by omega)
  have ⟨e0, e1, e2, e3, e4, e5, es, eb, em, et⟩ := hgs
  have ⟨z0, z1, z2, z3, _⟩ := hz
  have bcl := s_cl_bd hz
  have bsm := s_sm_bd hz
  have bal := s_al_bd hz
  have bsc := s_sm_cl hz
  have bdb := s_db_bd hz
  have eal : gSum (s_b (zb Y s.toNat)) (zb Y s.toNat 0).toNat = s_al (zb Y s.toNat) := rfl
  refine x_aload_0 K dX6_doubtShare_0 ?_
  refine x_iload_1 K dX6_doubtShare_1 ?_
  refine x_callV1 K (c6_existing Y h hY s hh) mtX6_existing miX6_existing rc0 ⟨by decide, (by decide)⟩ lkRX6_64 ⟨by decide, by decide, by decide⟩ rfl (Nat.le_of_ble_eq_true rfl) dX6_doubtShare_2 ?_
  refine x_astore_2 K dX6_doubtShare_5 rfl ?_
  refine x_aload_2 K dX6_doubtShare_6 ?_
  refine x_callV0 K (c4_cells (5 * 0 + s.toNat) hi) mtX4_cells miX4_cells rc3 ⟨by decide, hi⟩ lkRX6_301 ⟨by decide, by decide, by decide⟩ rfl (Nat.le_of_ble_eq_true rfl) dX6_doubtShare_7 ?_
  refine gWX.top (b := s_cl (zb Y s.toNat)) (by unfold s_cl; rw [e0, e1]) ?_
  refine x_istore_3 K dX6_doubtShare_10 rfl ?_
  refine x_iload_3 K dX6_doubtShare_11 ?_
  refine x_if_gt (tgt := 19) K (by omega) dX6_doubtShare_12 (by decide) (fun h12 => ?_) (fun h12 => absurd h12 (by omega))
  refine x_aload_2 K dX6_doubtShare_19 ?_
  refine x_callV0 K (c4_doubtsByCell (5 * 0 + s.toNat) hi (zb Y s.toNat) hgs hz) mtX4_doubtsByCell miX4_doubtsByCell rc3 ⟨by decide, hi⟩ lkRX6_149 ⟨by decide, by decide, by decide⟩ rfl (Nat.le_of_ble_eq_true rfl) dX6_doubtShare_20 ?_
  refine gWX.top (b := (((s_db (zb Y s.toNat)).toNat : Nat) : Int)) (by omega) ?_
  refine x_i2f K dX6_doubtShare_23 ?_
  refine x_iload_3 K dX6_doubtShare_24 ?_
  refine gWX.top (b := (((s_cl (zb Y s.toNat)).toNat : Nat) : Int)) (by omega) ?_
  refine x_i2f K dX6_doubtShare_25 ?_
  refine x_fdiv K (gQf_n (a := (s_db (zb Y s.toNat)).toNat) (b := (s_cl (zb Y s.toNat)).toNat) (by omega) (by omega)).1 dX6_doubtShare_26 ?_
  exact x_fret K hE rfl dX6_doubtShare_27 (by decide) (by decide) rfl rfl
