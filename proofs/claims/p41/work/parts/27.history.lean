/-! ===== ScrollChecks$History ===== -/
theorem gWX.topv {X : gM} {E : gE} {cells slots pc : Nat} {L : List (Option gV)} {st : List gV} {σ : gS} {v u : gV} (h : v = u) (k : gWX X E cells slots pc L (u :: st) σ) : gWX X E cells slots pc L (v :: st) σ := by
  subst h
  exact k
def gRt (p : Nat → Nat) (i : Nat) : Nat → Nat := fun j => if 8 - i ≤ j ∧ j < 8 then (if j = 7 then p 0 else p (j + 1)) else p j
def gRc0 (p : Nat → Nat) (i : Nat) : Nat := if i = 0 then p 0 else p (8 - i)
theorem gRt_0 (p : Nat → Nat) : gRt p 0 = p := funext fun j => if_neg (by omega)
theorem gRt_1 (p : Nat → Nat) {i : Nat} (hi : i < 8) : (fun c => if c = 7 - i then gRc0 p i else gRt p i c) = gRt p (i + 1) := funext fun j => by
  unfold gRt gRc0
  by_cases q : j = 7 - i
  · rw [if_pos q, if_pos (show 8 - (i + 1) ≤ j ∧ j < 8 by omega)]
    by_cases q0 : i = 0
    · rw [if_pos q0, if_pos (by omega)]
    · rw [if_neg q0, if_neg (by omega), show 8 - i = j + 1 by omega]
  · rw [if_neg q]
    by_cases q2 : 8 - i ≤ j ∧ j < 8
    · rw [if_pos q2, if_pos (show 8 - (i + 1) ≤ j ∧ j < 8 by omega)]
    · rw [if_neg q2, if_neg (show ¬ (8 - (i + 1) ≤ j ∧ j < 8) by omega)]
theorem gRt_s (p : Nat → Nat) {i : Nat} (hi : i < 8) : gRt p i (7 - i) = p (7 - i) := if_neg (by omega)
theorem gRc0_1 (p : Nat → Nat) (i : Nat) : gRc0 p (i + 1) = p (7 - i) := by
  unfold gRc0
  rw [if_neg (by omega), show 8 - (i + 1) = 7 - i by omega]
theorem gRc0_lt {p : Nat → Nat} (hp : ∀ j, j < 8 → p j < 11) {i : Nat} (hi : i < 8) : gRc0 p i < 11 := by
  unfold gRc0
  split
  · exact hp 0 (by omega)
  · exact hp _ (by omega)
theorem c2_shelfAt {E : gE} {σ : gS} (j : Nat) (hj : j < 8) : gCt E mX2_shelfAt 1 0 [rf 8 0, iv (j : Int)] σ (.inl (some (rf 1 (σ.2.1 j)))) σ := by
  refine gCt_of (L := [some (rf 8 0), some (iv (j : Int))]) (by decide +kernel) rfl rfl (Nat.le_of_ble_eq_true rfl) (fun X K hE => ?_)
  refine x_iload_1 K dX2_shelfAt_0 ?_
  refine x_if_lt (tgt := 22) K (by omega) dX2_shelfAt_1 (by decide) (fun h1 => absurd h1 (by omega)) (fun h1 => ?_)
  refine x_iload_1 K dX2_shelfAt_4 ?_
  refine x_aload_0 K dX2_shelfAt_5 ?_
  refine x_getC K gfRX2_11 ⟨by decide, by decide⟩ dX2_shelfAt_6 ?_
  refine x_alen9 K dX2_shelfAt_9 ?_
  refine x_icmp_ge (tgt := 22) K (by omega) dX2_shelfAt_10 (by decide) (fun h10 => absurd h10 (by omega)) (fun h10 => ?_)
  refine x_aload_0 K dX2_shelfAt_13 ?_
  refine x_getC K gfRX2_11 ⟨by decide, by decide⟩ dX2_shelfAt_14 ?_
  refine x_iload_1 K dX2_shelfAt_17 ?_
  refine x_aald9 K j rfl hj dX2_shelfAt_18 ?_
  refine x_goto (tgt := 23) K dX2_shelfAt_19 (by decide) ?_
  exact x_aret K hE rfl dX2_shelfAt_23 (by decide) (by decide) rfl rfl
theorem c2_moveOldestBehind {E : gE} {σ : gS} (hp : ∀ j, j < 8 → σ.2.1 j < 11) : gCt E mX2_moveOldestBehind 2 0 [rf 8 0] σ (.inl none) (gPm σ (gRt σ.2.1 8)) := by
  refine gCt_of (L := [some (rf 8 0), none, none, none]) (by decide +kernel) rfl rfl (Nat.le_of_ble_eq_true rfl) (fun X K hE => ?_)
  refine x_aload_0 K dX2_moveOldestBehind_0 ?_
  refine x_iconst K dX2_moveOldestBehind_1 ?_
  refine x_callV1 K (c2_shelfAt 0 (by omega)) mtX2_shelfAt miX2_shelfAt rc8 ⟨by decide, by decide⟩ lkRX2_25 ⟨by decide, by decide, by decide⟩ rfl (Nat.le_of_ble_eq_true rfl) dX2_moveOldestBehind_2 ?_
  refine x_astore_1 K dX2_moveOldestBehind_5 rfl ?_
  refine x_aload_0 K dX2_moveOldestBehind_6 ?_
  refine x_getC K gfRX2_11 ⟨by decide, by decide⟩ dX2_moveOldestBehind_7 ?_
  refine x_alen9 K dX2_moveOldestBehind_10 ?_
  refine x_iconst K dX2_moveOldestBehind_11 ?_
  refine x_isub K dX2_moveOldestBehind_12 ?_
  refine x_istore_2 K dX2_moveOldestBehind_13 rfl ?_
  refine gLp (P := fun i : Nat => gWX X E 0 0 14 [some (rf 8 0), some (rf 1 (gRc0 σ.2.1 i)), some (iv (7 - (i : Int))), none] [] (gPm σ (gRt σ.2.1 i))) (8) (fun k0 => ?_) (fun i hi ih => ?_) ?_
  · exact gWX.to rfl (by rw [gRt_0]; rfl) (k0)
  · refine x_iload_2 K dX2_moveOldestBehind_14 ?_
    refine x_if_lt (tgt := 40) K (by omega) dX2_moveOldestBehind_15 (by decide) (fun h15 => absurd h15 (by omega)) (fun h15 => ?_)
    refine x_aload_0 K dX2_moveOldestBehind_18 ?_
    refine x_getC K gfRX2_11 ⟨by decide, by decide⟩ dX2_moveOldestBehind_19 ?_
    refine x_iload_2 K dX2_moveOldestBehind_22 ?_
    refine x_aald9 K (7 - i) (by omega) (by omega) dX2_moveOldestBehind_23 ?_
    refine gWX.topv (u := rf 1 (σ.2.1 (7 - i))) (by rw [← gRt_s σ.2.1 hi]; rfl) ?_
    refine x_astore_3 K dX2_moveOldestBehind_24 rfl ?_
    refine x_aload_0 K dX2_moveOldestBehind_25 ?_
    refine x_getC K gfRX2_11 ⟨by decide, by decide⟩ dX2_moveOldestBehind_26 ?_
    refine x_iload_2 K dX2_moveOldestBehind_29 ?_
    refine x_aload_1 K dX2_moveOldestBehind_30 ?_
    refine x_aast9 K (7 - i) (by omega) (by omega) (gRc0_lt hp hi) dX2_moveOldestBehind_31 ?_
    refine x_aload_3 K dX2_moveOldestBehind_32 ?_
    refine x_astore_1 K dX2_moveOldestBehind_33 rfl ?_
    refine x_iinc_2 K dX2_moveOldestBehind_34 rfl ?_
    refine x_goto (tgt := 14) K dX2_moveOldestBehind_37 (by decide) ?_
    exact gWX.fgt 3 (gWX.to (gCons rfl (gCons (by rw [gRc0_1]) (gCons (gIv (by omega)) rfl))) (by rw [← gRt_1 σ.2.1 hi]; rfl) ih)
  · refine x_iload_2 K dX2_moveOldestBehind_14 ?_
    refine x_if_lt (tgt := 40) K (by omega) dX2_moveOldestBehind_15 (by decide) (fun h15 => ?_) (fun h15 => absurd h15 (by omega))
    exact x_vret K hE rfl dX2_moveOldestBehind_40 (by decide) (by decide) rfl
def gRem (σ : gS) (Y : Nat → Int) : gS := if 8 ≤ σ.1 8 0 1 then gU (gShPut (gU (gPm σ (gRt σ.2.1 8)) 8 0 1 7) (σ.2.1 0) Y) 8 0 1 8 else gU (gShPut σ (σ.2.1 (σ.1 8 0 1).toNat) Y) 8 0 1 (σ.1 8 0 1 + 1)
theorem gSh_k {σ σ' : gS} {sh : Nat} {Y : Nat → Int} (h0 : Y 0 ≤ 5) (he : ∀ a b c, a < 8 → σ'.1 a b c = σ.1 a b c) (h : gSh σ sh Y) : gSh σ' sh Y := gSh_ext h0 (fun c _ _ => he _ _ _ (by omega)) (fun a b c _ h7 _ => he _ _ _ (by omega)) h
theorem gShPut_off8 (σ : gS) (sh : Nat) (Y : Nat → Int) (b c : Nat) : (gShPut σ sh Y).1 8 b c = σ.1 8 b c := gShPm_off σ sh Y _ (by unfold gShC; omega)
theorem c2_remember {E : gE} {σ : gS} (hp : ∀ j, j < 8 → σ.2.1 j < 11) (src : Nat) (hsrc : src < 3) (hp3 : ∀ j, j < 8 → 3 ≤ σ.2.1 j) (Y : Nat → Int) (h : gSh σ src Y) (hY : gY Y) (hk : 0 ≤ σ.1 8 0 1 ∧ σ.1 8 0 1 ≤ 8) : gCt E mX2_remember 5 0 [rf 8 0, rf 1 src] σ (.inl none) (gRem σ Y) := by
  refine gCt_of (L := [some (rf 8 0), some (rf 1 src), none]) (by decide +kernel) rfl rfl (Nat.le_of_ble_eq_true rfl) (fun X K hE => ?_)
  refine x_aload_0 K dX2_remember_0 ?_
  refine x_getI K gfRX2_18 ⟨by decide, by decide⟩ dX2_remember_1 ?_
  refine x_aload_0 K dX2_remember_4 ?_
  refine x_getC K gfRX2_11 ⟨by decide, by decide⟩ dX2_remember_5 ?_
  refine x_alen9 K dX2_remember_8 ?_
  refine x_icmp_lt (tgt := 27) K (by omega) dX2_remember_9 (by decide) (fun h9 => ?_) (fun h9 => ?_)
  · have hlt : ¬ 8 ≤ σ.1 8 0 1 := by omega
    have hp1 := hp (σ.1 8 0 1).toNat (by omega)
    have hp2 := hp3 (σ.1 8 0 1).toNat (by omega)
    refine x_aload_0 K dX2_remember_27 ?_
    refine x_aload_0 K dX2_remember_28 ?_
    refine x_getI K gfRX2_18 ⟨by decide, by decide⟩ dX2_remember_29 ?_
    refine gWX.top (b := ((σ.1 8 0 1).toNat : Int)) (by omega) ?_
    refine x_callV1 K (c2_shelfAt (σ.1 8 0 1).toNat (by omega)) mtX2_shelfAt miX2_shelfAt rc8 ⟨by decide, by decide⟩ lkRX2_25 ⟨by decide, by decide, by decide⟩ rfl (Nat.le_of_ble_eq_true rfl) dX2_remember_32 ?_
    refine x_astore_2 K dX2_remember_35 rfl ?_
    refine x_aload_2 K dX2_remember_36 ?_
    refine x_ifnull K dX2_remember_37 ?_
    refine x_aload_2 K dX2_remember_40 ?_
    refine x_aload_1 K dX2_remember_41 ?_
    refine x_callV1v K (c5_become (σ.2.1 (σ.1 8 0 1).toNat) hp1 src (by omega) (by omega) Y h hY) mtX5_become miX5_become rc1 ⟨by decide, hp1⟩ lkRX2_29 ⟨by decide, by decide, by decide⟩ rfl (Nat.le_of_ble_eq_true rfl) dX2_remember_42 ?_
    refine x_aload_0 K dX2_remember_45 ?_
    refine x_dup K dX2_remember_46 rfl ?_
    refine x_getI K gfRX2_18 ⟨by decide, by decide⟩ dX2_remember_47 ?_
    refine gWX.top (b := σ.1 8 0 1) (gShPut_off8 _ _ _ _ _) ?_
    refine x_iconst K dX2_remember_50 ?_
    refine x_iadd K dX2_remember_51 ?_
    refine x_putI K gpRX2_18 ⟨by decide, by decide⟩ dX2_remember_52 ?_
    exact x_vret K hE rfl dX2_remember_55 (by decide) (by decide) (if_neg hlt).symm
  · have hge : 8 ≤ σ.1 8 0 1 := by omega
    have hp1 := hp 0 (by omega)
    have hp2 := hp3 0 (by omega)
    have hS : gSh (gU (gPm σ (gRt σ.2.1 8)) 8 0 1 7) src Y := gSh_k hY.1.2 (fun a b c ha => by rw [gU_at, if_neg (by omega)]; rfl) h
    refine x_aload_0 K dX2_remember_12 ?_
    refine x_callV0v K (c2_moveOldestBehind hp) mtX2_moveOldestBehind miX2_moveOldestBehind rc8 ⟨by decide, by decide⟩ lkRX2_22 ⟨by decide, by decide, by decide⟩ rfl (Nat.le_of_ble_eq_true rfl) dX2_remember_13 ?_
    refine x_aload_0 K dX2_remember_16 ?_
    refine x_aload_0 K dX2_remember_17 ?_
    refine x_getC K gfRX2_11 ⟨by decide, by decide⟩ dX2_remember_18 ?_
    refine x_alen9 K dX2_remember_21 ?_
    refine x_iconst K dX2_remember_22 ?_
    refine x_isub K dX2_remember_23 ?_
    refine x_putI K gpRX2_18 ⟨by decide, by decide⟩ dX2_remember_24 ?_
    refine x_aload_0 K dX2_remember_27 ?_
    refine x_aload_0 K dX2_remember_28 ?_
    refine x_getI K gfRX2_18 ⟨by decide, by decide⟩ dX2_remember_29 ?_
    refine gWX.top (b := 7) (by rw [gU_same]; omega) ?_
    refine x_callV1 K (c2_shelfAt (σ := gU (gPm σ (gRt σ.2.1 8)) 8 0 1 7) 7 (by omega)) mtX2_shelfAt miX2_shelfAt rc8 ⟨by decide, by decide⟩ lkRX2_25 ⟨by decide, by decide, by decide⟩ rfl (Nat.le_of_ble_eq_true rfl) dX2_remember_32 ?_
    refine gWX.topv (u := rf 1 (σ.2.1 0)) rfl ?_
    refine x_astore_2 K dX2_remember_35 rfl ?_
    refine x_aload_2 K dX2_remember_36 ?_
    refine x_ifnull K dX2_remember_37 ?_
    refine x_aload_2 K dX2_remember_40 ?_
    refine x_aload_1 K dX2_remember_41 ?_
    refine x_callV1v K (c5_become (σ := gU (gPm σ (gRt σ.2.1 8)) 8 0 1 7) (σ.2.1 0) hp1 src (by omega) (by omega) Y hS hY) mtX5_become miX5_become rc1 ⟨by decide, hp1⟩ lkRX2_29 ⟨by decide, by decide, by decide⟩ rfl (Nat.le_of_ble_eq_true rfl) dX2_remember_42 ?_
    refine x_aload_0 K dX2_remember_45 ?_
    refine x_dup K dX2_remember_46 rfl ?_
    refine x_getI K gfRX2_18 ⟨by decide, by decide⟩ dX2_remember_47 ?_
    refine gWX.top (b := 7) ((gShPut_off8 _ _ _ _ _).trans (gU_same _ _ _ _ _)) ?_
    refine x_iconst K dX2_remember_50 ?_
    refine x_iadd K dX2_remember_51 ?_
    refine x_putI K gpRX2_18 ⟨by decide, by decide⟩ dX2_remember_52 ?_
    exact x_vret K hE rfl dX2_remember_55 (by decide) (by decide) (if_pos hge).symm
theorem c2_takeLatestN {E : gE} {σ : gS} (hk : σ.1 8 0 1 = 0) : gCt E mX2_takeLatest 2 0 [rf 8 0] σ (.inl (some (.inl .null))) σ := by
  refine gCt_of (L := [some (rf 8 0)]) (by decide +kernel) rfl rfl (Nat.le_of_ble_eq_true rfl) (fun X K hE => ?_)
  refine x_aload_0 K dX2_takeLatest_0 ?_
  refine x_getI K gfRX2_18 ⟨by decide, by decide⟩ dX2_takeLatest_1 ?_
  refine x_if_gt (tgt := 9) K (by omega) dX2_takeLatest_4 (by decide) (fun h4 => absurd h4 (by omega)) (fun h4 => ?_)
  refine x_null K dX2_takeLatest_7 ?_
  exact x_aretN K hE rfl dX2_takeLatest_8 (by decide) (by decide) rfl
theorem c2_takeLatest {E : gE} {σ : gS} (k : Nat) (hk : σ.1 8 0 1 = (k : Int) + 1) (hk8 : k < 8) : gCt E mX2_takeLatest 2 0 [rf 8 0] σ (.inl (some (rf 1 (σ.2.1 k)))) (gU σ 8 0 1 (k : Int)) := by
  refine gCt_of (L := [some (rf 8 0)]) (by decide +kernel) rfl rfl (Nat.le_of_ble_eq_true rfl) (fun X K hE => ?_)
  refine x_aload_0 K dX2_takeLatest_0 ?_
  refine x_getI K gfRX2_18 ⟨by decide, by decide⟩ dX2_takeLatest_1 ?_
  refine x_if_gt (tgt := 9) K (by omega) dX2_takeLatest_4 (by decide) (fun h4 => ?_) (fun h4 => absurd h4 (by omega))
  refine x_aload_0 K dX2_takeLatest_9 ?_
  refine x_dup K dX2_takeLatest_10 rfl ?_
  refine x_getI K gfRX2_18 ⟨by decide, by decide⟩ dX2_takeLatest_11 ?_
  refine x_iconst K dX2_takeLatest_14 ?_
  refine x_isub K dX2_takeLatest_15 ?_
  refine gWX.top (b := (k : Int)) (by omega) ?_
  refine x_putI K gpRX2_18 ⟨by decide, by decide⟩ dX2_takeLatest_16 ?_
  refine x_aload_0 K dX2_takeLatest_19 ?_
  refine x_aload_0 K dX2_takeLatest_20 ?_
  refine x_getI K gfRX2_18 ⟨by decide, by decide⟩ dX2_takeLatest_21 ?_
  refine gWX.top (b := (k : Int)) (gU_same _ _ _ _ _) ?_
  refine x_callV1 K (c2_shelfAt (σ := gU σ 8 0 1 (k : Int)) k hk8) mtX2_shelfAt miX2_shelfAt rc8 ⟨by decide, by decide⟩ lkRX2_25 ⟨by decide, by decide, by decide⟩ rfl (Nat.le_of_ble_eq_true rfl) dX2_takeLatest_24 ?_
  exact x_aret K hE rfl dX2_takeLatest_27 (by decide) (by decide) rfl rfl
-- not reached: X2_forgetAll
