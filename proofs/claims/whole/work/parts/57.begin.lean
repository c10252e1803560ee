/-! ===== the whole world built ===== -/
theorem gOff355 : gOff 3 55 = 300 := by decide +kernel
def bHiL (E : gE) : List va_E := gEnt E gZ0 (8, 0) :: gEnt E gZ0 (9, 0) :: bFl (fun n => bShL E (3 + n)) 8
theorem bHiL_len {E : gE} : (bHiL E).length = 218 := by
  unfold bHiL
  rw [List.length_cons, List.length_cons, bFl_len (c := 27) (fun n => bShL_len)]
def bInL (E : gE) : List va_E := [gEnt E gZ0 (10, 0), gEnt E gZ0 (11, 0)]
theorem bInL_len {E : gE} : (bInL E).length = 2 := rfl
def bTxL (E : gE) : List va_E := [gEnt E gZ0 (12, 0), gEnt E gZ0 (13, 0)]
theorem bTxL_len {E : gE} : (bTxL E).length = 2 := rfl
def bMoL (E : gE) : List va_E := [gEnt E gZ0 (14, 0), gEnt E gZ0 (15, 0), gEnt E gZ0 (16, 0), gEnt E gZ0 (17, 0), gEnt E gZ0 (18, 0), gEnt E gZ0 (19, 0), gEnt E gZ0 (20, 0), gEnt E gZ0 (21, 0), gEnt E gZ0 (22, 0)]
theorem bMoL_len {E : gE} : (bMoL E).length = 9 := rfl
theorem iX6_fs {E : gE} : gFs E gZ0 0 0 = [.ref (gB E + gOff 1 0), .ref (gB E + gOff 1 1), .ref (gB E + gOff 1 2), .ref (gB E + gOff 8 0), .ref (gB E + gOff 3 55), .ref (gB E + gOff 10 0), .ref (gB E + gOff 12 0), .int 0, .int (Int32.ofInt (-1)), .int 0, .int 0] := by
  simp only [gFs, gOF, List.mapIdx_cons, List.mapIdx_nil]
  rfl
theorem iX6_init {E : gE} : bCt E mX6_init 4 308 5813 [.inr (0, 0)] [.inr (4, dfvX6)] (gEnt E gZ0 (0, 0) :: (bShL E 0 ++ bShL E 1 ++ bShL E 2 ++ bHiL E ++ bScL E 55 ++ bInL E ++ bTxL E)) := by
  refine bCt_of (b0 := 1) rfl [some (.inr (0, 0))] (by rfl) rfl rfl (Nat.le_of_ble_eq_true rfl) ?_
  intro X K hn hE
  refine bWX.eq (l' := [.inr (4, [.null, .null, .null, .null, .null, .null, .null, .int 0, .int 0, .int 0, .int 0])]) rfl ?_
  refine b_aload_0 K dX6_init_0 ?_
  refine b_objInit K (g_mem 39 (by decide +kernel)) rfl ⟨by decide, by decide⟩ dX6_init_1 ?_
  refine b_aload_0 K dX6_init_4 ?_
  refine b_new (ci := 3) (k := 1) (i := 0) K rfl (g_mem 42 (by decide +kernel)) (g_mem 43 (by decide +kernel)) (g_mem 2 (by decide +kernel)) tyX5 tyX5_ok dfvX5 dfoX5 (Eq.trans (b := 1) rfl (by simp [bShL_len, bScL_len, bHiL_len, bInL_len, bTxL_len, bMoL_len])) (Eq.symm (Eq.trans (b := 1) (by simp [bShL_len, bScL_len, bHiL_len, bInL_len, bTxL_len, bMoL_len]) rfl)) (Nat.le_of_ble_eq_true rfl) (Nat.le_of_ble_eq_true rfl) dX6_init_5 ?_
  refine b_dup K dX6_init_8 rfl ?_
  refine b_call0 K (iX5_init _ 0 (by decide) (Eq.trans (b := 1) (by simp [bShL_len, bScL_len, bHiL_len, bInL_len, bTxL_len, bMoL_len]) rfl)) mtX5_init (g_mem 45 (by decide +kernel)) ⟨rfl, rfl⟩ lkRX6_11 ⟨by decide, Nat.le_of_ble_eq_true rfl, Nat.le_of_ble_eq_true rfl⟩ (Eq.trans (b := 2) rfl (by simp [bShL_len, bScL_len, bHiL_len, bInL_len, bTxL_len, bMoL_len])) (by simp) rfl (Nat.le_of_ble_eq_true rfl) dX6_init_9 ?_
  refine bWX.eq (l' := .inr (4, [.null, .null, .null, .null, .null, .null, .null, .int 0, .int 0, .int 0, .int 0]) :: (bShL E 0)) rfl ?_
  refine b_put (k := 0) (i := 0) K (⟨_, rfl, by decide, rfl, fun h => by first | rfl | exact absurd h (by decide), rfl, (g_mem 188 (by decide +kernel))⟩ : bF RX6 12 4 0 (.object "ScrollChecks$Shelf") true) (fun _ => hn) 0 rfl rfl rfl rfl (Nat.le_of_ble_eq_true rfl) dX6_init_12 ?_
  refine bWX.eq (l' := .inr (4, [.ref (gB E + gOff 1 0), .null, .null, .null, .null, .null, .null, .int 0, .int 0, .int 0, .int 0]) :: (bShL E 0)) rfl ?_
  refine b_aload_0 K dX6_init_15 ?_
  refine b_new (ci := 3) (k := 1) (i := 1) K rfl (g_mem 42 (by decide +kernel)) (g_mem 43 (by decide +kernel)) (g_mem 2 (by decide +kernel)) tyX5 tyX5_ok dfvX5 dfoX5 (Eq.trans (b := 28) rfl (by simp [bShL_len, bScL_len, bHiL_len, bInL_len, bTxL_len, bMoL_len])) (Eq.symm (Eq.trans (b := 28) (by simp [bShL_len, bScL_len, bHiL_len, bInL_len, bTxL_len, bMoL_len]) rfl)) (Nat.le_of_ble_eq_true rfl) (Nat.le_of_ble_eq_true rfl) dX6_init_16 ?_
  refine b_dup K dX6_init_19 rfl ?_
  refine b_call0 K (iX5_init _ 1 (by decide) (Eq.trans (b := 28) (by simp [bShL_len, bScL_len, bHiL_len, bInL_len, bTxL_len, bMoL_len]) rfl)) mtX5_init (g_mem 45 (by decide +kernel)) ⟨rfl, rfl⟩ lkRX6_11 ⟨by decide, Nat.le_of_ble_eq_true rfl, Nat.le_of_ble_eq_true rfl⟩ (Eq.trans (b := 29) rfl (by simp [bShL_len, bScL_len, bHiL_len, bInL_len, bTxL_len, bMoL_len])) (by simp) rfl (Nat.le_of_ble_eq_true rfl) dX6_init_20 ?_
  refine bWX.eq (l' := .inr (4, [.ref (gB E + gOff 1 0), .null, .null, .null, .null, .null, .null, .int 0, .int 0, .int 0, .int 0]) :: (bShL E 0 ++ bShL E 1)) rfl ?_
  refine b_put (k := 0) (i := 0) K (⟨_, rfl, by decide, rfl, fun h => by first | rfl | exact absurd h (by decide), rfl, (g_mem 189 (by decide +kernel))⟩ : bF RX6 16 4 1 (.object "ScrollChecks$Shelf") true) (fun _ => hn) 0 rfl rfl rfl rfl (Nat.le_of_ble_eq_true rfl) dX6_init_23 ?_
  refine bWX.eq (l' := .inr (4, [.ref (gB E + gOff 1 0), .ref (gB E + gOff 1 1), .null, .null, .null, .null, .null, .int 0, .int 0, .int 0, .int 0]) :: (bShL E 0 ++ bShL E 1)) rfl ?_
  refine b_aload_0 K dX6_init_26 ?_
  refine b_new (ci := 3) (k := 1) (i := 2) K rfl (g_mem 42 (by decide +kernel)) (g_mem 43 (by decide +kernel)) (g_mem 2 (by decide +kernel)) tyX5 tyX5_ok dfvX5 dfoX5 (Eq.trans (b := 55) rfl (by simp [bShL_len, bScL_len, bHiL_len, bInL_len, bTxL_len, bMoL_len])) (Eq.symm (Eq.trans (b := 55) (by simp [bShL_len, bScL_len, bHiL_len, bInL_len, bTxL_len, bMoL_len]) rfl)) (Nat.le_of_ble_eq_true rfl) (Nat.le_of_ble_eq_true rfl) dX6_init_27 ?_
  refine b_dup K dX6_init_30 rfl ?_
  refine b_call0 K (iX5_init _ 2 (by decide) (Eq.trans (b := 55) (by simp [bShL_len, bScL_len, bHiL_len, bInL_len, bTxL_len, bMoL_len]) rfl)) mtX5_init (g_mem 45 (by decide +kernel)) ⟨rfl, rfl⟩ lkRX6_11 ⟨by decide, Nat.le_of_ble_eq_true rfl, Nat.le_of_ble_eq_true rfl⟩ (Eq.trans (b := 56) rfl (by simp [bShL_len, bScL_len, bHiL_len, bInL_len, bTxL_len, bMoL_len])) (by simp) rfl (Nat.le_of_ble_eq_true rfl) dX6_init_31 ?_
  refine bWX.eq (l' := .inr (4, [.ref (gB E + gOff 1 0), .ref (gB E + gOff 1 1), .null, .null, .null, .null, .null, .int 0, .int 0, .int 0, .int 0]) :: (bShL E 0 ++ bShL E 1 ++ bShL E 2)) rfl ?_
  refine b_put (k := 0) (i := 0) K (⟨_, rfl, by decide, rfl, fun h => by first | rfl | exact absurd h (by decide), rfl, (g_mem 190 (by decide +kernel))⟩ : bF RX6 19 4 2 (.object "ScrollChecks$Shelf") true) (fun _ => hn) 0 rfl rfl rfl rfl (Nat.le_of_ble_eq_true rfl) dX6_init_34 ?_
  refine bWX.eq (l' := .inr (4, [.ref (gB E + gOff 1 0), .ref (gB E + gOff 1 1), .ref (gB E + gOff 1 2), .null, .null, .null, .null, .int 0, .int 0, .int 0, .int 0]) :: (bShL E 0 ++ bShL E 1 ++ bShL E 2)) rfl ?_
  refine b_aload_0 K dX6_init_37 ?_
  refine b_new (ci := 0) (k := 8) (i := 0) K rfl (g_mem 121 (by decide +kernel)) (g_mem 122 (by decide +kernel)) (g_mem 4 (by decide +kernel)) tyX2 tyX2_ok dfvX2 dfoX2 (Eq.trans (b := 82) rfl (by simp [bShL_len, bScL_len, bHiL_len, bInL_len, bTxL_len, bMoL_len])) (Eq.symm (Eq.trans (b := 82) (by simp [bShL_len, bScL_len, bHiL_len, bInL_len, bTxL_len, bMoL_len]) rfl)) (Nat.le_of_ble_eq_true rfl) (Nat.le_of_ble_eq_true rfl) dX6_init_38 ?_
  refine b_dup K dX6_init_41 rfl ?_
  refine b_call0 K (iX2_init _ (Eq.trans (b := 82) (by simp [bShL_len, bScL_len, bHiL_len, bInL_len, bTxL_len, bMoL_len]) rfl)) mtX2_init (g_mem 124 (by decide +kernel)) ⟨rfl, rfl⟩ lkRX6_24 ⟨by decide, Nat.le_of_ble_eq_true rfl, Nat.le_of_ble_eq_true rfl⟩ (Eq.trans (b := 83) rfl (by simp [bShL_len, bScL_len, bHiL_len, bInL_len, bTxL_len, bMoL_len])) (by simp) rfl (Nat.le_of_ble_eq_true rfl) dX6_init_42 ?_
  refine bWX.eq (l' := .inr (4, [.ref (gB E + gOff 1 0), .ref (gB E + gOff 1 1), .ref (gB E + gOff 1 2), .null, .null, .null, .null, .int 0, .int 0, .int 0, .int 0]) :: (bShL E 0 ++ bShL E 1 ++ bShL E 2 ++ bHiL E)) rfl ?_
  refine b_put (k := 0) (i := 0) K (⟨_, rfl, by decide, rfl, fun h => by first | rfl | exact absurd h (by decide), rfl, (g_mem 191 (by decide +kernel))⟩ : bF RX6 25 4 3 (.object "ScrollChecks$History") true) (fun _ => hn) 0 rfl rfl rfl rfl (Nat.le_of_ble_eq_true rfl) dX6_init_45 ?_
  refine bWX.eq (l' := .inr (4, [.ref (gB E + gOff 1 0), .ref (gB E + gOff 1 1), .ref (gB E + gOff 1 2), .ref (gB E + gOff 8 0), .null, .null, .null, .int 0, .int 0, .int 0, .int 0]) :: (bShL E 0 ++ bShL E 1 ++ bShL E 2 ++ bHiL E)) rfl ?_
  refine b_aload_0 K dX6_init_48 ?_
  refine b_new (ci := 2) (k := 3) (i := 55) K rfl (g_mem 138 (by decide +kernel)) (g_mem 50 (by decide +kernel)) (g_mem 3 (by decide +kernel)) tyX4 tyX4_ok dfvX4 dfoX4 (Eq.trans (b := 300) rfl (by simp [bShL_len, bScL_len, bHiL_len, bInL_len, bTxL_len, bMoL_len])) (Eq.trans gOff355 (by simp [bShL_len, bScL_len, bHiL_len, bInL_len, bTxL_len, bMoL_len])) (Nat.le_of_ble_eq_true rfl) (Nat.le_of_ble_eq_true rfl) dX6_init_49 ?_
  refine b_dup K dX6_init_52 rfl ?_
  refine b_call0 K (iX4_init _ 55 (Eq.trans (b := 300) (by simp [bShL_len, bScL_len, bHiL_len, bInL_len, bTxL_len, bMoL_len]) gOff355.symm)) mtX4_init (g_mem 52 (by decide +kernel)) ⟨rfl, rfl⟩ lkRX6_31 ⟨by decide, Nat.le_of_ble_eq_true rfl, Nat.le_of_ble_eq_true rfl⟩ (Eq.trans (b := 301) rfl (by simp [bShL_len, bScL_len, bHiL_len, bInL_len, bTxL_len, bMoL_len])) (by simp) rfl (Nat.le_of_ble_eq_true rfl) dX6_init_53 ?_
  refine bWX.eq (l' := .inr (4, [.ref (gB E + gOff 1 0), .ref (gB E + gOff 1 1), .ref (gB E + gOff 1 2), .ref (gB E + gOff 8 0), .null, .null, .null, .int 0, .int 0, .int 0, .int 0]) :: (bShL E 0 ++ bShL E 1 ++ bShL E 2 ++ bHiL E ++ bScL E 55)) rfl ?_
  refine b_put (k := 0) (i := 0) K (⟨_, rfl, by decide, rfl, fun h => by first | rfl | exact absurd h (by decide), rfl, (g_mem 192 (by decide +kernel))⟩ : bF RX6 32 4 4 (.object "ScrollChecks$Scroll") true) (fun _ => hn) 0 rfl rfl rfl rfl (Nat.le_of_ble_eq_true rfl) dX6_init_56 ?_
  refine bWX.eq (l' := .inr (4, [.ref (gB E + gOff 1 0), .ref (gB E + gOff 1 1), .ref (gB E + gOff 1 2), .ref (gB E + gOff 8 0), .ref (gB E + gOff 3 55), .null, .null, .int 0, .int 0, .int 0, .int 0]) :: (bShL E 0 ++ bShL E 1 ++ bShL E 2 ++ bHiL E ++ bScL E 55)) rfl ?_
  refine b_aload_0 K dX6_init_59 ?_
  refine b_new (ci := 1) (k := 10) (i := 0) K rfl (g_mem 140 (by decide +kernel)) (g_mem 141 (by decide +kernel)) (g_mem 5 (by decide +kernel)) tyX3 tyX3_ok dfvX3 dfoX3 (Eq.trans (b := 305) rfl (by simp [bShL_len, bScL_len, bHiL_len, bInL_len, bTxL_len, bMoL_len])) (Eq.symm (Eq.trans (b := 305) (by simp [bShL_len, bScL_len, bHiL_len, bInL_len, bTxL_len, bMoL_len]) rfl)) (Nat.le_of_ble_eq_true rfl) (Nat.le_of_ble_eq_true rfl) dX6_init_60 ?_
  refine b_dup K dX6_init_63 rfl ?_
  refine b_call0 K (iX3_init _ (Eq.trans (b := 305) (by simp [bShL_len, bScL_len, bHiL_len, bInL_len, bTxL_len, bMoL_len]) rfl)) mtX3_init (g_mem 143 (by decide +kernel)) ⟨rfl, rfl⟩ lkRX6_38 ⟨by decide, Nat.le_of_ble_eq_true rfl, Nat.le_of_ble_eq_true rfl⟩ (Eq.trans (b := 306) rfl (by simp [bShL_len, bScL_len, bHiL_len, bInL_len, bTxL_len, bMoL_len])) (by simp) rfl (Nat.le_of_ble_eq_true rfl) dX6_init_64 ?_
  refine bWX.eq (l' := .inr (4, [.ref (gB E + gOff 1 0), .ref (gB E + gOff 1 1), .ref (gB E + gOff 1 2), .ref (gB E + gOff 8 0), .ref (gB E + gOff 3 55), .null, .null, .int 0, .int 0, .int 0, .int 0]) :: (bShL E 0 ++ bShL E 1 ++ bShL E 2 ++ bHiL E ++ bScL E 55 ++ bInL E)) rfl ?_
  refine b_put (k := 0) (i := 0) K (⟨_, rfl, by decide, rfl, fun h => by first | rfl | exact absurd h (by decide), rfl, (g_mem 193 (by decide +kernel))⟩ : bF RX6 39 4 5 (.object "ScrollChecks$Input") true) (fun _ => hn) 0 rfl rfl rfl rfl (Nat.le_of_ble_eq_true rfl) dX6_init_67 ?_
  refine bWX.eq (l' := .inr (4, [.ref (gB E + gOff 1 0), .ref (gB E + gOff 1 1), .ref (gB E + gOff 1 2), .ref (gB E + gOff 8 0), .ref (gB E + gOff 3 55), .ref (gB E + gOff 10 0), .null, .int 0, .int 0, .int 0, .int 0]) :: (bShL E 0 ++ bShL E 1 ++ bShL E 2 ++ bHiL E ++ bScL E 55 ++ bInL E)) rfl ?_
  refine b_aload_0 K dX6_init_70 ?_
  refine b_new (ci := 6) (k := 12) (i := 0) K rfl (g_mem 155 (by decide +kernel)) (g_mem 156 (by decide +kernel)) (g_mem 7 (by decide +kernel)) tyJ4 tyJ4_ok dfvJ4 dfoJ4 (Eq.trans (b := 307) rfl (by simp [bShL_len, bScL_len, bHiL_len, bInL_len, bTxL_len, bMoL_len])) (Eq.symm (Eq.trans (b := 307) (by simp [bShL_len, bScL_len, bHiL_len, bInL_len, bTxL_len, bMoL_len]) rfl)) (Nat.le_of_ble_eq_true rfl) (Nat.le_of_ble_eq_true rfl) dX6_init_71 ?_
  refine b_dup K dX6_init_74 rfl ?_
  refine b_call0 K (iJ4_init _ (Eq.trans (b := 307) (by simp [bShL_len, bScL_len, bHiL_len, bInL_len, bTxL_len, bMoL_len]) rfl)) mtJ4_init_da8c8 (g_mem 158 (by decide +kernel)) ⟨rfl, rfl⟩ lkRX6_45 ⟨by decide, Nat.le_of_ble_eq_true rfl, Nat.le_of_ble_eq_true rfl⟩ (Eq.trans (b := 308) rfl (by simp [bShL_len, bScL_len, bHiL_len, bInL_len, bTxL_len, bMoL_len])) (by simp) rfl (Nat.le_of_ble_eq_true rfl) dX6_init_75 ?_
  refine bWX.eq (l' := .inr (4, [.ref (gB E + gOff 1 0), .ref (gB E + gOff 1 1), .ref (gB E + gOff 1 2), .ref (gB E + gOff 8 0), .ref (gB E + gOff 3 55), .ref (gB E + gOff 10 0), .null, .int 0, .int 0, .int 0, .int 0]) :: (bShL E 0 ++ bShL E 1 ++ bShL E 2 ++ bHiL E ++ bScL E 55 ++ bInL E ++ bTxL E)) rfl ?_
  refine b_put (k := 0) (i := 0) K (⟨_, rfl, by decide, rfl, fun h => by first | rfl | exact absurd h (by decide), rfl, (g_mem 194 (by decide +kernel))⟩ : bF RX6 46 4 6 (.object "java/lang/StringBuilder") true) (fun _ => hn) 0 rfl rfl rfl rfl (Nat.le_of_ble_eq_true rfl) dX6_init_78 ?_
  refine bWX.eq (l' := .inr (4, [.ref (gB E + gOff 1 0), .ref (gB E + gOff 1 1), .ref (gB E + gOff 1 2), .ref (gB E + gOff 8 0), .ref (gB E + gOff 3 55), .ref (gB E + gOff 10 0), .ref (gB E + gOff 12 0), .int 0, .int 0, .int 0, .int 0]) :: (bShL E 0 ++ bShL E 1 ++ bShL E 2 ++ bHiL E ++ bScL E 55 ++ bInL E ++ bTxL E)) rfl ?_
  refine b_aload_0 K dX6_init_81 ?_
  refine b_iconst K dX6_init_82 ?_
  refine b_put (k := 0) (i := 0) K (⟨_, rfl, by decide, rfl, fun h => by first | rfl | exact absurd h (by decide), rfl, (g_mem 196 (by decide +kernel))⟩ : bF RX6 50 4 8 (.int) false) (fun _ => hn) 0 rfl rfl rfl rfl (Nat.le_of_ble_eq_true rfl) dX6_init_83 ?_
  refine b_ret K hE rfl dX6_init_86 (Nat.le_of_ble_eq_true rfl) (Nat.le_of_ble_eq_true rfl) ?_
  rw [show gEnt E gZ0 (0, 0) = .inr (4, gFs E gZ0 0 0) from rfl, iX6_fs]
  rfl
theorem bAll {E : gE} : bW E ((gEnt E gZ0 (0, 0) :: (bShL E 0 ++ bShL E 1 ++ bShL E 2 ++ bHiL E ++ bScL E 55 ++ bInL E ++ bTxL E)) ++ bMoL E ++ [gEnt E gZ0 (23, 0)] ++ [gEnt E gZ0 (24, 0)]) = gW E gZ0 := by
  have e : (gEnt E gZ0 (0, 0) :: (bShL E 0 ++ bShL E 1 ++ bShL E 2 ++ bHiL E ++ bScL E 55 ++ bInL E ++ bTxL E)) ++ bMoL E ++ [gEnt E gZ0 (23, 0)] ++ [gEnt E gZ0 (24, 0)] = gAll.map (gEnt E gZ0) := by
    unfold gAll
    rw [show (List.range 15).map (fun j => (10 + j, 0)) = [(10, 0), (11, 0), (12, 0), (13, 0), (14, 0), (15, 0), (16, 0), (17, 0), (18, 0), (19, 0), (20, 0), (21, 0), (22, 0), (23, 0), (24, 0)] from rfl]
    rw [show bHiL E = [gEnt E gZ0 (8, 0), gEnt E gZ0 (9, 0)] ++ bShL E 3 ++ bShL E 4 ++ bShL E 5 ++ bShL E 6 ++ bShL E 7 ++ bShL E 8 ++ bShL E 9 ++ bShL E 10 by
      unfold bHiL bFl
      rw [show List.range 8 = [0, 1, 2, 3, 4, 5, 6, 7] from rfl]
      simp only [List.flatMap_cons, List.flatMap_nil, List.append_nil, List.cons_append, List.nil_append, List.append_assoc]]
    unfold bInL bTxL bMoL bShL bScL
    simp only [List.map_cons, List.map_nil, List.map_append, List.cons_append, List.nil_append, List.append_assoc]
  rw [e]
  apply List.ext_getElem?
  intro j
  rw [bW, gW, List.getElem?_mapIdx, List.getElem?_map, List.getElem?_map]
  cases hq : gAll[j]? with
  | none => rfl
  | some q =>
    show some (gB E + j, gEnt E gZ0 q) = some (gB E + gOff q.1 q.2, gEnt E gZ0 q)
    rw [gAll_off hq]
theorem gZ0_inv : gInv gZ0 := by
  have hz : gY (fun _ => 0) := ⟨⟨by decide, by decide⟩, fun n h => absurd (show (n : Int) < 0 from h) (by omega)⟩
  refine ⟨fun _ => 0, 0, fun _ _ => 0, 0, fun _ => 0, 0, 0, -1, fun _ => 0, 0, 0, fun _ => 0, ?_, ?_, ?_⟩
  · refine ⟨⟨⟨⟨rfl, rfl, rfl, rfl, rfl⟩, fun n h => absurd (show (n : Int) < 0 from h) (by omega)⟩, ⟨fun j hj => ?_, fun i j hi hj h => ?_, by decide, by decide⟩, rfl, fun j h => absurd h (by omega)⟩, ⟨rfl, fun h => absurd h (by decide)⟩, ⟨rfl, rfl, rfl⟩, ⟨rfl, by decide, fun j _ => ⟨rfl, (by decide : (0 : Int) ≤ 0), (by decide : (0 : Int) < 65536)⟩⟩, rfl, rfl, fun j h => absurd h (by omega)⟩
    · show 3 ≤ 3 + j ∧ 3 + j < 11
      omega
    · have h' : 3 + i = 3 + j := h
      omega
  · refine ⟨⟨fun j _ => rfl, rfl, fun j h => absurd h (by omega)⟩, ⟨rfl, fun h => absurd h (by decide)⟩, ⟨rfl, rfl, rfl⟩, ⟨rfl, by decide, fun j _ => ⟨rfl, (by decide : (0 : Int) ≤ 0), (by decide : (0 : Int) < 65536)⟩⟩, rfl, fun j h => absurd h (by omega)⟩
  · exact ⟨hz, by decide, fun j h => absurd h (by omega), Or.inl rfl, fun h => absurd h (by decide), Or.inl rfl, by decide, by decide, fun j h => absurd h (by omega)⟩
theorem law_begin {X : gM} {E : gE} {D n b L9 : Nat} {xs : Nat → Int32} (K0 : gK X E mL_law D n) (S : hSc X E b L9 xs) (hD : 20 ≤ D) (hn : 3000 ≤ n) (hend : ∀ (i cells slots : Nat) (σ : gS), cells ≤ 320 + 514 → slots ≤ 10358 + 6 * 514 → gWX X E cells slots 2525 (wL b i) [] σ) : bWX X E 0 0 0 [some (.inl (.ref b)), none, none, none, none, none, none, none, none] [] [] := by
  have K : bK X E mL_law D n (6 * n) 0 := ⟨K0.1, K0.2.1, K0.2.2.1, K0.2.2.2.1, K0.2.2.2.2.1, K0.2.2.2.2.2.1, K0.2.2.2.2.2.2.1, K0.2.2.2.2.2.2.2.1, S.2.1, K0.2.2.2.2.2.2.2.2.2⟩
  refine b_new (ci := 4) (k := 0) (i := 0) K rfl (g_mem 34 (by decide +kernel)) (g_mem 35 (by decide +kernel)) (g_mem 1 (by decide +kernel)) tyX6 tyX6_ok dfvX6 dfoX6 (Eq.trans (b := 0) rfl (by simp [bShL_len, bScL_len, bHiL_len, bInL_len, bTxL_len, bMoL_len])) (Eq.symm (Eq.trans (b := 0) (by simp [bShL_len, bScL_len, bHiL_len, bInL_len, bTxL_len, bMoL_len]) rfl)) (by omega) (by show _ + 11 ≤ _; omega) dL_law_0 ?_
  refine b_dup K dL_law_3 rfl ?_
  refine b_call0 K (iX6_init) mtX6_init (g_mem 37 (by decide +kernel)) ⟨rfl, rfl⟩ lkRL_137 ⟨by omega, by omega, by show 0 + 11 + 5813 ≤ _; omega⟩ (by rfl) (by decide) rfl (Nat.le_of_ble_eq_true rfl) dL_law_4 ?_
  refine b_astore_1 K dL_law_7 rfl ?_
  refine b_new (ci := 5) (k := 14) (i := 0) K rfl (g_mem 1373 (by decide +kernel)) (g_mem 1374 (by decide +kernel)) (g_mem 10 (by decide +kernel)) tyX7 tyX7_ok dfvX7 dfoX7 (Eq.trans (b := 309) rfl (by simp [bShL_len, bScL_len, bHiL_len, bInL_len, bTxL_len, bMoL_len])) (Eq.symm (Eq.trans (b := 309) (by simp [bShL_len, bScL_len, bHiL_len, bInL_len, bTxL_len, bMoL_len]) rfl)) (by omega) (by show 0 + 11 + 5813 + 20 ≤ _; omega) dL_law_8 ?_
  refine b_dup K dL_law_11 rfl ?_
  refine b_call0 K (iX7_init _ (Eq.trans (b := 309) (by simp [bShL_len, bScL_len, bHiL_len, bInL_len, bTxL_len, bMoL_len]) rfl)) mtX7_init (g_mem 1376 (by decide +kernel)) ⟨rfl, rfl⟩ lkRL_140 ⟨by omega, by omega, by show 0 + 11 + 5813 + 20 + 4512 ≤ _; omega⟩ (Eq.trans (b := 310) rfl (by simp [bShL_len, bScL_len, bHiL_len, bInL_len, bTxL_len, bMoL_len])) (by simp) rfl (Nat.le_of_ble_eq_true rfl) dL_law_12 ?_
  refine bWX.eq (l' := (gEnt E gZ0 (0, 0) :: (bShL E 0 ++ bShL E 1 ++ bShL E 2 ++ bHiL E ++ bScL E 55 ++ bInL E ++ bTxL E)) ++ bMoL E) rfl ?_
  refine b_astore_2 K dL_law_15 rfl ?_
  refine b_iconst K dL_law_16 ?_
  refine b_newa (t := 5) (N := 1) (k := 23) (i := 0) (ty := .long) K rfl rfl (g_mem 1834 (by decide +kernel)) rfl (by decide) (1, .inr (.inl (fun _ => 0))) (fun _ => rfl) (by decide) (Eq.trans (b := 318) rfl (by simp [bShL_len, bScL_len, bHiL_len, bInL_len, bTxL_len, bMoL_len])) (Eq.symm (Eq.trans (b := 318) (by simp [bShL_len, bScL_len, bHiL_len, bInL_len, bTxL_len, bMoL_len]) rfl)) (by omega) (by show 0 + 11 + 5813 + 20 + 4512 + 1 ≤ _; omega) dL_law_17 ?_
  refine bWX.eq (l' := (gEnt E gZ0 (0, 0) :: (bShL E 0 ++ bShL E 1 ++ bShL E 2 ++ bHiL E ++ bScL E 55 ++ bInL E ++ bTxL E)) ++ bMoL E ++ [gEnt E gZ0 (23, 0)]) rfl ?_
  refine b_astore_3 K dL_law_19 rfl ?_
  refine b_iconst K dL_law_20 ?_
  refine b_newa (t := 6) (N := 1) (k := 24) (i := 0) (ty := .double) K rfl rfl (g_mem 1835 (by decide +kernel)) rfl (by decide) (1, .inr (.inr (.inr (.inl (fun _ => 0))))) (fun _ => rfl) (by decide) (Eq.trans (b := 319) rfl (by simp [bShL_len, bScL_len, bHiL_len, bInL_len, bTxL_len, bMoL_len])) (Eq.symm (Eq.trans (b := 319) (by simp [bShL_len, bScL_len, bHiL_len, bInL_len, bTxL_len, bMoL_len]) rfl)) (by omega) (by show 0 + 11 + 5813 + 20 + 4512 + 1 + 1 ≤ _; omega) dL_law_21 ?_
  refine bWX.eq (l' := (gEnt E gZ0 (0, 0) :: (bShL E 0 ++ bShL E 1 ++ bShL E 2 ++ bHiL E ++ bScL E 55 ++ bInL E ++ bTxL E)) ++ bMoL E ++ [gEnt E gZ0 (23, 0)] ++ [gEnt E gZ0 (24, 0)]) rfl ?_
  refine b_astore_4 K dL_law_23 rfl ?_
  refine b_iconst K dL_law_25 ?_
  refine b_istore_5 K dL_law_26 rfl ?_
  intro H locs ls hP hS hl
  rw [bAll] at hP
  exact law_loop K0 S hD 320 10358 (by omega) (by omega) hend gZ0 gZ0_inv H locs ls hP hS hl
