/-! ===== the whole world built ===== -/
theorem gOff355 : gOff 3 55 = 300 := by decide +kernel
def bHiL (E : gE) : List va_E := gEnt E gZ0 (8, 0) :: gEnt E gZ0 (9, 0) :: bFl (fun n => bShL E (3 + n)) 8
theorem bHiL_len {E : gE} : (bHiL E).length = 218 := by
  unfold bHiL
  rw [List.length_cons, List.length_cons, bFl_len (c := 27) (fun n => bShL_len)]
def bInL (E : gE) : List va_E := [gEnt E gZ0 (10, 0), gEnt E gZ0 (11, 0)]
theorem bInL_len {E : gE} : (bInL E).length = 2 := rfl
def bTxL (E : gE) : List va_E := [gEnt E gZ0 (12, 0), gEnt E gZ0 (13, 0)]
theorem bTxL_len {E : gE} : (bTxL E).length = 2 := rfl

theorem iX6_fs {E : gE} : gFs E gZ0 0 0 = [.ref (gB E + gOff 1 0), .ref (gB E + gOff 1 1), .ref (gB E + gOff 1 2), .ref (gB E + gOff 8 0), .ref (gB E + gOff 3 55), .ref (gB E + gOff 10 0), .ref (gB E + gOff 12 0), .int 0, .int (Int32.ofInt (-1)), .int 0, .int 0] := by
  simp only [gFs, gOF, List.mapIdx_cons, List.mapIdx_nil]
  rfl
theorem iX6_init {E : gE} : bCt E mX6_init 4 308 5813 [.inr (0, 0)] [.inr (4, dfvX6)] (gEnt E gZ0 (0, 0) :: (bShL E 0 ++ bShL E 1 ++ bShL E 2 ++ bHiL E ++ bScL E 55 ++ bInL E ++ bTxL E)) := by
  refine bCt_of (b0 := 1) rfl [some (.inr (0, 0))] (by rfl) rfl rfl (Nat.le_of_ble_eq_true rfl) ?_
  intro X K hn hE
  refine bWX.eq (l' := [.inr (4, [.null, .null, .null, .null, .null, .null, .null, .int 0, .int 0, .int 0, .int 0])]) rfl ?_
  refine b_aload_0 K dX6_init_0 ?_
  refine b_objInit K (g_mem 160 (by decide +kernel)) rfl ⟨by decide, by decide⟩ dX6_init_1 ?_
  refine b_aload_0 K dX6_init_4 ?_
  refine b_new (ci := 3) (k := 1) (i := 0) K rfl (g_mem 161 (by decide +kernel)) (g_mem 162 (by decide +kernel)) (g_mem 2 (by decide +kernel)) tyX5 tyX5_ok dfvX5 dfoX5 (Eq.trans (b := 1) rfl (by simp [bShL_len, bScL_len, bHiL_len, bInL_len, bTxL_len])) (Eq.symm (Eq.trans (b := 1) (by simp [bShL_len, bScL_len, bHiL_len, bInL_len, bTxL_len]) rfl)) (Nat.le_of_ble_eq_true rfl) (Nat.le_of_ble_eq_true rfl) dX6_init_5 ?_
  refine b_dup K dX6_init_8 rfl ?_
  refine b_call0 K (iX5_init _ 0 (by decide) (Eq.trans (b := 1) (by simp [bShL_len, bScL_len, bHiL_len, bInL_len, bTxL_len]) rfl)) mtX5_init (g_mem 164 (by decide +kernel)) ⟨rfl, rfl⟩ lkRX6_11 ⟨by decide, Nat.le_of_ble_eq_true rfl, Nat.le_of_ble_eq_true rfl⟩ (Eq.trans (b := 2) rfl (by simp [bShL_len, bScL_len, bHiL_len, bInL_len, bTxL_len])) (by simp) rfl (Nat.le_of_ble_eq_true rfl) dX6_init_9 ?_
  refine bWX.eq (l' := .inr (4, [.null, .null, .null, .null, .null, .null, .null, .int 0, .int 0, .int 0, .int 0]) :: (bShL E 0)) rfl ?_
  refine b_put (k := 0) (i := 0) K (⟨_, rfl, by decide, rfl, fun h => by first | rfl | exact absurd h (by decide), rfl, (g_mem 305 (by decide +kernel))⟩ : bF RX6 12 4 0 (.object "ScrollChecks$Shelf") true) (fun _ => hn) 0 rfl rfl rfl rfl (Nat.le_of_ble_eq_true rfl) dX6_init_12 ?_
  refine bWX.eq (l' := .inr (4, [.ref (gB E + gOff 1 0), .null, .null, .null, .null, .null, .null, .int 0, .int 0, .int 0, .int 0]) :: (bShL E 0)) rfl ?_
  refine b_aload_0 K dX6_init_15 ?_
  refine b_new (ci := 3) (k := 1) (i := 1) K rfl (g_mem 161 (by decide +kernel)) (g_mem 162 (by decide +kernel)) (g_mem 2 (by decide +kernel)) tyX5 tyX5_ok dfvX5 dfoX5 (Eq.trans (b := 28) rfl (by simp [bShL_len, bScL_len, bHiL_len, bInL_len, bTxL_len])) (Eq.symm (Eq.trans (b := 28) (by simp [bShL_len, bScL_len, bHiL_len, bInL_len, bTxL_len]) rfl)) (Nat.le_of_ble_eq_true rfl) (Nat.le_of_ble_eq_true rfl) dX6_init_16 ?_
  refine b_dup K dX6_init_19 rfl ?_
  refine b_call0 K (iX5_init _ 1 (by decide) (Eq.trans (b := 28) (by simp [bShL_len, bScL_len, bHiL_len, bInL_len, bTxL_len]) rfl)) mtX5_init (g_mem 164 (by decide +kernel)) ⟨rfl, rfl⟩ lkRX6_11 ⟨by decide, Nat.le_of_ble_eq_true rfl, Nat.le_of_ble_eq_true rfl⟩ (Eq.trans (b := 29) rfl (by simp [bShL_len, bScL_len, bHiL_len, bInL_len, bTxL_len])) (by simp) rfl (Nat.le_of_ble_eq_true rfl) dX6_init_20 ?_
  refine bWX.eq (l' := .inr (4, [.ref (gB E + gOff 1 0), .null, .null, .null, .null, .null, .null, .int 0, .int 0, .int 0, .int 0]) :: (bShL E 0 ++ bShL E 1)) rfl ?_
  refine b_put (k := 0) (i := 0) K (⟨_, rfl, by decide, rfl, fun h => by first | rfl | exact absurd h (by decide), rfl, (g_mem 306 (by decide +kernel))⟩ : bF RX6 16 4 1 (.object "ScrollChecks$Shelf") true) (fun _ => hn) 0 rfl rfl rfl rfl (Nat.le_of_ble_eq_true rfl) dX6_init_23 ?_
  refine bWX.eq (l' := .inr (4, [.ref (gB E + gOff 1 0), .ref (gB E + gOff 1 1), .null, .null, .null, .null, .null, .int 0, .int 0, .int 0, .int 0]) :: (bShL E 0 ++ bShL E 1)) rfl ?_
  refine b_aload_0 K dX6_init_26 ?_
  refine b_new (ci := 3) (k := 1) (i := 2) K rfl (g_mem 161 (by decide +kernel)) (g_mem 162 (by decide +kernel)) (g_mem 2 (by decide +kernel)) tyX5 tyX5_ok dfvX5 dfoX5 (Eq.trans (b := 55) rfl (by simp [bShL_len, bScL_len, bHiL_len, bInL_len, bTxL_len])) (Eq.symm (Eq.trans (b := 55) (by simp [bShL_len, bScL_len, bHiL_len, bInL_len, bTxL_len]) rfl)) (Nat.le_of_ble_eq_true rfl) (Nat.le_of_ble_eq_true rfl) dX6_init_27 ?_
  refine b_dup K dX6_init_30 rfl ?_
  refine b_call0 K (iX5_init _ 2 (by decide) (Eq.trans (b := 55) (by simp [bShL_len, bScL_len, bHiL_len, bInL_len, bTxL_len]) rfl)) mtX5_init (g_mem 164 (by decide +kernel)) ⟨rfl, rfl⟩ lkRX6_11 ⟨by decide, Nat.le_of_ble_eq_true rfl, Nat.le_of_ble_eq_true rfl⟩ (Eq.trans (b := 56) rfl (by simp [bShL_len, bScL_len, bHiL_len, bInL_len, bTxL_len])) (by simp) rfl (Nat.le_of_ble_eq_true rfl) dX6_init_31 ?_
  refine bWX.eq (l' := .inr (4, [.ref (gB E + gOff 1 0), .ref (gB E + gOff 1 1), .null, .null, .null, .null, .null, .int 0, .int 0, .int 0, .int 0]) :: (bShL E 0 ++ bShL E 1 ++ bShL E 2)) rfl ?_
  refine b_put (k := 0) (i := 0) K (⟨_, rfl, by decide, rfl, fun h => by first | rfl | exact absurd h (by decide), rfl, (g_mem 307 (by decide +kernel))⟩ : bF RX6 19 4 2 (.object "ScrollChecks$Shelf") true) (fun _ => hn) 0 rfl rfl rfl rfl (Nat.le_of_ble_eq_true rfl) dX6_init_34 ?_
  refine bWX.eq (l' := .inr (4, [.ref (gB E + gOff 1 0), .ref (gB E + gOff 1 1), .ref (gB E + gOff 1 2), .null, .null, .null, .null, .int 0, .int 0, .int 0, .int 0]) :: (bShL E 0 ++ bShL E 1 ++ bShL E 2)) rfl ?_
  refine b_aload_0 K dX6_init_37 ?_
  refine b_new (ci := 0) (k := 8) (i := 0) K rfl (g_mem 239 (by decide +kernel)) (g_mem 240 (by decide +kernel)) (g_mem 4 (by decide +kernel)) tyX2 tyX2_ok dfvX2 dfoX2 (Eq.trans (b := 82) rfl (by simp [bShL_len, bScL_len, bHiL_len, bInL_len, bTxL_len])) (Eq.symm (Eq.trans (b := 82) (by simp [bShL_len, bScL_len, bHiL_len, bInL_len, bTxL_len]) rfl)) (Nat.le_of_ble_eq_true rfl) (Nat.le_of_ble_eq_true rfl) dX6_init_38 ?_
  refine b_dup K dX6_init_41 rfl ?_
  refine b_call0 K (iX2_init _ (Eq.trans (b := 82) (by simp [bShL_len, bScL_len, bHiL_len, bInL_len, bTxL_len]) rfl)) mtX2_init (g_mem 242 (by decide +kernel)) ⟨rfl, rfl⟩ lkRX6_24 ⟨by decide, Nat.le_of_ble_eq_true rfl, Nat.le_of_ble_eq_true rfl⟩ (Eq.trans (b := 83) rfl (by simp [bShL_len, bScL_len, bHiL_len, bInL_len, bTxL_len])) (by simp) rfl (Nat.le_of_ble_eq_true rfl) dX6_init_42 ?_
  refine bWX.eq (l' := .inr (4, [.ref (gB E + gOff 1 0), .ref (gB E + gOff 1 1), .ref (gB E + gOff 1 2), .null, .null, .null, .null, .int 0, .int 0, .int 0, .int 0]) :: (bShL E 0 ++ bShL E 1 ++ bShL E 2 ++ bHiL E)) rfl ?_
  refine b_put (k := 0) (i := 0) K (⟨_, rfl, by decide, rfl, fun h => by first | rfl | exact absurd h (by decide), rfl, (g_mem 308 (by decide +kernel))⟩ : bF RX6 25 4 3 (.object "ScrollChecks$History") true) (fun _ => hn) 0 rfl rfl rfl rfl (Nat.le_of_ble_eq_true rfl) dX6_init_45 ?_
  refine bWX.eq (l' := .inr (4, [.ref (gB E + gOff 1 0), .ref (gB E + gOff 1 1), .ref (gB E + gOff 1 2), .ref (gB E + gOff 8 0), .null, .null, .null, .int 0, .int 0, .int 0, .int 0]) :: (bShL E 0 ++ bShL E 1 ++ bShL E 2 ++ bHiL E)) rfl ?_
  refine b_aload_0 K dX6_init_48 ?_
  refine b_new (ci := 2) (k := 3) (i := 55) K rfl (g_mem 256 (by decide +kernel)) (g_mem 169 (by decide +kernel)) (g_mem 3 (by decide +kernel)) tyX4 tyX4_ok dfvX4 dfoX4 (Eq.trans (b := 300) rfl (by simp [bShL_len, bScL_len, bHiL_len, bInL_len, bTxL_len])) (Eq.trans gOff355 (by simp [bShL_len, bScL_len, bHiL_len, bInL_len, bTxL_len])) (Nat.le_of_ble_eq_true rfl) (Nat.le_of_ble_eq_true rfl) dX6_init_49 ?_
  refine b_dup K dX6_init_52 rfl ?_
  refine b_call0 K (iX4_init _ 55 (Eq.trans (b := 300) (by simp [bShL_len, bScL_len, bHiL_len, bInL_len, bTxL_len]) gOff355.symm)) mtX4_init (g_mem 171 (by decide +kernel)) ⟨rfl, rfl⟩ lkRX6_31 ⟨by decide, Nat.le_of_ble_eq_true rfl, Nat.le_of_ble_eq_true rfl⟩ (Eq.trans (b := 301) rfl (by simp [bShL_len, bScL_len, bHiL_len, bInL_len, bTxL_len])) (by simp) rfl (Nat.le_of_ble_eq_true rfl) dX6_init_53 ?_
  refine bWX.eq (l' := .inr (4, [.ref (gB E + gOff 1 0), .ref (gB E + gOff 1 1), .ref (gB E + gOff 1 2), .ref (gB E + gOff 8 0), .null, .null, .null, .int 0, .int 0, .int 0, .int 0]) :: (bShL E 0 ++ bShL E 1 ++ bShL E 2 ++ bHiL E ++ bScL E 55)) rfl ?_
  refine b_put (k := 0) (i := 0) K (⟨_, rfl, by decide, rfl, fun h => by first | rfl | exact absurd h (by decide), rfl, (g_mem 309 (by decide +kernel))⟩ : bF RX6 32 4 4 (.object "ScrollChecks$Scroll") true) (fun _ => hn) 0 rfl rfl rfl rfl (Nat.le_of_ble_eq_true rfl) dX6_init_56 ?_
  refine bWX.eq (l' := .inr (4, [.ref (gB E + gOff 1 0), .ref (gB E + gOff 1 1), .ref (gB E + gOff 1 2), .ref (gB E + gOff 8 0), .ref (gB E + gOff 3 55), .null, .null, .int 0, .int 0, .int 0, .int 0]) :: (bShL E 0 ++ bShL E 1 ++ bShL E 2 ++ bHiL E ++ bScL E 55)) rfl ?_
  refine b_aload_0 K dX6_init_59 ?_
  refine b_new (ci := 1) (k := 10) (i := 0) K rfl (g_mem 258 (by decide +kernel)) (g_mem 259 (by decide +kernel)) (g_mem 5 (by decide +kernel)) tyX3 tyX3_ok dfvX3 dfoX3 (Eq.trans (b := 305) rfl (by simp [bShL_len, bScL_len, bHiL_len, bInL_len, bTxL_len])) (Eq.symm (Eq.trans (b := 305) (by simp [bShL_len, bScL_len, bHiL_len, bInL_len, bTxL_len]) rfl)) (Nat.le_of_ble_eq_true rfl) (Nat.le_of_ble_eq_true rfl) dX6_init_60 ?_
  refine b_dup K dX6_init_63 rfl ?_
  refine b_call0 K (iX3_init _ (Eq.trans (b := 305) (by simp [bShL_len, bScL_len, bHiL_len, bInL_len, bTxL_len]) rfl)) mtX3_init (g_mem 261 (by decide +kernel)) ⟨rfl, rfl⟩ lkRX6_38 ⟨by decide, Nat.le_of_ble_eq_true rfl, Nat.le_of_ble_eq_true rfl⟩ (Eq.trans (b := 306) rfl (by simp [bShL_len, bScL_len, bHiL_len, bInL_len, bTxL_len])) (by simp) rfl (Nat.le_of_ble_eq_true rfl) dX6_init_64 ?_
  refine bWX.eq (l' := .inr (4, [.ref (gB E + gOff 1 0), .ref (gB E + gOff 1 1), .ref (gB E + gOff 1 2), .ref (gB E + gOff 8 0), .ref (gB E + gOff 3 55), .null, .null, .int 0, .int 0, .int 0, .int 0]) :: (bShL E 0 ++ bShL E 1 ++ bShL E 2 ++ bHiL E ++ bScL E 55 ++ bInL E)) rfl ?_
  refine b_put (k := 0) (i := 0) K (⟨_, rfl, by decide, rfl, fun h => by first | rfl | exact absurd h (by decide), rfl, (g_mem 310 (by decide +kernel))⟩ : bF RX6 39 4 5 (.object "ScrollChecks$Input") true) (fun _ => hn) 0 rfl rfl rfl rfl (Nat.le_of_ble_eq_true rfl) dX6_init_67 ?_
  refine bWX.eq (l' := .inr (4, [.ref (gB E + gOff 1 0), .ref (gB E + gOff 1 1), .ref (gB E + gOff 1 2), .ref (gB E + gOff 8 0), .ref (gB E + gOff 3 55), .ref (gB E + gOff 10 0), .null, .int 0, .int 0, .int 0, .int 0]) :: (bShL E 0 ++ bShL E 1 ++ bShL E 2 ++ bHiL E ++ bScL E 55 ++ bInL E)) rfl ?_
  refine b_aload_0 K dX6_init_70 ?_
  refine b_new (ci := 5) (k := 12) (i := 0) K rfl (g_mem 273 (by decide +kernel)) (g_mem 274 (by decide +kernel)) (g_mem 7 (by decide +kernel)) tyJ4 tyJ4_ok dfvJ4 dfoJ4 (Eq.trans (b := 307) rfl (by simp [bShL_len, bScL_len, bHiL_len, bInL_len, bTxL_len])) (Eq.symm (Eq.trans (b := 307) (by simp [bShL_len, bScL_len, bHiL_len, bInL_len, bTxL_len]) rfl)) (Nat.le_of_ble_eq_true rfl) (Nat.le_of_ble_eq_true rfl) dX6_init_71 ?_
  refine b_dup K dX6_init_74 rfl ?_
  refine b_call0 K (iJ4_init _ (Eq.trans (b := 307) (by simp [bShL_len, bScL_len, bHiL_len, bInL_len, bTxL_len]) rfl)) mtJ4_init_da8c8 (g_mem 276 (by decide +kernel)) ⟨rfl, rfl⟩ lkRX6_45 ⟨by decide, Nat.le_of_ble_eq_true rfl, Nat.le_of_ble_eq_true rfl⟩ (Eq.trans (b := 308) rfl (by simp [bShL_len, bScL_len, bHiL_len, bInL_len, bTxL_len])) (by simp) rfl (Nat.le_of_ble_eq_true rfl) dX6_init_75 ?_
  refine bWX.eq (l' := .inr (4, [.ref (gB E + gOff 1 0), .ref (gB E + gOff 1 1), .ref (gB E + gOff 1 2), .ref (gB E + gOff 8 0), .ref (gB E + gOff 3 55), .ref (gB E + gOff 10 0), .null, .int 0, .int 0, .int 0, .int 0]) :: (bShL E 0 ++ bShL E 1 ++ bShL E 2 ++ bHiL E ++ bScL E 55 ++ bInL E ++ bTxL E)) rfl ?_
  refine b_put (k := 0) (i := 0) K (⟨_, rfl, by decide, rfl, fun h => by first | rfl | exact absurd h (by decide), rfl, (g_mem 311 (by decide +kernel))⟩ : bF RX6 46 4 6 (.object "java/lang/StringBuilder") true) (fun _ => hn) 0 rfl rfl rfl rfl (Nat.le_of_ble_eq_true rfl) dX6_init_78 ?_
  refine bWX.eq (l' := .inr (4, [.ref (gB E + gOff 1 0), .ref (gB E + gOff 1 1), .ref (gB E + gOff 1 2), .ref (gB E + gOff 8 0), .ref (gB E + gOff 3 55), .ref (gB E + gOff 10 0), .ref (gB E + gOff 12 0), .int 0, .int 0, .int 0, .int 0]) :: (bShL E 0 ++ bShL E 1 ++ bShL E 2 ++ bHiL E ++ bScL E 55 ++ bInL E ++ bTxL E)) rfl ?_
  refine b_aload_0 K dX6_init_81 ?_
  refine b_iconst K dX6_init_82 ?_
  refine b_put (k := 0) (i := 0) K (⟨_, rfl, by decide, rfl, fun h => by first | rfl | exact absurd h (by decide), rfl, (g_mem 312 (by decide +kernel))⟩ : bF RX6 50 4 8 (.int) false) (fun _ => hn) 0 rfl rfl rfl rfl (Nat.le_of_ble_eq_true rfl) dX6_init_83 ?_
  refine b_ret K hE rfl dX6_init_86 (Nat.le_of_ble_eq_true rfl) (Nat.le_of_ble_eq_true rfl) ?_
  rw [show gEnt E gZ0 (0, 0) = .inr (4, gFs E gZ0 0 0) from rfl, iX6_fs]
  rfl
theorem bAll {E : gE} (hX : gX E = []) : bW E (gEnt E gZ0 (0, 0) :: (bShL E 0 ++ bShL E 1 ++ bShL E 2 ++ bHiL E ++ bScL E 55 ++ bInL E ++ bTxL E)) = gW E gZ0 := by
  have e : gEnt E gZ0 (0, 0) :: (bShL E 0 ++ bShL E 1 ++ bShL E 2 ++ bHiL E ++ bScL E 55 ++ bInL E ++ bTxL E) = gAll.map (gEnt E gZ0) := by
    unfold gAll
    rw [show (List.range 4).map (fun j => (10 + j, 0)) = [(10, 0), (11, 0), (12, 0), (13, 0)] from rfl]
    rw [show bHiL E = [gEnt E gZ0 (8, 0), gEnt E gZ0 (9, 0)] ++ bShL E 3 ++ bShL E 4 ++ bShL E 5 ++ bShL E 6 ++ bShL E 7 ++ bShL E 8 ++ bShL E 9 ++ bShL E 10 by
      unfold bHiL bFl
      rw [show List.range 8 = [0, 1, 2, 3, 4, 5, 6, 7] from rfl]
      simp only [List.flatMap_cons, List.flatMap_nil, List.append_nil, List.cons_append, List.nil_append, List.append_assoc]]
    unfold bInL bTxL bShL bScL
    simp only [List.map_cons, List.map_nil, List.map_append, List.cons_append, List.nil_append, List.append_assoc]
  have e2 : gW E gZ0 = gWa E gZ0 := by unfold gW gWb; rw [hX]; exact List.append_nil _
  rw [e, e2]
  apply List.ext_getElem?
  intro j
  rw [bW, gWa, List.getElem?_mapIdx, List.getElem?_map, List.getElem?_map]
  cases hq : gAll[j]? with
  | none => rfl
  | some q =>
    show some (gB E + j, gEnt E gZ0 q) = some (gB E + gOff q.1 q.2, gEnt E gZ0 q)
    rw [gAll_off hq]
theorem gZ0_inv : gJv gZ0 (fun _ => 0) 0 (fun _ _ => 0) := by
  have hz : gY (fun _ => 0) := ⟨⟨by decide, by decide⟩, fun n h => absurd (show (n : Int) < 0 from h) (by omega)⟩
  refine ⟨0, fun _ => 0, 0, 0, -1, fun _ => 0, 0, 0, fun _ => 0, ?_, ?_, ⟨rfl, rfl⟩, fun n h => absurd (show (n : Int) < 0 from h) (by omega)⟩
  · refine ⟨⟨⟨⟨rfl, rfl, rfl, rfl, rfl⟩, fun n h => absurd (show (n : Int) < 0 from h) (by omega)⟩, ⟨fun j hj => ?_, fun i j hi hj h => ?_, by decide, by decide⟩, rfl, fun j h => absurd h (by omega)⟩, ⟨rfl, fun h => absurd h (by decide)⟩, ⟨rfl, rfl, rfl⟩, ⟨rfl, by decide, fun j _ => ⟨rfl, (by decide : (0 : Int) ≤ 0), (by decide : (0 : Int) < 65536)⟩⟩, rfl, rfl, fun j h => absurd h (by omega)⟩
    · show 3 ≤ 3 + j ∧ 3 + j < 11
      omega
    · have h' : 3 + i = 3 + j := h
      omega
  · exact ⟨hz, by decide, fun j h => absurd h (by omega), Or.inl rfl, fun h => absurd h (by decide), Or.inl rfl, by decide, by decide, fun j h => absurd h (by omega)⟩
/-- a number of the script, or one beyond it -/
def pCell (xs : Nat → Int32) (L9 k : Nat) : Int := if k < L9 then sx xs k else ((40503 : Int32) * Int32.ofInt (k : Int)).toInt
theorem pCell_bd (xs : Nat → Int32) (L9 k : Nat) : -2147483648 ≤ pCell xs L9 k ∧ pCell xs L9 k < 2147483648 := by
  unfold pCell
  split
  · exact sx_r _ _
  · exact g_i32 _
section GA
variable {X : gM} {E E2 : gE} {M : gMt} {D n cells slots pc : Nat} {L : List (Option gV)} {st : List gV} {σ σ' : gS} {R : Option gV → gS → Prop}
theorem x_aretR (K : gK X E2 M D n) (K0 : gK X E M D n) (hm : gMore E E2) (hX : gX E = []) {q : Nat × Nat} {cn : String} (hE : gEndR X E n R) (hr : M.2.2.2 = some (.object cn)) (d : decode M.2.1 pc = .ok (.areturn, 1)) (hc : cells ≤ n) (hs : slots ≤ 6 * n) (hq : gEqv σ σ') (hR : R (some (.inr q)) σ') : gWX X E2 cells slots pc L [.inr q] σ := by
  intro H locs ls hP hS hl
  unfold gW_
  rw [hE]
  refine vx_ret (W.widen hc hs ?_)
  have hA : gA E2 = gA E := by unfold gA; rw [gMore_B hm]
  have hS2 := hS
  rw [hA] at hS2
  exact W.aret (rt := .object cn) K.1 K.2.1 (K.2.2.2.2.2.2.2.1.trans hr) (Or.inl ⟨cn, rfl⟩) (Or.inr ⟨_, rfl⟩) (gEndR_ret (rv := some (.inr q)) hm hX rfl hq hR K0.2.2.2.2.1 hP hS) hS2.2.2 d K.2.2.2.2.2.1
end GA
theorem c_cell {E : gE} {σ : gS} {b L9 : Nat} {xs : Nat → Int32} (S : hSc E b L9 xs) (k : Nat) (hk : k < 2000) : gCt E mL_cell 1 0 [.inl (.ref b), iv (k : Int)] σ (.inl (some (iv (pCell xs L9 k)))) σ := by
  refine gCt_of (L := [some (.inl (.ref b)), some (iv (k : Int))]) (by decide +kernel) rfl rfl (Nat.le_of_ble_eq_true rfl) (fun X K hE => ?_)
  refine x_iload_1 K dL_cell_0 ?_
  refine x_aloadc_0 K dL_cell_1 ?_
  refine x_slen K S dL_cell_2 ?_
  refine x_icmp_ge (tgt := 12) K (by have := S.2.2; omega) dL_cell_3 (by decide) (fun h3 => ?_) (fun h3 => ?_)
  · refine x_ldcI (v := 40503) K rfl (g_mem 341 (by decide +kernel)) dL_cell_12 ?_
    refine x_iload_1 K dL_cell_14 ?_
    refine x_imulA K dL_cell_15 ?_
    refine gWX.topv (u := iv (pCell xs L9 k)) (by unfold pCell; rw [if_neg (by omega)]; exact congrArg (fun x => (Sum.inl (Value.int x) : gV)) (Int32.ofInt_toInt _).symm) ?_
    exact x_iret K hE rfl dL_cell_16 (by first | decide | omega) (by first | decide | omega) rfl rfl
  · refine x_aloadc_0 K dL_cell_6 ?_
    refine x_iload_1 K dL_cell_7 ?_
    refine x_sld K S k rfl (by omega) dL_cell_8 ?_
    refine gWX.top (b := pCell xs L9 k) (by unfold pCell; rw [if_pos (by omega)]) ?_
    refine x_goto (tgt := 16) K dL_cell_9 (by decide) ?_
    exact x_iret K hE rfl dL_cell_16 (by first | decide | omega) (by first | decide | omega) rfl rfl
/-- what a step may leave -/
def pGo (σ : gS) (v : Int) : Prop := (∃ Y pm P, gJv σ Y pm P ∧ 1 ≤ Y 0) ∧ (0 ≤ v ∨ (v < -1 ∧ 1 ≤ σ.1 0 0 9 ∧ σ.1 0 0 9 ≤ 7)) ∧ -100 ≤ v ∧ v ≤ 100000
theorem pGo_ok {σ σ1 : gS} {Y Y2 : Nat → Int} {pm pm2 : Nat} {P P2 : Nat → Nat → Int} {v ob c1 c2 c3 a : Int} (h1 : 1 ≤ Y 0) (h2 : Y 0 ≤ Y2 0) (hob : ob ≠ 1 ∧ ob ≠ 2) (ha : 0 ≤ a ∧ a ≤ 100000) (hc3 : -100 ≤ c3 ∧ c3 < -1) (h : (ob = 0 ∧ v = a ∧ gJv σ1 Y2 pm2 P2) ∨ (ob = 1 ∧ v = c1 ∧ σ1 = σ) ∨ (ob = 2 ∧ v = c2 ∧ σ1 = σ) ∨ (100 ≤ ob ∧ v = c3 ∧ gJv σ1 Y pm P ∧ 1 ≤ σ1.1 0 0 9 ∧ σ1.1 0 0 9 ≤ 7)) : pGo σ1 v := by
  rcases h with ⟨-, q2, q3⟩ | ⟨q1, -⟩ | ⟨q1, -⟩ | ⟨q1, q2, q3, q4⟩
  · exact ⟨⟨_, _, _, q3, by omega⟩, Or.inl (by omega), by omega, by omega⟩
  · exact absurd q1 hob.1
  · exact absurd q1 hob.2
  · exact ⟨⟨_, _, _, q3, h1⟩, Or.inr ⟨by omega, q4⟩, by omega, by omega⟩
/-- drawn: its start, before anything is made -/
def gCtD (E : gE) (M : gMt) (D n : Nat) (as : List gV) (R : Option gV → gS → Prop) : Prop :=
  vx_Met (gL E) M.1 [Cond.code M.1 M.2.1 M.2.2.1 M.2.2.2] (gRm D n) (va_Pc (as.map (gc E)) (fun U => gN E U U.heap ∧ U.heap.size = gB E)) (gQrR E R) gQxN n (6 * n) (gA E)
set_option maxHeartbeats 1000000 in
theorem drawn_go {X : gM} {E : gE} {b L9 : Nat} {xs : Nat → Int32} (S : hSc E b L9 xs) (hX : gX E = []) (K : gK X E mL_drawn 17 1500) (hE : gEndR X E 1500 (fun rv σ' => rv = some (rf 0 0) ∧ ∃ Y pm P, gJv σ' Y pm P ∧ 1 ≤ Y 0)) : gWX X E 310 5900 8 [some (.inl (.ref b)), some (rf 0 0), none, none, none, none, none, none, none, none, none, none] [] gZ0 := by
  refine x_aloadc_0 K dL_drawn_8 ?_
  refine x_iconst K dL_drawn_9 ?_
  refine x_callS2 K (c_cell S 0 (by omega)) mtL_cell msL_cell lkRL_137 ⟨by omega, by omega, by omega⟩ rfl (Nat.le_of_ble_eq_true rfl) dL_drawn_10 ?_
  refine x_iconst K dL_drawn_13 ?_
  refine x_iushr1 K dL_drawn_14 (fun c hc0 hc1 => ?_)
  refine x_istore_2 K dL_drawn_15 rfl ?_
  refine x_iconst K dL_drawn_16 ?_
  refine x_iload_2 K dL_drawn_17 ?_
  refine x_iconst K dL_drawn_18 ?_
  refine x_irem K (by omega) dL_drawn_19 ?_
  refine x_iadd K dL_drawn_20 ?_
  refine x_istore_3 K dL_drawn_21 rfl ?_
  refine x_iconst K dL_drawn_22 ?_
  refine x_istore_4 K dL_drawn_23 rfl ?_
  refine x_iconst K dL_drawn_25 ?_
  refine x_istore_5 K dL_drawn_26 rfl ?_
  refine gLp (P := fun k : Nat => ∀ τ : gS, (∃ Y pm P, gJv τ Y pm P ∧ Y 0 = (k : Int)) → gWX X E (320 + 20 * k) (6000 + 120 * k) 28 [some (.inl (.ref b)), some (rf 0 0), some (iv c), some (iv (1 + c % 4)), some (iv ((1 + 6 * k : Nat) : Int)), some (iv (k : Int)), none, none, none, none, none, none] [] (τ)) ((1 + c % 4).toNat) (fun k0 => ?_) (fun k hk ih => ?_) ?_
  · refine gWX.le (c' := 320 + 20 * 0) (s' := 6000 + 120 * 0) (by omega) (by omega) ?_
    exact gWX.to rfl rfl (k0 gZ0 ⟨_, _, _, gZ0_inv, rfl⟩)
  · intro τ hτ
    obtain ⟨Y, pm, P, hI, hY0⟩ := hτ
    have hk4 : k < 4 := by omega
    refine x_iload_5 K dL_drawn_28 ?_
    refine x_iload_3 K dL_drawn_30 ?_
    refine x_icmp_ge (tgt := 169) K (by omega) dL_drawn_31 (by decide) (fun h31 => absurd h31 (by omega)) (fun h31 => ?_)
    refine x_iconst K dL_drawn_34 ?_
    refine x_iload_2 K dL_drawn_35 ?_
    refine x_iconst K dL_drawn_36 ?_
    refine x_iconst K dL_drawn_37 ?_
    refine x_iload_5 K dL_drawn_38 ?_
    refine x_imul K dL_drawn_40 ?_
    refine x_iadd K dL_drawn_41 ?_
    refine x_iushr K (by omega) dL_drawn_42 (fun u hu0 hu1 => ?_)
    refine x_bipush K dL_drawn_43 rfl ?_
    refine x_irem K (by omega) dL_drawn_45 ?_
    refine x_iadd K dL_drawn_46 ?_
    refine x_istore_6 K dL_drawn_47 rfl ?_
    refine x_iconst K dL_drawn_49 ?_
    refine x_iload_2 K dL_drawn_50 ?_
    refine x_bipush K dL_drawn_51 rfl ?_
    refine x_iconst K dL_drawn_53 ?_
    refine x_iload_5 K dL_drawn_54 ?_
    refine x_imul K dL_drawn_56 ?_
    refine x_iadd K dL_drawn_57 ?_
    refine x_iushr K (by omega) dL_drawn_58 (fun u2 hu20 hu21 => ?_)
    refine x_bipush K dL_drawn_59 rfl ?_
    refine x_irem K (by omega) dL_drawn_61 ?_
    refine x_iadd K dL_drawn_62 ?_
    refine x_istore_7 K dL_drawn_63 rfl ?_
    refine x_aload_1 K dL_drawn_65 ?_
    refine x_iload_6 K dL_drawn_66 ?_
    refine x_iload_7 K dL_drawn_68 ?_
    obtain ⟨v, σ1, hf, hHi, hcs⟩ := q_scroll (E := E) hI (1 + u % 6) (1 + u2 % 8) (by omega) (by omega)
    have eob : gOb 0 Y (-1) (1 + u % 6) (1 + u2 % 8) 0 = 0 := by
      unfold gOb o_ad
      rw [if_pos rfl, if_pos ⟨⟨by omega, by omega⟩, by omega, by omega⟩, if_neg (by omega)]
    have h1 : v = Y 0 ∧ gJv σ1 (gCoY 0 Y (-1) (1 + u % 6) (1 + u2 % 8) 0) (gPn pm) (gPu P pm Y) := by
      rcases hcs with ⟨-, q2, q3⟩ | ⟨q1, -⟩ | ⟨q1, -⟩ | ⟨q1, -⟩
      · exact ⟨q2, q3⟩
      · omega
      · omega
      · omega
    obtain ⟨hv, hI1⟩ := h1
    have eY2 : gCoY 0 Y (-1) (1 + u % 6) (1 + u2 % 8) 0 = ySet (yF Y 0 (Y 0 + 1)) (Y 0).toNat (zNew (1 + u % 6) (1 + u2 % 8)) := rfl
    have hk0 : (Y 0).toNat = k := by omega
    rw [eY2, hk0] at hI1
    refine x_callH3 K hf mtL_scroll msL_scroll (g_mem 342 (by decide +kernel)) ⟨by omega, by omega, by omega⟩ rfl (Nat.le_of_ble_eq_true rfl) dL_drawn_70 ?_
    refine gWX.top (b := (k : Int)) (hv.trans hY0) ?_
    refine x_iload_5 K dL_drawn_73 ?_
    refine x_icmp_eq (tgt := 80) K (by omega) dL_drawn_75 (by decide) (fun h75 => ?_) (fun h75 => absurd rfl h75)
    refine x_iconst K dL_drawn_80 ?_
    refine x_istore_8 K dL_drawn_81 rfl ?_
    refine gLp (P := fun n : Nat => ∀ τ2 : gS, (∃ Y pm P, gJv τ2 Y pm P ∧ Y 0 = (k : Int) + 1 ∧ zb Y k 0 = 1 + u % 6 ∧ zb Y k 1 = 1 + u2 % 8 ∧ ∀ j, j < 48 → zb Y k (20 + j) ≠ -1) → gWX X E (320 + 20 * k + 2 + 2 * n) (6000 + 120 * k + 12 + 12 * n) 83 [some (.inl (.ref b)), some (rf 0 0), some (iv c), some (iv (1 + c % 4)), some (iv ((1 + 6 * k + n : Nat) : Int)), some (iv (k : Int)), some (iv (1 + u % 6)), some (iv (1 + u2 % 8)), some (iv (n : Int)), none, none, none] [] (τ2)) (6) (fun k0 => ?_) (fun n hn ih => ?_) ?_
    · refine gWX.le (c' := 320 + 20 * k + 2 + 2 * 0) (s' := 6000 + 120 * k + 12 + 12 * 0) (by omega) (by omega) ?_
      exact gWX.to rfl rfl (k0 σ1 ⟨_, _, _, hI1, by rw [ySet_lo _ _ _ (by omega), yF_at, if_pos rfl, hY0], by rw [zb_set _ _ _ (by omega)]; rfl, by rw [zb_set _ _ _ (by omega)]; rfl, fun j hj => by
    rw [zb_set _ _ _ (by omega)]
    unfold zNew
    rw [if_neg (by omega), if_neg (by omega), if_neg (by omega)]
    decide⟩)
    · intro τ2 hτ2
      obtain ⟨Y2, pm2, P2, hI2, hY2, hr2, hc2, hn2⟩ := hτ2
      refine x_iload_8 K dL_drawn_83 ?_
      refine x_bipush K dL_drawn_85 rfl ?_
      refine x_icmp_ge (tgt := 140) K (by omega) dL_drawn_87 (by decide) (fun h87 => absurd h87 (by omega)) (fun h87 => ?_)
      refine x_aloadc_0 K dL_drawn_90 ?_
      refine x_iload_4 K dL_drawn_91 ?_
      refine x_callS2 K (c_cell S (1 + 6 * k + n) (by omega)) mtL_cell msL_cell lkRL_137 ⟨by omega, by omega, by omega⟩ rfl (Nat.le_of_ble_eq_true rfl) dL_drawn_93 ?_
      refine x_iconst K dL_drawn_96 ?_
      refine x_iushr1 K dL_drawn_97 (fun d hd0 hd1 => ?_)
      refine x_istore_9 K dL_drawn_98 rfl ?_
      refine x_iinc_4 K dL_drawn_100 rfl ?_
      refine x_aload_1 K dL_drawn_103 ?_
      refine x_iload_5 K dL_drawn_104 ?_
      refine x_iload_9 K dL_drawn_106 ?_
      refine x_iload_6 K dL_drawn_108 ?_
      refine x_irem K (by omega) dL_drawn_110 ?_
      refine x_iload_9 K dL_drawn_111 ?_
      refine x_iconst K dL_drawn_113 ?_
      refine x_iushr K (by omega) dL_drawn_114 (fun d4 hd40 hd41 => ?_)
      refine x_iload_7 K dL_drawn_115 ?_
      refine x_irem K (by omega) dL_drawn_117 ?_
      refine x_iload_9 K dL_drawn_118 ?_
      refine x_bipush K dL_drawn_120 rfl ?_
      refine x_iushr K (by omega) dL_drawn_122 (fun d8 hd80 hd81 => ?_)
      refine x_bipush K dL_drawn_123 rfl ?_
      refine x_irem K (by omega) dL_drawn_125 ?_
      have hr9 : 0 ≤ d % (1 + u % 6) ∧ d % (1 + u % 6) < 1 + u % 6 := ⟨Int.emod_nonneg _ (by omega), Int.emod_lt_of_pos _ (by omega)⟩
      have hc9 : 0 ≤ d4 % (1 + u2 % 8) ∧ d4 % (1 + u2 % 8) < 1 + u2 % 8 := ⟨Int.emod_nonneg _ (by omega), Int.emod_lt_of_pos _ (by omega)⟩
      obtain ⟨v3, σ3, hf3, hHi3, hcs3⟩ := q_write (E := E) hI2 (k : Int) (d % (1 + u % 6)) (d4 % (1 + u2 % 8)) (d8 % 10) (by omega) (by omega) (by omega) (by omega)
      have eob3 : gOb 1 Y2 (k : Int) (d % (1 + u % 6)) (d4 % (1 + u2 % 8)) (d8 % 10) = 0 := by
        unfold gOb
        rw [if_neg (by omega), if_neg (fun q => q ⟨by omega, by omega⟩), if_neg (fun q => q.2 ⟨⟨hr9.1, by show _ < zb Y2 k 0; omega⟩, hc9.1, by show _ < zb Y2 k 1; omega⟩), if_pos rfl, if_pos ⟨by omega, by omega⟩]
      have h3 : v3 = gCoA 1 Y2 (k : Int) (d % (1 + u % 6)) (d4 % (1 + u2 % 8)) (d8 % 10) ∧ gJv σ3 (gCoY 1 Y2 (k : Int) (d % (1 + u % 6)) (d4 % (1 + u2 % 8)) (d8 % 10)) (gPn pm2) (gPu P2 pm2 Y2) := by
        rcases hcs3 with ⟨-, q2, q3⟩ | ⟨q1, -⟩ | ⟨q1, -⟩ | ⟨q1, -⟩
        · exact ⟨q2, q3⟩
        · omega
        · omega
        · omega
      obtain ⟨hv3, hI3⟩ := h3
      have eY3 : gCoY 1 Y2 (k : Int) (d % (1 + u % 6)) (d4 % (1 + u2 % 8)) (d8 % 10) = ySet Y2 k (zset (zb Y2 k) (d % (1 + u % 6)).toNat (d4 % (1 + u2 % 8)).toNat (d8 % 10)) := rfl
      rw [eY3] at hI3
      have hv4 : v3 = zb Y2 k (20 + (8 * (d % (1 + u % 6)).toNat + (d4 % (1 + u2 % 8)).toNat)) := hv3
      have sg := (gJv_s hI2).2.1.2 k (by omega)
      have sg2 := sg.2.2.2.2.2.1 (8 * (d % (1 + u % 6)).toNat + (d4 % (1 + u2 % 8)).toNat) (by omega)
      have sg3 := hn2 (8 * (d % (1 + u % 6)).toNat + (d4 % (1 + u2 % 8)).toNat) (by omega)
      have g0 : ySet Y2 k (zset (zb Y2 k) (d % (1 + u % 6)).toNat (d4 % (1 + u2 % 8)).toNat (d8 % 10)) 0 = (k : Int) + 1 := by rw [ySet_lo _ _ _ (by omega)]; exact hY2
      have gr : zb (ySet Y2 k (zset (zb Y2 k) (d % (1 + u % 6)).toNat (d4 % (1 + u2 % 8)).toNat (d8 % 10))) k 0 = 1 + u % 6 := by rw [zb_set _ _ _ (by omega), zset_lo _ _ _ _ (by omega)]; exact hr2
      have gc2 : zb (ySet Y2 k (zset (zb Y2 k) (d % (1 + u % 6)).toNat (d4 % (1 + u2 % 8)).toNat (d8 % 10))) k 1 = 1 + u2 % 8 := by rw [zb_set _ _ _ (by omega), zset_lo _ _ _ _ (by omega)]; exact hc2
      have gn : ∀ j, j < 48 → zb (ySet Y2 k (zset (zb Y2 k) (d % (1 + u % 6)).toNat (d4 % (1 + u2 % 8)).toNat (d8 % 10))) k (20 + j) ≠ -1 := fun j hj => by
        rw [zb_set _ _ _ (by omega), zset_at]
        split
        · omega
        · exact hn2 j hj
      refine x_callH5 K hf3 mtL_write msL_write (g_mem 567 (by decide +kernel)) ⟨by omega, by omega, by omega⟩ rfl (Nat.le_of_ble_eq_true rfl) dL_drawn_126 ?_
      refine x_if_ge (tgt := 134) K (by omega) dL_drawn_129 (by decide) (fun h129 => ?_) (fun h129 => absurd (show 0 ≤ v3 by omega) h129)
      refine x_iinc_8 K dL_drawn_134 rfl ?_
      refine x_goto (tgt := 83) K dL_drawn_137 (by decide) ?_
      exact gWX.fgt 9 (gWX.le (by omega) (by omega) (gWX.to rfl rfl (ih σ3 ⟨_, _, _, hI3, g0, gr, gc2, gn⟩)))
    · intro τ2 hτ2
      obtain ⟨Y2, pm2, P2, hI2, hY2, hr2, hc2, hn2⟩ := hτ2
      refine x_iload_8 K dL_drawn_83 ?_
      refine x_bipush K dL_drawn_85 rfl ?_
      refine x_icmp_ge (tgt := 140) K (by omega) dL_drawn_87 (by decide) (fun h87 => ?_) (fun h87 => absurd h87 (by omega))
      refine x_iload_2 K dL_drawn_140 ?_
      refine x_bipush K dL_drawn_141 rfl ?_
      refine x_iload_5 K dL_drawn_143 ?_
      refine x_iadd K dL_drawn_145 ?_
      refine x_iushr K (by omega) dL_drawn_146 (fun u3 hu30 hu31 => ?_)
      refine x_iconst K dL_drawn_147 ?_
      refine x_irem K (by omega) dL_drawn_148 ?_
      refine x_if_le (tgt := 163) K (by omega) dL_drawn_149 (by decide) (fun h149 => ?_) (fun h149 => ?_)
      · refine x_iinc_5 K dL_drawn_163 rfl ?_
        refine x_goto (tgt := 28) K dL_drawn_166 (by decide) ?_
        exact gWX.fgt 6 (gWX.fgt 7 (gWX.fgt 8 (gWX.le (by omega) (by omega) (gWX.to (gCons rfl (gCons rfl (gCons rfl (gCons rfl (gCons (gIv (by omega)) rfl))))) rfl (ih τ2 ⟨_, _, _, hI2, hY2⟩)))))
      · refine x_aload_1 K dL_drawn_152 ?_
        refine x_iload_5 K dL_drawn_153 ?_
        obtain ⟨v4, σ4, hf4, hHi4, hcs4⟩ := q_seal (E := E) hI2 (k : Int) (by omega)
        have hz2 := (gJv_s hI2).2.1.2 k (by omega)
        have hsm : s_sm (zb Y2 k) = 0 := gSum_zero _ (fun b hb => s_m_all (fun r hr c9 hc9 => hn2 _ (by omega)) (by have := hz2.1; omega))
        have eob4 : gOb 4 Y2 (k : Int) 0 0 0 = 0 := by
          unfold gOb o_s
          rw [if_neg (by omega), if_neg (fun q => q ⟨by omega, by omega⟩), if_neg (by omega), if_neg (by omega), if_neg (by omega), if_neg (by omega), if_pos rfl]
          show (if 0 < s_sm (zb Y2 k) then _ else _) = _
          rw [if_neg (by omega)]
        have h4 : v4 = s_tt (zb Y2 k) ∧ gJv σ4 (ySet Y2 k (zTell (zb Y2 k))) (gPn pm2) (gPu P2 pm2 Y2) := by
          rcases hcs4 with ⟨-, q2, q3⟩ | ⟨q1, -⟩ | ⟨q1, -⟩ | ⟨q1, -⟩
          · exact ⟨q2, q3⟩
          · omega
          · omega
          · omega
        obtain ⟨hv4, hI4⟩ := h4
        have btt := gSum_le (f := fun b => s_b (zb Y2 k) b % 10) (c := 9) (fun b => by (try dsimp only); omega) 6
        have btt2 : s_tt (zb Y2 k) = gSum (fun b => s_b (zb Y2 k) b % 10) 6 := rfl
        refine x_callH2 K hf4 mtL_seal msL_seal (g_mem 597 (by decide +kernel)) ⟨by omega, by omega, by omega⟩ rfl (Nat.le_of_ble_eq_true rfl) dL_drawn_155 ?_
        refine x_if_ge (tgt := 163) K (by omega) dL_drawn_158 (by decide) (fun h158 => ?_) (fun h158 => absurd (show 0 ≤ v4 by omega) h158)
        refine x_iinc_5 K dL_drawn_163 rfl ?_
        refine x_goto (tgt := 28) K dL_drawn_166 (by decide) ?_
        exact gWX.fgt 6 (gWX.fgt 7 (gWX.fgt 8 (gWX.le (by omega) (by omega) (gWX.to (gCons rfl (gCons rfl (gCons rfl (gCons rfl (gCons (gIv (by omega)) rfl))))) rfl (ih σ4 ⟨_, _, _, hI4, by rw [ySet_lo _ _ _ (by omega)]; exact hY2⟩)))))
  · intro τ hτ
    refine x_iload_5 K dL_drawn_28 ?_
    refine x_iload_3 K dL_drawn_30 ?_
    refine x_icmp_ge (tgt := 169) K (by omega) dL_drawn_31 (by decide) (fun h31 => ?_) (fun h31 => absurd h31 (by omega))
    refine x_bipush K dL_drawn_169 rfl ?_
    refine x_iload_2 K dL_drawn_171 ?_
    refine x_bipush K dL_drawn_172 rfl ?_
    refine x_iushr K (by omega) dL_drawn_174 (fun u5 hu50 hu51 => ?_)
    refine x_bipush K dL_drawn_175 rfl ?_
    refine x_irem K (by omega) dL_drawn_177 ?_
    refine x_iadd K dL_drawn_178 ?_
    refine x_istore_5 K dL_drawn_179 rfl ?_
    refine x_iconst K dL_drawn_181 ?_
    refine x_istore_6 K dL_drawn_182 rfl ?_
    refine gLp (P := fun j : Nat => ∀ τ : gS, (∃ Y pm P, gJv τ Y pm P ∧ 1 ≤ Y 0) → gWX X E (420 + 6 * j) (6600 + 36 * j) 184 [some (.inl (.ref b)), some (rf 0 0), some (iv c), some (iv (1 + c % 4)), some (iv ((1 + 6 * (1 + c % 4).toNat : Nat) : Int)), some (iv (10 + u5 % 36)), some (iv (j : Int)), none, none, none, none, none] [] (τ)) ((10 + u5 % 36).toNat) (fun k0 => ?_) (fun j hj ih => ?_) ?_
    · obtain ⟨Y, pm, P, hI, hY0⟩ := hτ
      refine gWX.le (c' := 420 + 6 * 0) (s' := 6600 + 36 * 0) (by omega) (by omega) ?_
      exact gWX.to rfl rfl (k0 τ ⟨_, _, _, hI, by omega⟩)
    · intro τ hτ
      obtain ⟨Y, pm, P, hI, hY1⟩ := hτ
      obtain ⟨hS, hY, -, -, -⟩ := gJv_s hI
      have hY0 := hY.1
      refine x_iload_6 K dL_drawn_184 ?_
      refine x_iload_5 K dL_drawn_186 ?_
      refine x_icmp_ge (tgt := 527) K (by omega) dL_drawn_188 (by decide) (fun h188 => absurd h188 (by omega)) (fun h188 => ?_)
      refine x_aloadc_0 K dL_drawn_191 ?_
      refine x_iload_4 K dL_drawn_192 ?_
      refine x_iload_6 K dL_drawn_194 ?_
      refine x_iadd K dL_drawn_196 ?_
      refine x_callS2 K (c_cell S (1 + 6 * (1 + c % 4).toNat + j) (by omega)) mtL_cell msL_cell lkRL_137 ⟨by omega, by omega, by omega⟩ rfl (Nat.le_of_ble_eq_true rfl) dL_drawn_197 ?_
      refine x_iconst K dL_drawn_200 ?_
      refine x_iushr1 K dL_drawn_201 (fun d hd0 hd1 => ?_)
      refine x_istore_7 K dL_drawn_202 rfl ?_
      refine x_iload_7 K dL_drawn_204 ?_
      refine x_iconst K dL_drawn_206 ?_
      refine x_iushr K (by omega) dL_drawn_207 (fun a1 ha10 ha11 => ?_)
      refine x_aload_1 K dL_drawn_208 ?_
      refine x_iconst K dL_drawn_209 ?_
      refine x_callV1 K (p_account hS hY 0 (by omega)) mtX6_account miX6_account rc0 ⟨by decide, by decide⟩ lkRL_150 ⟨by omega, by omega, by omega⟩ rfl (Nat.le_of_ble_eq_true rfl) dL_drawn_210 ?_
      refine gWX.top (b := Y 0) (pA_0 hY) ?_
      refine x_irem K (by omega) dL_drawn_213 ?_
      obtain ⟨p, hp⟩ : ∃ p : Nat, a1 % Y 0 = (p : Int) := ⟨(a1 % Y 0).toNat, by have := Int.emod_nonneg a1 (show Y 0 ≠ 0 by omega); omega⟩
      have hpk : (p : Int) < Y 0 := by have := Int.emod_lt_of_pos a1 (show 0 < Y 0 by omega); omega
      refine gWX.top (b := (p : Int)) hp ?_
      have hz := hY.2 p hpk
      have z0 := hz.1
      have z1 := hz.2.1
      have zz2 := hz.2.2.1
      refine x_istore_8 K dL_drawn_214 rfl ?_
      refine x_iload_7 K dL_drawn_216 ?_
      refine x_bipush K dL_drawn_218 rfl ?_
      refine x_iushr K (by omega) dL_drawn_220 (fun a2 ha20 ha21 => ?_)
      refine x_aload_1 K dL_drawn_221 ?_
      refine x_iload_8 K dL_drawn_222 ?_
      refine x_iconst K dL_drawn_224 ?_
      refine x_callH3 K (p_of hS hY 0 hpk (by omega)) mtL_of msL_of (g_mem 606 (by decide +kernel)) ⟨by omega, by omega, by omega⟩ rfl (Nat.le_of_ble_eq_true rfl) dL_drawn_225 ?_
      refine gWX.top (b := zb Y p 0) rfl ?_
      refine x_irem K (by omega) dL_drawn_228 ?_
      obtain ⟨r, hr⟩ : ∃ r : Nat, a2 % zb Y p 0 = (r : Int) := ⟨(a2 % zb Y p 0).toNat, by have := Int.emod_nonneg a2 (show zb Y p 0 ≠ 0 by omega); omega⟩
      have hrk : (r : Int) < zb Y p 0 := by have := Int.emod_lt_of_pos a2 (show 0 < zb Y p 0 by omega); omega
      refine gWX.top (b := (r : Int)) hr ?_
      refine x_istore_9 K dL_drawn_229 rfl ?_
      refine x_iload_7 K dL_drawn_231 ?_
      refine x_bipush K dL_drawn_233 rfl ?_
      refine x_iushr K (by omega) dL_drawn_235 (fun a3 ha30 ha31 => ?_)
      refine x_aload_1 K dL_drawn_236 ?_
      refine x_iload_8 K dL_drawn_237 ?_
      refine x_iconst K dL_drawn_239 ?_
      refine x_callH3 K (p_of hS hY 1 hpk (by omega)) mtL_of msL_of (g_mem 606 (by decide +kernel)) ⟨by omega, by omega, by omega⟩ rfl (Nat.le_of_ble_eq_true rfl) dL_drawn_240 ?_
      refine gWX.top (b := zb Y p 1) rfl ?_
      refine x_irem K (by omega) dL_drawn_243 ?_
      obtain ⟨q, hq⟩ : ∃ q : Nat, a3 % zb Y p 1 = (q : Int) := ⟨(a3 % zb Y p 1).toNat, by have := Int.emod_nonneg a3 (show zb Y p 1 ≠ 0 by omega); omega⟩
      have hqk : (q : Int) < zb Y p 1 := by have := Int.emod_lt_of_pos a3 (show 0 < zb Y p 1 by omega); omega
      refine gWX.top (b := (q : Int)) hq ?_
      refine x_istore_10 K dL_drawn_244 rfl ?_
      refine gJn (P := ∀ (σ2 : gS) (v : Int), pGo σ2 v → gWX X E (420 + 6 * j + 2) (6600 + 36 * j + 12) 489 [some (.inl (.ref b)), some (rf 0 0), some (iv c), some (iv (1 + c % 4)), some (iv ((1 + 6 * (1 + c % 4).toNat : Nat) : Int)), some (iv (10 + u5 % 36)), some (iv (j : Int)), some (iv d), some (iv (p : Int)), some (iv (r : Int)), some (iv (q : Int)), some (iv v)] [] σ2) (fun kJ => ?_) (fun σ2 v hgo => ?_)
      · refine x_iload_7 K dL_drawn_246 ?_
        refine x_bipush K dL_drawn_248 rfl ?_
        refine x_irem K (by omega) dL_drawn_250 ?_
        obtain y | y | y | y | y | y | y | y | y | y | y | y | y | y | y | y : d % 16 = 0 ∨ d % 16 = 1 ∨ d % 16 = 2 ∨ d % 16 = 3 ∨ d % 16 = 4 ∨ d % 16 = 5 ∨ d % 16 = 6 ∨ d % 16 = 7 ∨ d % 16 = 8 ∨ d % 16 = 9 ∨ d % 16 = 10 ∨ d % 16 = 11 ∨ d % 16 = 12 ∨ d % 16 = 13 ∨ d % 16 = 14 ∨ d % 16 = 15 := by omega
        · 
          refine x_tblIn (tgt := 324) K 0 (by omega) (by omega) (by omega) rfl dL_drawn_251 (by decide) ?_
          refine x_aload_1 K dL_drawn_324 ?_
          refine x_iload_8 K dL_drawn_325 ?_
          refine x_iload_9 K dL_drawn_327 ?_
          refine x_iload_10 K dL_drawn_329 ?_
          refine x_iload_7 K dL_drawn_331 ?_
          refine x_bipush K dL_drawn_333 rfl ?_
          refine x_iushr K (by omega) dL_drawn_335 (fun a4 ha40 ha41 => ?_)
          refine x_bipush K dL_drawn_336 rfl ?_
          refine x_irem K (by omega) dL_drawn_338 ?_
          have sg := hz.2.2.2.2.2.1 (8 * r + q) (by omega)
          obtain ⟨v, σ1, hf, hHi, hcs⟩ := q_write (E := E) hI (p : Int) (r : Int) (q : Int) (a4 % 10) (by omega) (by omega) (by omega) (by omega)
          have eob : gOb 1 Y (p : Int) (r : Int) (q : Int) (a4 % 10) = 0 := by
            unfold gOb
            rw [if_neg (by omega), if_neg (fun y => y ⟨by omega, hpk⟩), if_neg (fun y => y.2 ⟨⟨by omega, hrk⟩, by omega, hqk⟩), if_pos rfl, if_pos ⟨by omega, by omega⟩]
          have hw : v = zb Y p (20 + (8 * r + q)) ∧ gJv σ1 (gCoY 1 Y (p : Int) (r : Int) (q : Int) (a4 % 10)) (gPn pm) (gPu P pm Y) := by
            rcases hcs with ⟨-, y2, y3⟩ | ⟨y1, -⟩ | ⟨y1, -⟩ | ⟨y1, -⟩
            · exact ⟨y2, y3⟩
            · omega
            · omega
            · omega
          have hle := gCoY_le (d := 1) (Y := Y) (s := (p : Int)) (r := (r : Int)) (c := (q : Int)) (k := a4 % 10)
          refine x_callH5 K hf mtL_write msL_write (g_mem 567 (by decide +kernel)) ⟨by omega, by omega, by omega⟩ rfl (Nat.le_of_ble_eq_true rfl) dL_drawn_339 ?_
          refine x_iconst K dL_drawn_342 ?_
          refine x_icmp_ge (tgt := 350) K (by omega) dL_drawn_343 (by decide) (fun h343 => ?_) (fun h343 => absurd (show -1 ≤ v by omega) h343)
          refine x_iconst K dL_drawn_350 ?_
          refine x_istore_11 K dL_drawn_351 rfl ?_
          refine x_goto (tgt := 489) K dL_drawn_353 (by decide) ?_
          exact gWX.le (by omega) (by omega) (gWX.to rfl rfl (kJ _ _ ⟨⟨_, _, _, hw.2, by omega⟩, Or.inl (by omega), by omega, by omega⟩))
        · 
          refine x_tblIn (tgt := 324) K 1 (by omega) (by omega) (by omega) rfl dL_drawn_251 (by decide) ?_
          refine x_aload_1 K dL_drawn_324 ?_
          refine x_iload_8 K dL_drawn_325 ?_
          refine x_iload_9 K dL_drawn_327 ?_
          refine x_iload_10 K dL_drawn_329 ?_
          refine x_iload_7 K dL_drawn_331 ?_
          refine x_bipush K dL_drawn_333 rfl ?_
          refine x_iushr K (by omega) dL_drawn_335 (fun a4 ha40 ha41 => ?_)
          refine x_bipush K dL_drawn_336 rfl ?_
          refine x_irem K (by omega) dL_drawn_338 ?_
          have sg := hz.2.2.2.2.2.1 (8 * r + q) (by omega)
          obtain ⟨v, σ1, hf, hHi, hcs⟩ := q_write (E := E) hI (p : Int) (r : Int) (q : Int) (a4 % 10) (by omega) (by omega) (by omega) (by omega)
          have eob : gOb 1 Y (p : Int) (r : Int) (q : Int) (a4 % 10) = 0 := by
            unfold gOb
            rw [if_neg (by omega), if_neg (fun y => y ⟨by omega, hpk⟩), if_neg (fun y => y.2 ⟨⟨by omega, hrk⟩, by omega, hqk⟩), if_pos rfl, if_pos ⟨by omega, by omega⟩]
          have hw : v = zb Y p (20 + (8 * r + q)) ∧ gJv σ1 (gCoY 1 Y (p : Int) (r : Int) (q : Int) (a4 % 10)) (gPn pm) (gPu P pm Y) := by
            rcases hcs with ⟨-, y2, y3⟩ | ⟨y1, -⟩ | ⟨y1, -⟩ | ⟨y1, -⟩
            · exact ⟨y2, y3⟩
            · omega
            · omega
            · omega
          have hle := gCoY_le (d := 1) (Y := Y) (s := (p : Int)) (r := (r : Int)) (c := (q : Int)) (k := a4 % 10)
          refine x_callH5 K hf mtL_write msL_write (g_mem 567 (by decide +kernel)) ⟨by omega, by omega, by omega⟩ rfl (Nat.le_of_ble_eq_true rfl) dL_drawn_339 ?_
          refine x_iconst K dL_drawn_342 ?_
          refine x_icmp_ge (tgt := 350) K (by omega) dL_drawn_343 (by decide) (fun h343 => ?_) (fun h343 => absurd (show -1 ≤ v by omega) h343)
          refine x_iconst K dL_drawn_350 ?_
          refine x_istore_11 K dL_drawn_351 rfl ?_
          refine x_goto (tgt := 489) K dL_drawn_353 (by decide) ?_
          exact gWX.le (by omega) (by omega) (gWX.to rfl rfl (kJ _ _ ⟨⟨_, _, _, hw.2, by omega⟩, Or.inl (by omega), by omega, by omega⟩))
        · 
          refine x_tblIn (tgt := 356) K 2 (by omega) (by omega) (by omega) rfl dL_drawn_251 (by decide) ?_
          refine x_aload_1 K dL_drawn_356 ?_
          refine x_iload_8 K dL_drawn_357 ?_
          obtain ⟨v, σ1, hf, hHi, hcs⟩ := q_seal (E := E) hI (p : Int) (by omega)
          have hle := gCoY_le (d := 4) (Y := Y) (s := (p : Int)) (r := 0) (c := 0) (k := 0)
          have hnb : gOb 4 Y (p : Int) 0 0 0 ≠ 1 ∧ gOb 4 Y (p : Int) 0 0 0 ≠ 2 := by
            unfold gOb
            rw [if_neg (by omega), if_neg (fun y => y ⟨by omega, hpk⟩), if_neg (by omega), if_neg (by omega), if_neg (by omega), if_neg (by omega), if_pos rfl]
            unfold o_s
            have := s_sm_bd hz
            show (if 0 < s_sm (zb Y p) then 200 + s_sm (zb Y p) else 0) ≠ 1 ∧ (if 0 < s_sm (zb Y p) then 200 + s_sm (zb Y p) else 0) ≠ 2
            split <;> omega
          have ba : 0 ≤ gCoA 4 Y (p : Int) 0 0 0 ∧ gCoA 4 Y (p : Int) 0 0 0 ≤ 100000 := by
            have btt := gSum_le (f := fun b => s_b (zb Y p) b % 10) (c := 9) (fun b => by (try dsimp only); omega) 6
            show 0 ≤ gSum (fun b => s_b (zb Y p) b % 10) 6 ∧ gSum (fun b => s_b (zb Y p) b % 10) 6 ≤ 100000
            omega
          refine x_callH2 K hf mtL_seal msL_seal (g_mem 597 (by decide +kernel)) ⟨by omega, by omega, by omega⟩ rfl (Nat.le_of_ble_eq_true rfl) dL_drawn_359 ?_
          refine x_istore_11 K dL_drawn_362 rfl ?_
          refine x_goto (tgt := 489) K dL_drawn_364 (by decide) ?_
          exact gWX.le (by omega) (by omega) (gWX.to rfl rfl (kJ _ _ (pGo_ok hY1 hle hnb ba (by decide) hcs)))
        · 
          refine x_tblIn (tgt := 356) K 3 (by omega) (by omega) (by omega) rfl dL_drawn_251 (by decide) ?_
          refine x_aload_1 K dL_drawn_356 ?_
          refine x_iload_8 K dL_drawn_357 ?_
          obtain ⟨v, σ1, hf, hHi, hcs⟩ := q_seal (E := E) hI (p : Int) (by omega)
          have hle := gCoY_le (d := 4) (Y := Y) (s := (p : Int)) (r := 0) (c := 0) (k := 0)
          have hnb : gOb 4 Y (p : Int) 0 0 0 ≠ 1 ∧ gOb 4 Y (p : Int) 0 0 0 ≠ 2 := by
            unfold gOb
            rw [if_neg (by omega), if_neg (fun y => y ⟨by omega, hpk⟩), if_neg (by omega), if_neg (by omega), if_neg (by omega), if_neg (by omega), if_pos rfl]
            unfold o_s
            have := s_sm_bd hz
            show (if 0 < s_sm (zb Y p) then 200 + s_sm (zb Y p) else 0) ≠ 1 ∧ (if 0 < s_sm (zb Y p) then 200 + s_sm (zb Y p) else 0) ≠ 2
            split <;> omega
          have ba : 0 ≤ gCoA 4 Y (p : Int) 0 0 0 ∧ gCoA 4 Y (p : Int) 0 0 0 ≤ 100000 := by
            have btt := gSum_le (f := fun b => s_b (zb Y p) b % 10) (c := 9) (fun b => by (try dsimp only); omega) 6
            show 0 ≤ gSum (fun b => s_b (zb Y p) b % 10) 6 ∧ gSum (fun b => s_b (zb Y p) b % 10) 6 ≤ 100000
            omega
          refine x_callH2 K hf mtL_seal msL_seal (g_mem 597 (by decide +kernel)) ⟨by omega, by omega, by omega⟩ rfl (Nat.le_of_ble_eq_true rfl) dL_drawn_359 ?_
          refine x_istore_11 K dL_drawn_362 rfl ?_
          refine x_goto (tgt := 489) K dL_drawn_364 (by decide) ?_
          exact gWX.le (by omega) (by omega) (gWX.to rfl rfl (kJ _ _ (pGo_ok hY1 hle hnb ba (by decide) hcs)))
        · 
          refine x_tblIn (tgt := 367) K 4 (by omega) (by omega) (by omega) rfl dL_drawn_251 (by decide) ?_
          refine x_aload_1 K dL_drawn_367 ?_
          refine x_iload_8 K dL_drawn_368 ?_
          obtain ⟨v, σ1, hf, hHi, hcs⟩ := q_copy (E := E) hI (p : Int) (by omega)
          have hle := gCoY_le (d := 5) (Y := Y) (s := (p : Int)) (r := 0) (c := 0) (k := 0)
          have hnb : gOb 5 Y (p : Int) 0 0 0 ≠ 1 ∧ gOb 5 Y (p : Int) 0 0 0 ≠ 2 := by
            unfold gOb
            rw [if_neg (by omega), if_neg (fun y => y ⟨by omega, hpk⟩), if_neg (by omega), if_neg (by omega), if_neg (by omega), if_neg (by omega), if_neg (by omega), if_pos rfl]
            unfold o_ad
            split <;> omega
          have ba : 0 ≤ gCoA 5 Y (p : Int) 0 0 0 ∧ gCoA 5 Y (p : Int) 0 0 0 ≤ 100000 := by
            show 0 ≤ Y 0 ∧ Y 0 ≤ 100000
            omega
          refine x_callH2 K hf mtL_copy msL_copy (g_mem 621 (by decide +kernel)) ⟨by omega, by omega, by omega⟩ rfl (Nat.le_of_ble_eq_true rfl) dL_drawn_370 ?_
          refine x_istore_11 K dL_drawn_373 rfl ?_
          refine x_goto (tgt := 489) K dL_drawn_375 (by decide) ?_
          exact gWX.le (by omega) (by omega) (gWX.to rfl rfl (kJ _ _ (pGo_ok hY1 hle hnb ba (by decide) hcs)))
        · 
          refine x_tblIn (tgt := 378) K 5 (by omega) (by omega) (by omega) rfl dL_drawn_251 (by decide) ?_
          refine x_aload_1 K dL_drawn_378 ?_
          refine x_iload_8 K dL_drawn_379 ?_
          refine x_iload_9 K dL_drawn_381 ?_
          refine x_iload_10 K dL_drawn_383 ?_
          refine x_iconst K dL_drawn_385 ?_
          refine x_iload_7 K dL_drawn_386 ?_
          refine x_bipush K dL_drawn_388 rfl ?_
          refine x_iushr K (by omega) dL_drawn_390 (fun a4 ha40 ha41 => ?_)
          refine x_bipush K dL_drawn_391 rfl ?_
          refine x_irem K (by omega) dL_drawn_393 ?_
          refine x_iadd K dL_drawn_394 ?_
          have sg := hz.2.2.2.2.2.1 (8 * r + q) (by omega)
          obtain ⟨v, σ1, hf, hHi, hcs⟩ := q_slip (E := E) hI (p : Int) (r : Int) (q : Int) (1 + a4 % 9) (by omega) (by omega) (by omega) (by omega)
          have hle := gCoY_le (d := 2) (Y := Y) (s := (p : Int)) (r := (r : Int)) (c := (q : Int)) (k := 1 + a4 % 9)
          have hnb : gOb 2 Y (p : Int) (r : Int) (q : Int) (1 + a4 % 9) ≠ 1 ∧ gOb 2 Y (p : Int) (r : Int) (q : Int) (1 + a4 % 9) ≠ 2 := by
            unfold gOb
            rw [if_neg (by omega), if_neg (fun y => y ⟨by omega, hpk⟩), if_neg (fun y => y.2 ⟨⟨by omega, hrk⟩, by omega, hqk⟩), if_neg (by omega), if_pos rfl, if_pos ⟨by omega, by omega⟩]
            unfold o_t
            split <;> omega
          have ba : 0 ≤ gCoA 2 Y (p : Int) (r : Int) (q : Int) (1 + a4 % 9) ∧ gCoA 2 Y (p : Int) (r : Int) (q : Int) (1 + a4 % 9) ≤ 100000 := by
            show 0 ≤ (zb Y p (20 + (8 * r + q)) + (1 + a4 % 9)) % 10 ∧ (zb Y p (20 + (8 * r + q)) + (1 + a4 % 9)) % 10 ≤ 100000
            omega
          have hgo := pGo_ok hY1 hle hnb ba (by decide) hcs
          refine x_callH5 K hf mtL_slip msL_slip (g_mem 630 (by decide +kernel)) ⟨by omega, by omega, by omega⟩ rfl (Nat.le_of_ble_eq_true rfl) dL_drawn_395 ?_
          refine x_iconst K dL_drawn_398 ?_
          refine x_icmp_ge (tgt := 407) K (by have := hgo.2.2; omega) dL_drawn_399 (by decide) (fun h399 => ?_) (fun h399 => ?_)
          · refine x_iconst K dL_drawn_407 ?_
            refine x_istore_11 K dL_drawn_408 rfl ?_
            refine x_goto (tgt := 489) K dL_drawn_410 (by decide) ?_
            exact gWX.le (by omega) (by omega) (gWX.to rfl rfl (kJ _ _ ⟨hgo.1, Or.inl (by omega), by omega, by omega⟩))
          · refine x_bipush K dL_drawn_402 rfl ?_
            refine x_goto (tgt := 408) K dL_drawn_404 (by decide) ?_
            refine x_istore_11 K dL_drawn_408 rfl ?_
            refine x_goto (tgt := 489) K dL_drawn_410 (by decide) ?_
            exact gWX.le (by omega) (by omega) (gWX.to rfl rfl (kJ _ _ ⟨hgo.1, Or.inr ⟨by omega, by rcases hgo.2.1 with y | y; (exfalso; omega); exact y.2⟩, by omega, by omega⟩))
        · 
          refine x_tblIn (tgt := 378) K 6 (by omega) (by omega) (by omega) rfl dL_drawn_251 (by decide) ?_
          refine x_aload_1 K dL_drawn_378 ?_
          refine x_iload_8 K dL_drawn_379 ?_
          refine x_iload_9 K dL_drawn_381 ?_
          refine x_iload_10 K dL_drawn_383 ?_
          refine x_iconst K dL_drawn_385 ?_
          refine x_iload_7 K dL_drawn_386 ?_
          refine x_bipush K dL_drawn_388 rfl ?_
          refine x_iushr K (by omega) dL_drawn_390 (fun a4 ha40 ha41 => ?_)
          refine x_bipush K dL_drawn_391 rfl ?_
          refine x_irem K (by omega) dL_drawn_393 ?_
          refine x_iadd K dL_drawn_394 ?_
          have sg := hz.2.2.2.2.2.1 (8 * r + q) (by omega)
          obtain ⟨v, σ1, hf, hHi, hcs⟩ := q_slip (E := E) hI (p : Int) (r : Int) (q : Int) (1 + a4 % 9) (by omega) (by omega) (by omega) (by omega)
          have hle := gCoY_le (d := 2) (Y := Y) (s := (p : Int)) (r := (r : Int)) (c := (q : Int)) (k := 1 + a4 % 9)
          have hnb : gOb 2 Y (p : Int) (r : Int) (q : Int) (1 + a4 % 9) ≠ 1 ∧ gOb 2 Y (p : Int) (r : Int) (q : Int) (1 + a4 % 9) ≠ 2 := by
            unfold gOb
            rw [if_neg (by omega), if_neg (fun y => y ⟨by omega, hpk⟩), if_neg (fun y => y.2 ⟨⟨by omega, hrk⟩, by omega, hqk⟩), if_neg (by omega), if_pos rfl, if_pos ⟨by omega, by omega⟩]
            unfold o_t
            split <;> omega
          have ba : 0 ≤ gCoA 2 Y (p : Int) (r : Int) (q : Int) (1 + a4 % 9) ∧ gCoA 2 Y (p : Int) (r : Int) (q : Int) (1 + a4 % 9) ≤ 100000 := by
            show 0 ≤ (zb Y p (20 + (8 * r + q)) + (1 + a4 % 9)) % 10 ∧ (zb Y p (20 + (8 * r + q)) + (1 + a4 % 9)) % 10 ≤ 100000
            omega
          have hgo := pGo_ok hY1 hle hnb ba (by decide) hcs
          refine x_callH5 K hf mtL_slip msL_slip (g_mem 630 (by decide +kernel)) ⟨by omega, by omega, by omega⟩ rfl (Nat.le_of_ble_eq_true rfl) dL_drawn_395 ?_
          refine x_iconst K dL_drawn_398 ?_
          refine x_icmp_ge (tgt := 407) K (by have := hgo.2.2; omega) dL_drawn_399 (by decide) (fun h399 => ?_) (fun h399 => ?_)
          · refine x_iconst K dL_drawn_407 ?_
            refine x_istore_11 K dL_drawn_408 rfl ?_
            refine x_goto (tgt := 489) K dL_drawn_410 (by decide) ?_
            exact gWX.le (by omega) (by omega) (gWX.to rfl rfl (kJ _ _ ⟨hgo.1, Or.inl (by omega), by omega, by omega⟩))
          · refine x_bipush K dL_drawn_402 rfl ?_
            refine x_goto (tgt := 408) K dL_drawn_404 (by decide) ?_
            refine x_istore_11 K dL_drawn_408 rfl ?_
            refine x_goto (tgt := 489) K dL_drawn_410 (by decide) ?_
            exact gWX.le (by omega) (by omega) (gWX.to rfl rfl (kJ _ _ ⟨hgo.1, Or.inr ⟨by omega, by rcases hgo.2.1 with y | y; (exfalso; omega); exact y.2⟩, by omega, by omega⟩))
        · 
          refine x_tblIn (tgt := 378) K 7 (by omega) (by omega) (by omega) rfl dL_drawn_251 (by decide) ?_
          refine x_aload_1 K dL_drawn_378 ?_
          refine x_iload_8 K dL_drawn_379 ?_
          refine x_iload_9 K dL_drawn_381 ?_
          refine x_iload_10 K dL_drawn_383 ?_
          refine x_iconst K dL_drawn_385 ?_
          refine x_iload_7 K dL_drawn_386 ?_
          refine x_bipush K dL_drawn_388 rfl ?_
          refine x_iushr K (by omega) dL_drawn_390 (fun a4 ha40 ha41 => ?_)
          refine x_bipush K dL_drawn_391 rfl ?_
          refine x_irem K (by omega) dL_drawn_393 ?_
          refine x_iadd K dL_drawn_394 ?_
          have sg := hz.2.2.2.2.2.1 (8 * r + q) (by omega)
          obtain ⟨v, σ1, hf, hHi, hcs⟩ := q_slip (E := E) hI (p : Int) (r : Int) (q : Int) (1 + a4 % 9) (by omega) (by omega) (by omega) (by omega)
          have hle := gCoY_le (d := 2) (Y := Y) (s := (p : Int)) (r := (r : Int)) (c := (q : Int)) (k := 1 + a4 % 9)
          have hnb : gOb 2 Y (p : Int) (r : Int) (q : Int) (1 + a4 % 9) ≠ 1 ∧ gOb 2 Y (p : Int) (r : Int) (q : Int) (1 + a4 % 9) ≠ 2 := by
            unfold gOb
            rw [if_neg (by omega), if_neg (fun y => y ⟨by omega, hpk⟩), if_neg (fun y => y.2 ⟨⟨by omega, hrk⟩, by omega, hqk⟩), if_neg (by omega), if_pos rfl, if_pos ⟨by omega, by omega⟩]
            unfold o_t
            split <;> omega
          have ba : 0 ≤ gCoA 2 Y (p : Int) (r : Int) (q : Int) (1 + a4 % 9) ∧ gCoA 2 Y (p : Int) (r : Int) (q : Int) (1 + a4 % 9) ≤ 100000 := by
            show 0 ≤ (zb Y p (20 + (8 * r + q)) + (1 + a4 % 9)) % 10 ∧ (zb Y p (20 + (8 * r + q)) + (1 + a4 % 9)) % 10 ≤ 100000
            omega
          have hgo := pGo_ok hY1 hle hnb ba (by decide) hcs
          refine x_callH5 K hf mtL_slip msL_slip (g_mem 630 (by decide +kernel)) ⟨by omega, by omega, by omega⟩ rfl (Nat.le_of_ble_eq_true rfl) dL_drawn_395 ?_
          refine x_iconst K dL_drawn_398 ?_
          refine x_icmp_ge (tgt := 407) K (by have := hgo.2.2; omega) dL_drawn_399 (by decide) (fun h399 => ?_) (fun h399 => ?_)
          · refine x_iconst K dL_drawn_407 ?_
            refine x_istore_11 K dL_drawn_408 rfl ?_
            refine x_goto (tgt := 489) K dL_drawn_410 (by decide) ?_
            exact gWX.le (by omega) (by omega) (gWX.to rfl rfl (kJ _ _ ⟨hgo.1, Or.inl (by omega), by omega, by omega⟩))
          · refine x_bipush K dL_drawn_402 rfl ?_
            refine x_goto (tgt := 408) K dL_drawn_404 (by decide) ?_
            refine x_istore_11 K dL_drawn_408 rfl ?_
            refine x_goto (tgt := 489) K dL_drawn_410 (by decide) ?_
            exact gWX.le (by omega) (by omega) (gWX.to rfl rfl (kJ _ _ ⟨hgo.1, Or.inr ⟨by omega, by rcases hgo.2.1 with y | y; (exfalso; omega); exact y.2⟩, by omega, by omega⟩))
        · 
          refine x_tblIn (tgt := 413) K 8 (by omega) (by omega) (by omega) rfl dL_drawn_251 (by decide) ?_
          refine x_aload_1 K dL_drawn_413 ?_
          refine x_iload_8 K dL_drawn_414 ?_
          refine x_iload_9 K dL_drawn_416 ?_
          refine x_iload_10 K dL_drawn_418 ?_
          obtain ⟨v, σ1, hf, hHi, hcs⟩ := q_smudge (E := E) hI (p : Int) (r : Int) (q : Int) (by omega) (by omega) (by omega)
          have hle := gCoY_le (d := 3) (Y := Y) (s := (p : Int)) (r := (r : Int)) (c := (q : Int)) (k := 0)
          have hnb : gOb 3 Y (p : Int) (r : Int) (q : Int) 0 ≠ 1 ∧ gOb 3 Y (p : Int) (r : Int) (q : Int) 0 ≠ 2 := by
            unfold gOb
            rw [if_neg (by omega), if_neg (fun y => y ⟨by omega, hpk⟩), if_neg (fun y => y.2 ⟨⟨by omega, hrk⟩, by omega, hqk⟩), if_neg (by omega), if_neg (by omega), if_pos rfl]
            unfold o_t
            split <;> omega
          have ba : 0 ≤ gCoA 3 Y (p : Int) (r : Int) (q : Int) 0 ∧ gCoA 3 Y (p : Int) (r : Int) (q : Int) 0 ≤ 100000 := by
            have := s_sm_bd (gZ_set hz hrk hqk (s := -1) (by omega))
            show 0 ≤ s_sm (zset (zb Y p) r q (-1)) ∧ s_sm (zset (zb Y p) r q (-1)) ≤ 100000
            omega
          refine x_callH4 K hf mtL_smudge msL_smudge (g_mem 639 (by decide +kernel)) ⟨by omega, by omega, by omega⟩ rfl (Nat.le_of_ble_eq_true rfl) dL_drawn_420 ?_
          refine x_istore_11 K dL_drawn_423 rfl ?_
          refine x_goto (tgt := 489) K dL_drawn_425 (by decide) ?_
          exact gWX.le (by omega) (by omega) (gWX.to rfl rfl (kJ _ _ (pGo_ok hY1 hle hnb ba (by decide) hcs)))
        · 
          refine x_tblIn (tgt := 413) K 9 (by omega) (by omega) (by omega) rfl dL_drawn_251 (by decide) ?_
          refine x_aload_1 K dL_drawn_413 ?_
          refine x_iload_8 K dL_drawn_414 ?_
          refine x_iload_9 K dL_drawn_416 ?_
          refine x_iload_10 K dL_drawn_418 ?_
          obtain ⟨v, σ1, hf, hHi, hcs⟩ := q_smudge (E := E) hI (p : Int) (r : Int) (q : Int) (by omega) (by omega) (by omega)
          have hle := gCoY_le (d := 3) (Y := Y) (s := (p : Int)) (r := (r : Int)) (c := (q : Int)) (k := 0)
          have hnb : gOb 3 Y (p : Int) (r : Int) (q : Int) 0 ≠ 1 ∧ gOb 3 Y (p : Int) (r : Int) (q : Int) 0 ≠ 2 := by
            unfold gOb
            rw [if_neg (by omega), if_neg (fun y => y ⟨by omega, hpk⟩), if_neg (fun y => y.2 ⟨⟨by omega, hrk⟩, by omega, hqk⟩), if_neg (by omega), if_neg (by omega), if_pos rfl]
            unfold o_t
            split <;> omega
          have ba : 0 ≤ gCoA 3 Y (p : Int) (r : Int) (q : Int) 0 ∧ gCoA 3 Y (p : Int) (r : Int) (q : Int) 0 ≤ 100000 := by
            have := s_sm_bd (gZ_set hz hrk hqk (s := -1) (by omega))
            show 0 ≤ s_sm (zset (zb Y p) r q (-1)) ∧ s_sm (zset (zb Y p) r q (-1)) ≤ 100000
            omega
          refine x_callH4 K hf mtL_smudge msL_smudge (g_mem 639 (by decide +kernel)) ⟨by omega, by omega, by omega⟩ rfl (Nat.le_of_ble_eq_true rfl) dL_drawn_420 ?_
          refine x_istore_11 K dL_drawn_423 rfl ?_
          refine x_goto (tgt := 489) K dL_drawn_425 (by decide) ?_
          exact gWX.le (by omega) (by omega) (gWX.to rfl rfl (kJ _ _ (pGo_ok hY1 hle hnb ba (by decide) hcs)))
        · 
          refine x_tblIn (tgt := 413) K 10 (by omega) (by omega) (by omega) rfl dL_drawn_251 (by decide) ?_
          refine x_aload_1 K dL_drawn_413 ?_
          refine x_iload_8 K dL_drawn_414 ?_
          refine x_iload_9 K dL_drawn_416 ?_
          refine x_iload_10 K dL_drawn_418 ?_
          obtain ⟨v, σ1, hf, hHi, hcs⟩ := q_smudge (E := E) hI (p : Int) (r : Int) (q : Int) (by omega) (by omega) (by omega)
          have hle := gCoY_le (d := 3) (Y := Y) (s := (p : Int)) (r := (r : Int)) (c := (q : Int)) (k := 0)
          have hnb : gOb 3 Y (p : Int) (r : Int) (q : Int) 0 ≠ 1 ∧ gOb 3 Y (p : Int) (r : Int) (q : Int) 0 ≠ 2 := by
            unfold gOb
            rw [if_neg (by omega), if_neg (fun y => y ⟨by omega, hpk⟩), if_neg (fun y => y.2 ⟨⟨by omega, hrk⟩, by omega, hqk⟩), if_neg (by omega), if_neg (by omega), if_pos rfl]
            unfold o_t
            split <;> omega
          have ba : 0 ≤ gCoA 3 Y (p : Int) (r : Int) (q : Int) 0 ∧ gCoA 3 Y (p : Int) (r : Int) (q : Int) 0 ≤ 100000 := by
            have := s_sm_bd (gZ_set hz hrk hqk (s := -1) (by omega))
            show 0 ≤ s_sm (zset (zb Y p) r q (-1)) ∧ s_sm (zset (zb Y p) r q (-1)) ≤ 100000
            omega
          refine x_callH4 K hf mtL_smudge msL_smudge (g_mem 639 (by decide +kernel)) ⟨by omega, by omega, by omega⟩ rfl (Nat.le_of_ble_eq_true rfl) dL_drawn_420 ?_
          refine x_istore_11 K dL_drawn_423 rfl ?_
          refine x_goto (tgt := 489) K dL_drawn_425 (by decide) ?_
          exact gWX.le (by omega) (by omega) (gWX.to rfl rfl (kJ _ _ (pGo_ok hY1 hle hnb ba (by decide) hcs)))
        · 
          refine x_tblIn (tgt := 428) K 11 (by omega) (by omega) (by omega) rfl dL_drawn_251 (by decide) ?_
          refine x_aload_1 K dL_drawn_428 ?_
          refine x_iload_8 K dL_drawn_429 ?_
          obtain ⟨v, σ1, hf, hHi, hcs⟩ := q_mend (E := E) hI (p : Int) (by omega)
          have hle := gCoY_le (d := 6) (Y := Y) (s := (p : Int)) (r := 0) (c := 0) (k := 0)
          have hnb : gOb 6 Y (p : Int) 0 0 0 ≠ 1 ∧ gOb 6 Y (p : Int) 0 0 0 ≠ 2 := by
            unfold gOb
            rw [if_neg (by omega), if_neg (fun y => y ⟨by omega, hpk⟩), if_neg (by omega), if_neg (by omega), if_neg (by omega), if_neg (by omega), if_neg (by omega), if_neg (by omega), if_pos rfl]
            have := s_om_hi hz (n := (p : Int)) (by omega)
            show s_om (zb Y p) (p : Int) ≠ 1 ∧ s_om (zb Y p) (p : Int) ≠ 2
            omega
          have ba : 0 ≤ gCoA 6 Y (p : Int) 0 0 0 ∧ gCoA 6 Y (p : Int) 0 0 0 ≤ 100000 := by
            have f1 := gFst_bd (s_w (zb Y p)) (14 - 0) 0
            have f2 := gFst_bd (s_w (zb Y p)) (14 - 6) 6
            have e1 : s_fw (zb Y p) 0 = gFst (s_w (zb Y p)) 0 (14 - 0) := rfl
            have e2 : s_fw (zb Y p) 6 = gFst (s_w (zb Y p)) 6 (14 - 6) := rfl
            show 0 ≤ 10 * (((s_fw (zb Y p) 0).toNat : Nat) : Int) + (((s_fw (zb Y p) 6).toNat - 6 : Nat) : Int) ∧ 10 * (((s_fw (zb Y p) 0).toNat : Nat) : Int) + (((s_fw (zb Y p) 6).toNat - 6 : Nat) : Int) ≤ 100000
            omega
          refine x_callH2 K hf mtL_mend msL_mend (g_mem 648 (by decide +kernel)) ⟨by omega, by omega, by omega⟩ rfl (Nat.le_of_ble_eq_true rfl) dL_drawn_431 ?_
          refine x_istore_11 K dL_drawn_434 rfl ?_
          refine x_goto (tgt := 489) K dL_drawn_436 (by decide) ?_
          exact gWX.le (by omega) (by omega) (gWX.to rfl rfl (kJ _ _ (pGo_ok hY1 hle hnb ba (by decide) hcs)))
        · 
          refine x_tblIn (tgt := 428) K 12 (by omega) (by omega) (by omega) rfl dL_drawn_251 (by decide) ?_
          refine x_aload_1 K dL_drawn_428 ?_
          refine x_iload_8 K dL_drawn_429 ?_
          obtain ⟨v, σ1, hf, hHi, hcs⟩ := q_mend (E := E) hI (p : Int) (by omega)
          have hle := gCoY_le (d := 6) (Y := Y) (s := (p : Int)) (r := 0) (c := 0) (k := 0)
          have hnb : gOb 6 Y (p : Int) 0 0 0 ≠ 1 ∧ gOb 6 Y (p : Int) 0 0 0 ≠ 2 := by
            unfold gOb
            rw [if_neg (by omega), if_neg (fun y => y ⟨by omega, hpk⟩), if_neg (by omega), if_neg (by omega), if_neg (by omega), if_neg (by omega), if_neg (by omega), if_neg (by omega), if_pos rfl]
            have := s_om_hi hz (n := (p : Int)) (by omega)
            show s_om (zb Y p) (p : Int) ≠ 1 ∧ s_om (zb Y p) (p : Int) ≠ 2
            omega
          have ba : 0 ≤ gCoA 6 Y (p : Int) 0 0 0 ∧ gCoA 6 Y (p : Int) 0 0 0 ≤ 100000 := by
            have f1 := gFst_bd (s_w (zb Y p)) (14 - 0) 0
            have f2 := gFst_bd (s_w (zb Y p)) (14 - 6) 6
            have e1 : s_fw (zb Y p) 0 = gFst (s_w (zb Y p)) 0 (14 - 0) := rfl
            have e2 : s_fw (zb Y p) 6 = gFst (s_w (zb Y p)) 6 (14 - 6) := rfl
            show 0 ≤ 10 * (((s_fw (zb Y p) 0).toNat : Nat) : Int) + (((s_fw (zb Y p) 6).toNat - 6 : Nat) : Int) ∧ 10 * (((s_fw (zb Y p) 0).toNat : Nat) : Int) + (((s_fw (zb Y p) 6).toNat - 6 : Nat) : Int) ≤ 100000
            omega
          refine x_callH2 K hf mtL_mend msL_mend (g_mem 648 (by decide +kernel)) ⟨by omega, by omega, by omega⟩ rfl (Nat.le_of_ble_eq_true rfl) dL_drawn_431 ?_
          refine x_istore_11 K dL_drawn_434 rfl ?_
          refine x_goto (tgt := 489) K dL_drawn_436 (by decide) ?_
          exact gWX.le (by omega) (by omega) (gWX.to rfl rfl (kJ _ _ (pGo_ok hY1 hle hnb ba (by decide) hcs)))
        · 
          refine x_tblIn (tgt := 439) K 13 (by omega) (by omega) (by omega) rfl dL_drawn_251 (by decide) ?_
          refine x_aload_1 K dL_drawn_439 ?_
          refine x_iload_8 K dL_drawn_440 ?_
          obtain ⟨v, σ1, hf, hHi, hcs⟩ := q_fill (E := E) hI (p : Int) (by omega)
          have hle := gCoY_le (d := 7) (Y := Y) (s := (p : Int)) (r := 0) (c := 0) (k := 0)
          have hnb : gOb 7 Y (p : Int) 0 0 0 ≠ 1 ∧ gOb 7 Y (p : Int) 0 0 0 ≠ 2 := by
            unfold gOb
            rw [if_neg (by omega), if_neg (fun y => y ⟨by omega, hpk⟩), if_neg (by omega), if_neg (by omega), if_neg (by omega), if_neg (by omega), if_neg (by omega), if_neg (by omega), if_neg (by omega)]
            unfold o_fl
            show (if zb Y p 2 = 0 then 400 + (p : Int) else 0) ≠ 1 ∧ (if zb Y p 2 = 0 then 400 + (p : Int) else 0) ≠ 2
            split <;> omega
          have ba : 0 ≤ gCoA 7 Y (p : Int) 0 0 0 ∧ gCoA 7 Y (p : Int) 0 0 0 ≤ 100000 := by
            have := s_fill_bd 48 (zb Y p)
            show 0 ≤ (s_fill 48 (zb Y p)).1 ∧ (s_fill 48 (zb Y p)).1 ≤ 100000
            omega
          refine x_callH2 K hf mtL_fill msL_fill (g_mem 657 (by decide +kernel)) ⟨by omega, by omega, by omega⟩ rfl (Nat.le_of_ble_eq_true rfl) dL_drawn_442 ?_
          refine x_istore_11 K dL_drawn_445 rfl ?_
          refine x_goto (tgt := 489) K dL_drawn_447 (by decide) ?_
          exact gWX.le (by omega) (by omega) (gWX.to rfl rfl (kJ _ _ (pGo_ok hY1 hle hnb ba (by decide) hcs)))
        · 
          refine x_tblIn (tgt := 439) K 14 (by omega) (by omega) (by omega) rfl dL_drawn_251 (by decide) ?_
          refine x_aload_1 K dL_drawn_439 ?_
          refine x_iload_8 K dL_drawn_440 ?_
          obtain ⟨v, σ1, hf, hHi, hcs⟩ := q_fill (E := E) hI (p : Int) (by omega)
          have hle := gCoY_le (d := 7) (Y := Y) (s := (p : Int)) (r := 0) (c := 0) (k := 0)
          have hnb : gOb 7 Y (p : Int) 0 0 0 ≠ 1 ∧ gOb 7 Y (p : Int) 0 0 0 ≠ 2 := by
            unfold gOb
            rw [if_neg (by omega), if_neg (fun y => y ⟨by omega, hpk⟩), if_neg (by omega), if_neg (by omega), if_neg (by omega), if_neg (by omega), if_neg (by omega), if_neg (by omega), if_neg (by omega)]
            unfold o_fl
            show (if zb Y p 2 = 0 then 400 + (p : Int) else 0) ≠ 1 ∧ (if zb Y p 2 = 0 then 400 + (p : Int) else 0) ≠ 2
            split <;> omega
          have ba : 0 ≤ gCoA 7 Y (p : Int) 0 0 0 ∧ gCoA 7 Y (p : Int) 0 0 0 ≤ 100000 := by
            have := s_fill_bd 48 (zb Y p)
            show 0 ≤ (s_fill 48 (zb Y p)).1 ∧ (s_fill 48 (zb Y p)).1 ≤ 100000
            omega
          refine x_callH2 K hf mtL_fill msL_fill (g_mem 657 (by decide +kernel)) ⟨by omega, by omega, by omega⟩ rfl (Nat.le_of_ble_eq_true rfl) dL_drawn_442 ?_
          refine x_istore_11 K dL_drawn_445 rfl ?_
          refine x_goto (tgt := 489) K dL_drawn_447 (by decide) ?_
          exact gWX.le (by omega) (by omega) (gWX.to rfl rfl (kJ _ _ (pGo_ok hY1 hle hnb ba (by decide) hcs)))
        · 
          refine x_tblOut (tgt := 450) K (by omega) (by omega) dL_drawn_251 (by decide) ?_
          refine x_aload_1 K dL_drawn_450 ?_
          refine x_iconst K dL_drawn_451 ?_
          refine x_callV1 K (p_account hS hY 0 (by omega)) mtX6_account miX6_account rc0 ⟨by decide, by decide⟩ lkRL_150 ⟨by omega, by omega, by omega⟩ rfl (Nat.le_of_ble_eq_true rfl) dL_drawn_452 ?_
          refine gWX.top (b := Y 0) (pA_0 hY) ?_
          refine x_iconst K dL_drawn_455 ?_
          refine x_icmp_ge (tgt := 486) K (by omega) dL_drawn_456 (by decide) (fun h456 => ?_) (fun h456 => ?_)
          · refine x_iconst K dL_drawn_486 ?_
            refine x_istore_11 K dL_drawn_487 rfl ?_
            exact gWX.le (by omega) (by omega) (gWX.to rfl rfl (kJ _ _ ⟨⟨_, _, _, hI, hY1⟩, Or.inl (by omega), by omega, by omega⟩))
          · refine x_aload_1 K dL_drawn_459 ?_
            refine x_iconst K dL_drawn_460 ?_
            refine x_iload_7 K dL_drawn_461 ?_
            refine x_bipush K dL_drawn_463 rfl ?_
            refine x_iushr K (by omega) dL_drawn_465 (fun a4 ha40 ha41 => ?_)
            refine x_bipush K dL_drawn_466 rfl ?_
            refine x_irem K (by omega) dL_drawn_468 ?_
            refine x_iadd K dL_drawn_469 ?_
            refine x_iconst K dL_drawn_470 ?_
            refine x_iload_7 K dL_drawn_471 ?_
            refine x_bipush K dL_drawn_473 rfl ?_
            refine x_iushr K (by omega) dL_drawn_475 (fun a5 ha50 ha51 => ?_)
            refine x_bipush K dL_drawn_476 rfl ?_
            refine x_irem K (by omega) dL_drawn_478 ?_
            refine x_iadd K dL_drawn_479 ?_
            obtain ⟨v, σ1, hf, hHi, hcs⟩ := q_scroll (E := E) hI (1 + a4 % 6) (1 + a5 % 8) (by omega) (by omega)
            have hle := gCoY_le (d := 0) (Y := Y) (s := -1) (r := 1 + a4 % 6) (c := 1 + a5 % 8) (k := 0)
            have hnb : gOb 0 Y (-1) (1 + a4 % 6) (1 + a5 % 8) 0 ≠ 1 ∧ gOb 0 Y (-1) (1 + a4 % 6) (1 + a5 % 8) 0 ≠ 2 := by
              unfold gOb o_ad
              rw [if_pos rfl, if_pos ⟨⟨by omega, by omega⟩, by omega, by omega⟩]
              split <;> omega
            have ba : 0 ≤ gCoA 0 Y (-1) (1 + a4 % 6) (1 + a5 % 8) 0 ∧ gCoA 0 Y (-1) (1 + a4 % 6) (1 + a5 % 8) 0 ≤ 100000 := by
              show 0 ≤ Y 0 ∧ Y 0 ≤ 100000
              omega
            refine x_callH3 K hf mtL_scroll msL_scroll (g_mem 342 (by decide +kernel)) ⟨by omega, by omega, by omega⟩ rfl (Nat.le_of_ble_eq_true rfl) dL_drawn_480 ?_
            refine x_goto (tgt := 487) K dL_drawn_483 (by decide) ?_
            refine x_istore_11 K dL_drawn_487 rfl ?_
            exact gWX.le (by omega) (by omega) (gWX.to rfl rfl (kJ _ _ (pGo_ok hY1 hle hnb ba (by decide) hcs)))
      · have hgb := hgo.2.2
        have hg1 := hgo.2.1
        refine x_iload_11 K dL_drawn_489 ?_
        refine x_iconst K dL_drawn_491 ?_
        refine x_icmp_eq (tgt := 519) K (by omega) dL_drawn_492 (by decide) (fun h492 => absurd h492 (by omega)) (fun h492 => ?_)
        refine x_iload_11 K dL_drawn_495 ?_
        refine x_if_ge (tgt := 521) K (by omega) dL_drawn_497 (by decide) (fun h497 => ?_) (fun h497 => ?_)
        · refine x_iinc_6 K dL_drawn_521 rfl ?_
          refine x_goto (tgt := 184) K dL_drawn_524 (by decide) ?_
          exact gWX.fgt 7 (gWX.fgt 8 (gWX.fgt 9 (gWX.fgt 10 (gWX.fgt 11 (gWX.le (by omega) (by omega) (gWX.to rfl rfl (ih _ hgo.1)))))))
        · have hrs : 1 ≤ σ2.1 0 0 9 ∧ σ2.1 0 0 9 ≤ 7 := by
            rcases hgo.2.1 with y | y
            · exact absurd y h497
            · exact y.2
          refine x_aload_1 K dL_drawn_500 ?_
          refine x_iconst K dL_drawn_501 ?_
          refine x_callH2 K (l_refusal _ _ 0 0 (by omega) (c6_refusal (Or.inr hrs) 0 (by omega) (by omega))) mtL_refusal msL_refusal (g_mem 666 (by decide +kernel)) ⟨by omega, by omega, by omega⟩ rfl (Nat.le_of_ble_eq_true rfl) dL_drawn_502 ?_
          refine gWX.top (b := σ2.1 0 0 9) (if_pos rfl) ?_
          refine x_iconst K dL_drawn_505 ?_
          refine x_icmp_lt (tgt := 519) K (by omega) dL_drawn_506 (by decide) (fun h506 => absurd h506 (by omega)) (fun h506 => ?_)
          refine x_aload_1 K dL_drawn_509 ?_
          refine x_iconst K dL_drawn_510 ?_
          refine x_callH2 K (l_refusal _ _ 0 0 (by omega) (c6_refusal (Or.inr hrs) 0 (by omega) (by omega))) mtL_refusal msL_refusal (g_mem 666 (by decide +kernel)) ⟨by omega, by omega, by omega⟩ rfl (Nat.le_of_ble_eq_true rfl) dL_drawn_511 ?_
          refine gWX.top (b := σ2.1 0 0 9) (if_pos rfl) ?_
          refine x_bipush K dL_drawn_514 rfl ?_
          refine x_icmp_le (tgt := 521) K (by omega) dL_drawn_516 (by decide) (fun h516 => ?_) (fun h516 => absurd hrs.2 h516)
          refine x_iinc_6 K dL_drawn_521 rfl ?_
          refine x_goto (tgt := 184) K dL_drawn_524 (by decide) ?_
          exact gWX.fgt 7 (gWX.fgt 8 (gWX.fgt 9 (gWX.fgt 10 (gWX.fgt 11 (gWX.le (by omega) (by omega) (gWX.to rfl rfl (ih _ hgo.1)))))))
    · intro τ hτ
      refine x_iload_6 K dL_drawn_184 ?_
      refine x_iload_5 K dL_drawn_186 ?_
      refine x_icmp_ge (tgt := 527) K (by omega) dL_drawn_188 (by decide) (fun h188 => ?_) (fun h188 => absurd h188 (by omega))
      refine x_aload_1 K dL_drawn_527 ?_
      obtain ⟨Y, pm, P, hI, hY1⟩ := hτ
      exact x_aretR K K (gMore.rf E) hX hE rfl dL_drawn_528 (by omega) (by omega) (gEqv.rf _) ⟨rfl, _, _, _, hI, hY1⟩
theorem drawn_b {X : gM} {E : gE} {b L9 : Nat} {xs : Nat → Int32} (S : hSc E b L9 xs) (hX : gX E = []) (K0 : gK X E mL_drawn 17 1500) (hz : X.2.2.2.2.1.heap.size = gB E) (hE : gEndR X E 1500 (fun rv σ' => rv = some (rf 0 0) ∧ ∃ Y pm P, gJv σ' Y pm P ∧ 1 ≤ Y 0)) : bWX X E 0 0 0 [some (.inl (.ref b)), none, none, none, none, none, none, none, none, none, none, none] [] [] := by
  have K : bK X E mL_drawn 17 1500 (6 * 1500) 0 := ⟨K0.1, K0.2.1, K0.2.2.1, K0.2.2.2.1, K0.2.2.2.2.1, K0.2.2.2.2.2.1, K0.2.2.2.2.2.2.1, K0.2.2.2.2.2.2.2.1, hz, K0.2.2.2.2.2.2.2.2.2⟩
  have hgo := drawn_go S hX K0 hE
  refine b_new (ci := 4) (k := 0) (i := 0) K rfl (g_mem 155 (by decide +kernel)) (g_mem 156 (by decide +kernel)) (g_mem 1 (by decide +kernel)) tyX6 tyX6_ok dfvX6 dfoX6 (by rfl) (by rfl) (by omega) (by show 0 + 11 ≤ 6 * 1500; omega) dL_drawn_0 ?_
  refine b_dup K dL_drawn_3 rfl ?_
  refine b_call0 K (iX6_init) mtX6_init (g_mem 158 (by decide +kernel)) ⟨rfl, rfl⟩ lkRL_136 ⟨by decide, by omega, by show 0 + 11 + 5813 ≤ _; omega⟩ (by rfl) (by decide) rfl (Nat.le_of_ble_eq_true rfl) dL_drawn_4 ?_
  refine b_astore_1 K dL_drawn_7 rfl ?_
  intro H locs ls hP hS hl
  rw [bAll hX] at hP
  exact gWX.le (c' := 310) (s' := 5900) (by omega) (by show 0 + 11 + 5813 ≤ 5900; omega) hgo H locs ls hP hS hl
theorem c_drawn {E : gE} {b L9 : Nat} {xs : Nat → Int32} (S : hSc E b L9 xs) (hX : gX E = []) : gCtD E mL_drawn 17 1500 [.inl (.ref b)] (fun rv σ' => rv = some (rf 0 0) ∧ ∃ Y pm P, gJv σ' Y pm P ∧ 1 ≤ Y 0) := by
  refine vx_ofW (ws' := []) (cc := mL_drawn.2.1) (maxL := mL_drawn.2.2.1) (ret := mL_drawn.2.2.2) (by decide +kernel) rfl ?_
  intro p e s m args below meth c s₁ B hml hxt hv
  obtain ⟨rfl, hN, hz⟩ := hv
  have K0 : gK (p, gL E, e, gRm 17 1500, s, m, (([.inl (.ref b)] : List gV).map (gc E)).toArray, below, meth, c, vx_MQ below (gQrR E (fun rv σ' => rv = some (rf 0 0) ∧ ∃ Y pm P, gJv σ' Y pm P ∧ 1 ≤ Y 0)) gQxN (([.inl (.ref b)] : List gV).map (gc E)).toArray s 1500 (6 * 1500) (gA E)) E mL_drawn 17 1500 := ⟨B.exec, B.bytes, hml, findClass_of_methodNamed B.named, hN, B.notSynchronized, rfl, B.returns, hxt, rfl⟩
  have hw := drawn_b S hX K0 hz rfl
  have hP0 : va_P (gD E) gCl (bW E []) s.heap := fun k q h => by cases h
  have h1' : ∀ v ∈ ([.inl (.ref b)] : List gV), gC1 (some v) = true := by
    intro v hv
    rw [List.mem_singleton.mp hv]
    rfl
  have hsl := gSl (E := E) ([.inl (.ref b)] : List gV) h1'
  have hl := lv_entry (([.inl (.ref b)] : List gV).map (gc E)) (n := 12) (by rw [hsl]; show 1 ≤ 12; decide)
  rw [lg_entry_eq]
  refine hw s.heap [] _ hP0 va_S.rf ?_
  have e9 := gEntry (E := E) ([.inl (.ref b)] : List gV) 0 11 h1'
  show lv_has _ 12 _
  rw [show ([some (.inl (.ref b)), none, none, none, none, none, none, none, none, none, none, none] : List (Option gV)) = ([.inl (.ref b)] : List gV).map some ++ List.replicate 11 none from rfl, e9]
  exact hl
