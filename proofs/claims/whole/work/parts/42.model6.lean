/-! ===== ScrollChecksModel: differences, ranks, counts, accounts, means, the past ===== -/
theorem gSum_add {f g : Nat → Int} : ∀ n : Nat, gSum (fun k => f k + g k) n = gSum f n + gSum g n
  | 0 => rfl
  | n + 1 => by
    have := gSum_add (f := f) (g := g) n
    show gSum (fun k => f k + g k) n + (f n + g n) = (gSum f n + f n) + (gSum g n + g n)
    omega
theorem gSum_mul {f : Nat → Int} (c : Int) : ∀ n : Nat, gSum (fun k => c * f k) n = c * gSum f n
  | 0 => (Int.mul_zero c).symm
  | n + 1 => by
    show gSum (fun k => c * f k) n + c * f n = c * (gSum f n + f n)
    rw [gSum_mul c n, Int.mul_add]
theorem gSum_mulr {f : Nat → Int} (c : Int) : ∀ n : Nat, gSum (fun k => f k * c) n = gSum f n * c
  | 0 => (Int.zero_mul c).symm
  | n + 1 => by
    show gSum (fun k => f k * c) n + f n * c = (gSum f n + f n) * c
    rw [gSum_mulr c n, Int.add_mul]
theorem gSum_swap {F : Nat → Nat → Int} (m : Nat) : ∀ n : Nat, gSum (fun i => gSum (fun j => F i j) m) n = gSum (fun j => gSum (fun i => F i j) n) m
  | 0 => (gSum_zero m (fun k hk => rfl)).symm
  | n + 1 => by
    show gSum (fun i => gSum (fun j => F i j) m) n + gSum (fun j => F n j) m = gSum (fun j => gSum (fun i => F i j) n + F n j) m
    rw [gSum_swap m n, gSum_add]
/-- both ways of counting doubts -/
theorem s_db_dp {z : Nat → Int} (hz : gZ z) : s_db z = s_dp z := by
  have q0 := hz.1
  have q1 := hz.2.1
  unfold s_db s_dp
  have e : ∀ r, r < (z 0).toNat → gSum (fun c => gB1 (s_df z r c = true)) (z 1).toNat = s_m z r + gB1 (s_w z r = true) * s_wc z := by
    intro r hr
    rw [s_m_r z (by omega), ← s_rm_w hz (by omega), ← s_wc_w hz, ← gSum_mul, ← gSum_add]
    refine gSum_cong _ (fun c hc => ?_)
    have ef : s_df z r c = true ↔ (z (20 + (8 * r + c)) = -1 ∨ (s_w z r = true ∧ s_w z (6 + c) = true)) := by unfold s_df; simp
    try dsimp only
    rw [gB1_iff ef]
    by_cases w1 : s_w z r = true
    · have hm := ((s_w_iff z r).mp w1).2.1
      rw [s_m_r z (by omega)] at hm
      have hn : z (20 + (8 * r + c)) ≠ -1 := fun q => by
        have := gSum_nil 8 (fun k hk => (gB1_bd _).1) hm c (by omega)
        rw [gB1_t q] at this
        omega
      rw [gB1_t w1, gB1_f hn]
      by_cases w2 : s_w z (6 + c) = true
      · rw [gB1_t w2, gB1_t (Or.inr ⟨w1, w2⟩)]; rfl
      · rw [gB1_f w2, gB1_f (fun q => q.elim hn (fun y => w2 y.2))]; rfl
    · rw [gB1_f w1]
      by_cases hn : z (20 + (8 * r + c)) = -1
      · rw [gB1_t hn, gB1_t (Or.inl hn)]; omega
      · rw [gB1_f hn, gB1_f (fun q => q.elim hn (fun y => w1 y.1))]; omega
  rw [gSum_cong _ e, gSum_add, gSum_mulr, s_wr_w hz]
  rfl

theorem gSum_ones : ∀ n : Nat, gSum (fun _ => (1 : Int)) n = (n : Int)
  | 0 => rfl
  | n + 1 => by
    show gSum (fun _ => (1 : Int)) n + 1 = _
    rw [gSum_ones n]; rfl
/-- each rank is held once -/
theorem g_pig {f : Nat → Nat} {N : Nat} (hb : ∀ i, i < N → f i < N) (hi : ∀ i j, i < N → j < N → f i = f j → i = j) {p : Nat} (hp : p < N) : ∃ i, i < N ∧ f i = p := Classical.byContradiction (fun q => by
  have e1 : gSum (fun i => gSum (fun j => if j = f i then (1 : Int) else 0) N) N = (N : Int) := by
    rw [gSum_cong N (g := fun _ => 1) (fun i h => by
      try dsimp only
      rw [gSum_one (f i) 1 N, if_pos (hb i h)]), gSum_ones]
  rw [gSum_swap] at e1
  have e2 : gSum (fun j => gSum (fun i => if j = f i then (1 : Int) else 0) N) N ≤ gSum (fun j => if j = p then (0 : Int) else 1) N := by
    have key : ∀ n, n ≤ N → gSum (fun j => gSum (fun i => if j = f i then (1 : Int) else 0) N) n ≤ gSum (fun j => if j = p then (0 : Int) else 1) n := by
      intro n
      induction n with
      | zero => intro _; exact Int.le_refl _
      | succ n ih =>
        intro hn
        have h1 := ih (by omega)
        have h2 : gSum (fun i => if n = f i then (1 : Int) else 0) N ≤ if n = p then (0 : Int) else 1 := by
          by_cases hx : ∃ i, i < N ∧ f i = n
          · obtain ⟨i, hiN, hfi⟩ := hx
            rw [if_neg (fun y => q ⟨i, hiN, hfi.trans y⟩), gSum_cong N (g := fun k => if k = i then (1 : Int) else 0) (fun k hk => ?_), gSum_one i 1 N, if_pos hiN]
            · omega
            · try dsimp only
              by_cases y : k = i
              · rw [if_pos y, if_pos (by rw [y, hfi])]
              · rw [if_neg y, if_neg (fun u => y (hi k i hk hiN (u.symm.trans hfi.symm)))]
          · rw [gSum_zero N (fun k hk => if_neg (fun u => hx ⟨k, hk, u.symm⟩))]
            split <;> omega
        show gSum _ n + gSum (fun i => if n = f i then (1 : Int) else 0) N ≤ gSum _ n + (if n = p then (0 : Int) else 1)
        omega
    exact key N (Nat.le_refl N)
  have e3 : gSum (fun j => if j = p then (0 : Int) else 1) N = (N : Int) - 1 := by
    rw [gSum_upd (f := fun _ => (1 : Int)) (v := 0) N hp, gSum_ones]; omega
  omega)
theorem s_ah_bd (Y : Nat → Int) (n : Nat) : 0 ≤ s_ah Y n := (gSum_le (f := fun m => gB1 (s_key Y m < s_key Y n)) (c := 1) (fun k => gB1_bd _) _).1
theorem gSum_mono {f g : Nat → Int} : ∀ n : Nat, (∀ k, k < n → f k ≤ g k) → gSum f n ≤ gSum g n
  | 0, _ => Int.le_refl _
  | n + 1, h => by
    have h1 := gSum_mono n (fun k hk => h k (by omega))
    have h2 := h n (by omega)
    show gSum f n + f n ≤ gSum g n + g n
    omega
theorem gSum_lt {f g : Nat → Int} {i : Nat} : ∀ n : Nat, (∀ k, k < n → f k ≤ g k) → i < n → f i < g i → gSum f n < gSum g n
  | 0, _, h, _ => absurd h (Nat.not_lt_zero _)
  | n + 1, h, hi, hl => by
    show gSum f n + f n < gSum g n + g n
    by_cases q : i = n
    · subst q
      have h1 := gSum_mono i (fun k hk => h k (by omega))
      omega
    · have h1 := gSum_lt n (fun k hk => h k (by omega)) (by omega) hl
      have h2 := h n (by omega)
      omega
theorem s_ah_lt {Y : Nat → Int} (hY : gY Y) {n m : Nat} (hn : (n : Int) < Y 0) (h : s_key Y n < s_key Y m) : s_ah Y n < s_ah Y m := by
  have h0 := hY.1
  unfold s_ah
  refine gSum_lt (i := n) _ (fun k hk => ?_) (by omega) ?_
  · by_cases q : s_key Y k < s_key Y n
    · rw [gB1_t q, gB1_t (by omega)]; omega
    · rw [gB1_f q]; exact (gB1_bd _).1
  · rw [gB1_f (by omega), gB1_t h]; omega
theorem s_ah_up {Y : Nat → Int} (hY : gY Y) {n : Nat} (hn : (n : Int) < Y 0) : s_ah Y n < Y 0 := by
  have h0 := hY.1
  have h := gSum_lt (f := fun m => gB1 (s_key Y m < s_key Y n)) (g := fun _ => 1) (i := n) (Y 0).toNat (fun k hk => (gB1_bd _).2) (by omega) (by rw [gB1_f (by omega)]; omega)
  rw [gSum_ones] at h
  unfold s_ah
  omega
theorem s_key_inj {Y : Nat → Int} (hY : gY Y) {n m : Nat} (hn : (n : Int) < Y 0) (hm : (m : Int) < Y 0) (h : s_key Y n = s_key Y m) : n = m := by
  have h0 := hY.1
  have a1 := s_dp_bd (hY.2 n hn)
  have a2 := s_cl_bd (hY.2 n hn)
  have b1 := s_dp_bd (hY.2 m hm)
  have b2 := s_cl_bd (hY.2 m hm)
  unfold s_key at h
  omega
theorem s_ah_inj {Y : Nat → Int} (hY : gY Y) {n m : Nat} (hn : (n : Int) < Y 0) (hm : (m : Int) < Y 0) (h : s_ah Y n = s_ah Y m) : n = m := by
  apply s_key_inj hY hn hm
  have l1 : ¬ s_key Y n < s_key Y m := fun q => by have := s_ah_lt hY hn q; omega
  have l2 : ¬ s_key Y m < s_key Y n := fun q => by have := s_ah_lt hY hm q; omega
  omega
theorem s_rk_is {Y : Nat → Int} (hY : gY Y) {p : Int} {n : Nat} (hn : (n : Int) < Y 0) (h : s_ah Y n = p) : s_rk Y p = (n : Int) := by
  obtain ⟨x, ex, px, _, hx⟩ := gFst_le (p := fun n => decide (s_ah Y n = p)) (n := (Y 0).toNat) (a := 0) (k := n) (by omega) (by omega) (decide_eq_true h)
  have e : s_rk Y p = (x : Int) := ex
  rw [e, s_ah_inj hY (n := x) (m := n) (by omega) hn ((of_decide_eq_true px).trans h.symm)]
theorem s_rk_no {Y : Nat → Int} (hY : gY Y) {p : Int} : s_rk Y p = -1 ↔ ¬ (0 ≤ p ∧ p < Y 0) := by
  have h0 := hY.1
  constructor
  · intro h q
    obtain ⟨i, hi, e⟩ := g_pig (f := fun i => (s_ah Y i).toNat) (N := (Y 0).toNat) (fun i h => by
      have := s_ah_bd Y i
      have := s_ah_up hY (n := i) (by omega)
      try dsimp only
      omega) (fun i j h1 h2 e => s_ah_inj hY (by omega) (by omega) (by
      have := s_ah_bd Y i
      have := s_ah_bd Y j
      try dsimp only at e
      omega)) (p := p.toNat) (by omega)
    have := s_ah_bd Y i
    try dsimp only at e
    rw [s_rk_is hY (n := i) (by omega) (by omega)] at h
    omega
  · intro h
    refine Classical.byContradiction (fun q => ?_)
    obtain ⟨x, ex, px, _, hx, _⟩ := gFst_yes (p := fun n => decide (s_ah Y n = p)) (n := (Y 0).toNat) (a := 0) q
    have e := of_decide_eq_true px
    have := s_ah_bd Y x
    have := s_ah_up hY (n := x) (by omega)
    omega
theorem s_ahead {Y : Nat → Int} (hY : gY Y) {n m : Nat} (hn : (n : Int) < Y 0) (hm : (m : Int) < Y 0) : s_key Y m < s_key Y n ↔ (s_db (zb Y n) - s_db (zb Y m) > 0 ∨ (s_db (zb Y n) = s_db (zb Y m) ∧ (s_cl (zb Y m) - s_cl (zb Y n) > 0 ∨ (s_cl (zb Y m) = s_cl (zb Y n) ∧ m < n)))) := by
  have h0 := hY.1
  have a1 := s_dp_bd (hY.2 n hn)
  have a2 := s_cl_bd (hY.2 n hn)
  have b1 := s_dp_bd (hY.2 m hm)
  have b2 := s_cl_bd (hY.2 m hm)
  rw [s_db_dp (hY.2 n hn), s_db_dp (hY.2 m hm)]
  unfold s_key
  omega
theorem c7_differ_1 {E : gE} {σ : gS} (Y : Nat → Int) (h : gMs σ Y) (hY : gY Y) (s k : Int) (hs : -2147483648 ≤ s ∧ s < 2147483648) (hk : -2147483648 ≤ k ∧ k < 2147483648) (hh : ¬ gHit Y s) : gCt E mX7_differ 12 0 [rf 14 0, iv s, iv k] σ (.inl (some (iv (0)))) (gFl σ 1) := by
  refine gCt_of (L := [some (rf 14 0), some (iv s), some (iv k), none, none, none]) (by decide +kernel) rfl rfl (Nat.le_of_ble_eq_true rfl) (fun X K hE => ?_)
  have hY0 := hY.1
  have t1 : gB1 (gHit Y s) = 0 := gB1_f hh
  refine x_aload_0 K dX7_differ_0 ?_
  refine x_aload_0 K dX7_differ_1 ?_
  refine x_iload_1 K dX7_differ_2 ?_
  refine x_callV1 K (c7_isScroll Y h hY _ hs) mtX7_isScroll miX7_isScroll rc14 ⟨by decide, (by decide)⟩ lkRX7_65 ⟨by decide, by decide, by decide⟩ rfl (Nat.le_of_ble_eq_true rfl) dX7_differ_3 ?_
  refine x_if_eq (tgt := 17) K (by omega) dX7_differ_6 (by decide) (fun h6 => ?_) (fun h6 => absurd h6 (by omega))
  refine x_iconst K dX7_differ_17 ?_
  refine x_goto (tgt := 56) K dX7_differ_18 (by decide) ?_
  refine x_putI K gpRX7_39 ⟨by decide, (by decide)⟩ dX7_differ_56 ?_
  refine x_iconst K dX7_differ_59 ?_
  refine x_istore_3 K dX7_differ_60 rfl ?_
  refine x_iconst K dX7_differ_61 ?_
  refine x_istore_4 K dX7_differ_62 rfl ?_
  refine x_aload_0 K dX7_differ_64 ?_
  refine x_getI K gfRX7_39 ⟨by decide, (by decide)⟩ dX7_differ_65 ?_
  refine gWX.top (b := 1) rfl ?_
  refine x_if_ne (tgt := 137) K (by omega) dX7_differ_68 (by decide) (fun h68 => ?_) (fun h68 => absurd h68 (by omega))
  refine x_iload_3 K dX7_differ_137 ?_
  exact x_iret K hE rfl dX7_differ_138 (by decide) (by decide) rfl rfl
theorem c7_differ_1b {E : gE} {σ : gS} (Y : Nat → Int) (h : gMs σ Y) (hY : gY Y) (s k : Int) (hs : -2147483648 ≤ s ∧ s < 2147483648) (hk : -2147483648 ≤ k ∧ k < 2147483648) (hh : gHit Y s) (hh2 : ¬ gHit Y k) : gCt E mX7_differ 12 0 [rf 14 0, iv s, iv k] σ (.inl (some (iv (0)))) (gFl σ 1) := by
  refine gCt_of (L := [some (rf 14 0), some (iv s), some (iv k), none, none, none]) (by decide +kernel) rfl rfl (Nat.le_of_ble_eq_true rfl) (fun X K hE => ?_)
  have hY0 := hY.1
  have t1 : gB1 (gHit Y s) = 1 := gB1_t hh
  have t2 : gB1 (gHit Y k) = 0 := gB1_f hh2
  refine x_aload_0 K dX7_differ_0 ?_
  refine x_aload_0 K dX7_differ_1 ?_
  refine x_iload_1 K dX7_differ_2 ?_
  refine x_callV1 K (c7_isScroll Y h hY _ hs) mtX7_isScroll miX7_isScroll rc14 ⟨by decide, (by decide)⟩ lkRX7_65 ⟨by decide, by decide, by decide⟩ rfl (Nat.le_of_ble_eq_true rfl) dX7_differ_3 ?_
  refine x_if_eq (tgt := 17) K (by omega) dX7_differ_6 (by decide) (fun h6 => absurd h6 (by omega)) (fun h6 => ?_)
  refine x_aload_0 K dX7_differ_9 ?_
  refine x_iload_2 K dX7_differ_10 ?_
  refine x_callV1 K (c7_isScroll Y h hY _ hk) mtX7_isScroll miX7_isScroll rc14 ⟨by decide, (by decide)⟩ lkRX7_65 ⟨by decide, by decide, by decide⟩ rfl (Nat.le_of_ble_eq_true rfl) dX7_differ_11 ?_
  refine x_if_ne (tgt := 21) K (by omega) dX7_differ_14 (by decide) (fun h14 => absurd h14 (by omega)) (fun h14 => ?_)
  refine x_iconst K dX7_differ_17 ?_
  refine x_goto (tgt := 56) K dX7_differ_18 (by decide) ?_
  refine x_putI K gpRX7_39 ⟨by decide, (by decide)⟩ dX7_differ_56 ?_
  refine x_iconst K dX7_differ_59 ?_
  refine x_istore_3 K dX7_differ_60 rfl ?_
  refine x_iconst K dX7_differ_61 ?_
  refine x_istore_4 K dX7_differ_62 rfl ?_
  refine x_aload_0 K dX7_differ_64 ?_
  refine x_getI K gfRX7_39 ⟨by decide, (by decide)⟩ dX7_differ_65 ?_
  refine gWX.top (b := 1) rfl ?_
  refine x_if_ne (tgt := 137) K (by omega) dX7_differ_68 (by decide) (fun h68 => ?_) (fun h68 => absurd h68 (by omega))
  refine x_iload_3 K dX7_differ_137 ?_
  exact x_iret K hE rfl dX7_differ_138 (by decide) (by decide) rfl rfl
theorem c7_differ_2 {E : gE} {σ : gS} (Y : Nat → Int) (h : gMs σ Y) (hY : gY Y) (s k : Int) (hs : -2147483648 ≤ s ∧ s < 2147483648) (hk : -2147483648 ≤ k ∧ k < 2147483648) (hh : gHit Y s) (hh2 : gHit Y k) (hd : ¬ (zb Y s.toNat 0 = zb Y k.toNat 0 ∧ zb Y s.toNat 1 = zb Y k.toNat 1)) : gCt E mX7_differ 12 0 [rf 14 0, iv s, iv k] σ (.inl (some (iv (0)))) (gFl σ 2) := by
  refine gCt_of (L := [some (rf 14 0), some (iv s), some (iv k), none, none, none]) (by decide +kernel) rfl rfl (Nat.le_of_ble_eq_true rfl) (fun X K hE => ?_)
  have hY0 := hY.1
  have t1 : gB1 (gHit Y s) = 1 := gB1_t hh
  have t2 : gB1 (gHit Y k) = 1 := gB1_t hh2
  obtain ⟨n, rfl⟩ : ∃ n : Nat, s = (n : Int) := ⟨s.toNat, by omega⟩
  obtain ⟨m, rfl⟩ : ∃ m : Nat, k = (m : Int) := ⟨k.toNat, by omega⟩
  have hn : (n : Int) < Y 0 := hh.2
  have hm : (m : Int) < Y 0 := hh2.2
  have hY0 := hY.1
  have hz := hY.2 n hn
  have ⟨q0, q1, q2, q3, q4, q5, q6, q7, q8⟩ := hz
  have ⟨p0, p1, p2, p3, p4, p5, p6, p7, p8⟩ := hY.2 m hm
  have hd2 : ¬ (zb Y n 0 = zb Y m 0 ∧ zb Y n 1 = zb Y m 1) := hd
  refine x_aload_0 K dX7_differ_0 ?_
  refine x_aload_0 K dX7_differ_1 ?_
  refine x_iload_1 K dX7_differ_2 ?_
  refine x_callV1 K (c7_isScroll Y h hY _ hs) mtX7_isScroll miX7_isScroll rc14 ⟨by decide, (by decide)⟩ lkRX7_65 ⟨by decide, by decide, by decide⟩ rfl (Nat.le_of_ble_eq_true rfl) dX7_differ_3 ?_
  refine x_if_eq (tgt := 17) K (by omega) dX7_differ_6 (by decide) (fun h6 => absurd h6 (by omega)) (fun h6 => ?_)
  refine x_aload_0 K dX7_differ_9 ?_
  refine x_iload_2 K dX7_differ_10 ?_
  refine x_callV1 K (c7_isScroll Y h hY _ hk) mtX7_isScroll miX7_isScroll rc14 ⟨by decide, (by decide)⟩ lkRX7_65 ⟨by decide, by decide, by decide⟩ rfl (Nat.le_of_ble_eq_true rfl) dX7_differ_11 ?_
  refine x_if_ne (tgt := 21) K (by omega) dX7_differ_14 (by decide) (fun h14 => ?_) (fun h14 => absurd h14 (by omega))
  refine x_aload_0 K dX7_differ_21 ?_
  refine x_iload_1 K dX7_differ_22 ?_
  refine x_iconst K dX7_differ_23 ?_
  refine x_callV2 K (c7_of Y h n 0 (by omega) (by omega)) mtX7_of miX7_of rc14 ⟨by decide, (by decide)⟩ lkRX7_69 ⟨by decide, by decide, by decide⟩ rfl (Nat.le_of_ble_eq_true rfl) dX7_differ_24 ?_
  refine x_aload_0 K dX7_differ_27 ?_
  refine x_iload_2 K dX7_differ_28 ?_
  refine x_iconst K dX7_differ_29 ?_
  refine x_callV2 K (c7_of Y h m 0 (by omega) (by omega)) mtX7_of miX7_of rc14 ⟨by decide, (by decide)⟩ lkRX7_69 ⟨by decide, by decide, by decide⟩ rfl (Nat.le_of_ble_eq_true rfl) dX7_differ_30 ?_
  refine x_icmp_ne (tgt := 51) K (by omega) dX7_differ_33 (by decide) (fun h33 => ?_) (fun h33 => ?_)
  · refine x_iconst K dX7_differ_51 ?_
    refine x_goto (tgt := 56) K dX7_differ_52 (by decide) ?_
    refine x_putI K gpRX7_39 ⟨by decide, (by decide)⟩ dX7_differ_56 ?_
    refine x_iconst K dX7_differ_59 ?_
    refine x_istore_3 K dX7_differ_60 rfl ?_
    refine x_iconst K dX7_differ_61 ?_
    refine x_istore_4 K dX7_differ_62 rfl ?_
    refine x_aload_0 K dX7_differ_64 ?_
    refine x_getI K gfRX7_39 ⟨by decide, (by decide)⟩ dX7_differ_65 ?_
    refine gWX.top (b := 2) rfl ?_
    refine x_if_ne (tgt := 137) K (by omega) dX7_differ_68 (by decide) (fun h68 => ?_) (fun h68 => absurd h68 (by omega))
    refine x_iload_3 K dX7_differ_137 ?_
    exact x_iret K hE rfl dX7_differ_138 (by decide) (by decide) rfl rfl
  · refine x_aload_0 K dX7_differ_36 ?_
    refine x_iload_1 K dX7_differ_37 ?_
    refine x_iconst K dX7_differ_38 ?_
    refine x_callV2 K (c7_of Y h n 1 (by omega) (by omega)) mtX7_of miX7_of rc14 ⟨by decide, (by decide)⟩ lkRX7_69 ⟨by decide, by decide, by decide⟩ rfl (Nat.le_of_ble_eq_true rfl) dX7_differ_39 ?_
    refine x_aload_0 K dX7_differ_42 ?_
    refine x_iload_2 K dX7_differ_43 ?_
    refine x_iconst K dX7_differ_44 ?_
    refine x_callV2 K (c7_of Y h m 1 (by omega) (by omega)) mtX7_of miX7_of rc14 ⟨by decide, (by decide)⟩ lkRX7_69 ⟨by decide, by decide, by decide⟩ rfl (Nat.le_of_ble_eq_true rfl) dX7_differ_45 ?_
    refine x_icmp_eq (tgt := 55) K (by omega) dX7_differ_48 (by decide) (fun h48 => absurd ⟨Classical.byContradiction (fun q => by omega), h48⟩ hd2) (fun h48 => ?_)
    refine x_iconst K dX7_differ_51 ?_
    refine x_goto (tgt := 56) K dX7_differ_52 (by decide) ?_
    refine x_putI K gpRX7_39 ⟨by decide, (by decide)⟩ dX7_differ_56 ?_
    refine x_iconst K dX7_differ_59 ?_
    refine x_istore_3 K dX7_differ_60 rfl ?_
    refine x_iconst K dX7_differ_61 ?_
    refine x_istore_4 K dX7_differ_62 rfl ?_
    refine x_aload_0 K dX7_differ_64 ?_
    refine x_getI K gfRX7_39 ⟨by decide, (by decide)⟩ dX7_differ_65 ?_
    refine gWX.top (b := 2) rfl ?_
    refine x_if_ne (tgt := 137) K (by omega) dX7_differ_68 (by decide) (fun h68 => ?_) (fun h68 => absurd h68 (by omega))
    refine x_iload_3 K dX7_differ_137 ?_
    exact x_iret K hE rfl dX7_differ_138 (by decide) (by decide) rfl rfl
theorem c7_differ {E : gE} {σ : gS} (Y : Nat → Int) (h : gMs σ Y) (hY : gY Y) (s k : Int) (hs : -2147483648 ≤ s ∧ s < 2147483648) (hk : -2147483648 ≤ k ∧ k < 2147483648) (hh : gHit Y s) (hh2 : gHit Y k) (hd : (zb Y s.toNat 0 = zb Y k.toNat 0 ∧ zb Y s.toNat 1 = zb Y k.toNat 1)) : gCt E mX7_differ 12 0 [rf 14 0, iv s, iv k] σ (.inl (some (iv (s_di (zb Y s.toNat) (zb Y k.toNat))))) (gFl σ 0) := by
  refine gCt_of (L := [some (rf 14 0), some (iv s), some (iv k), none, none, none]) (by decide +kernel) rfl rfl (Nat.le_of_ble_eq_true rfl) (fun X K hE => ?_)
  have hY0 := hY.1
  have t1 : gB1 (gHit Y s) = 1 := gB1_t hh
  have t2 : gB1 (gHit Y k) = 1 := gB1_t hh2
  obtain ⟨n, rfl⟩ : ∃ n : Nat, s = (n : Int) := ⟨s.toNat, by omega⟩
  obtain ⟨m, rfl⟩ : ∃ m : Nat, k = (m : Int) := ⟨k.toNat, by omega⟩
  have hn : (n : Int) < Y 0 := hh.2
  have hm : (m : Int) < Y 0 := hh2.2
  have hY0 := hY.1
  have hz := hY.2 n hn
  have ⟨q0, q1, q2, q3, q4, q5, q6, q7, q8⟩ := hz
  have ⟨p0, p1, p2, p3, p4, p5, p6, p7, p8⟩ := hY.2 m hm
  have hd2 : zb Y n 0 = zb Y m 0 ∧ zb Y n 1 = zb Y m 1 := hd
  refine x_aload_0 K dX7_differ_0 ?_
  refine x_aload_0 K dX7_differ_1 ?_
  refine x_iload_1 K dX7_differ_2 ?_
  refine x_callV1 K (c7_isScroll Y h hY _ hs) mtX7_isScroll miX7_isScroll rc14 ⟨by decide, (by decide)⟩ lkRX7_65 ⟨by decide, by decide, by decide⟩ rfl (Nat.le_of_ble_eq_true rfl) dX7_differ_3 ?_
  refine x_if_eq (tgt := 17) K (by omega) dX7_differ_6 (by decide) (fun h6 => absurd h6 (by omega)) (fun h6 => ?_)
  refine x_aload_0 K dX7_differ_9 ?_
  refine x_iload_2 K dX7_differ_10 ?_
  refine x_callV1 K (c7_isScroll Y h hY _ hk) mtX7_isScroll miX7_isScroll rc14 ⟨by decide, (by decide)⟩ lkRX7_65 ⟨by decide, by decide, by decide⟩ rfl (Nat.le_of_ble_eq_true rfl) dX7_differ_11 ?_
  refine x_if_ne (tgt := 21) K (by omega) dX7_differ_14 (by decide) (fun h14 => ?_) (fun h14 => absurd h14 (by omega))
  refine x_aload_0 K dX7_differ_21 ?_
  refine x_iload_1 K dX7_differ_22 ?_
  refine x_iconst K dX7_differ_23 ?_
  refine x_callV2 K (c7_of Y h n 0 (by omega) (by omega)) mtX7_of miX7_of rc14 ⟨by decide, (by decide)⟩ lkRX7_69 ⟨by decide, by decide, by decide⟩ rfl (Nat.le_of_ble_eq_true rfl) dX7_differ_24 ?_
  refine x_aload_0 K dX7_differ_27 ?_
  refine x_iload_2 K dX7_differ_28 ?_
  refine x_iconst K dX7_differ_29 ?_
  refine x_callV2 K (c7_of Y h m 0 (by omega) (by omega)) mtX7_of miX7_of rc14 ⟨by decide, (by decide)⟩ lkRX7_69 ⟨by decide, by decide, by decide⟩ rfl (Nat.le_of_ble_eq_true rfl) dX7_differ_30 ?_
  refine x_icmp_ne (tgt := 51) K (by omega) dX7_differ_33 (by decide) (fun h33 => absurd hd2.1 (by omega)) (fun h33 => ?_)
  refine x_aload_0 K dX7_differ_36 ?_
  refine x_iload_1 K dX7_differ_37 ?_
  refine x_iconst K dX7_differ_38 ?_
  refine x_callV2 K (c7_of Y h n 1 (by omega) (by omega)) mtX7_of miX7_of rc14 ⟨by decide, (by decide)⟩ lkRX7_69 ⟨by decide, by decide, by decide⟩ rfl (Nat.le_of_ble_eq_true rfl) dX7_differ_39 ?_
  refine x_aload_0 K dX7_differ_42 ?_
  refine x_iload_2 K dX7_differ_43 ?_
  refine x_iconst K dX7_differ_44 ?_
  refine x_callV2 K (c7_of Y h m 1 (by omega) (by omega)) mtX7_of miX7_of rc14 ⟨by decide, (by decide)⟩ lkRX7_69 ⟨by decide, by decide, by decide⟩ rfl (Nat.le_of_ble_eq_true rfl) dX7_differ_45 ?_
  refine x_icmp_eq (tgt := 55) K (by omega) dX7_differ_48 (by decide) (fun h48 => ?_) (fun h48 => absurd hd2.2 (by omega))
  refine x_iconst K dX7_differ_55 ?_
  refine x_putI K gpRX7_39 ⟨by decide, (by decide)⟩ dX7_differ_56 ?_
  refine x_iconst K dX7_differ_59 ?_
  refine x_istore_3 K dX7_differ_60 rfl ?_
  refine x_iconst K dX7_differ_61 ?_
  refine x_istore_4 K dX7_differ_62 rfl ?_
  refine gLp (P := fun r : Nat => gWX X E 0 0 64 [some (rf 14 0), some (iv (n : Int)), some (iv (m : Int)), some (iv (gSum (fun r => gSum (fun c => if zb Y n (20 + (8 * r + c)) = zb Y m (20 + (8 * r + c)) then 0 else 1) (zb Y n 1).toNat) r)), some (iv (r : Int)), none] [] (gFl σ 0)) ((zb Y n 0).toNat) (fun k0 => ?_) (fun r hr ih => ?_) ?_
  · exact gWX.to rfl rfl (k0)
  · refine x_aload_0 K dX7_differ_64 ?_
    refine x_getI K gfRX7_39 ⟨by decide, (by decide)⟩ dX7_differ_65 ?_
    refine gWX.top (b := 0) rfl ?_
    refine x_if_ne (tgt := 137) K (by omega) dX7_differ_68 (by decide) (fun h68 => absurd h68 (by omega)) (fun h68 => ?_)
    refine x_iload_4 K dX7_differ_71 ?_
    refine x_aload_0 K dX7_differ_73 ?_
    refine x_iload_1 K dX7_differ_74 ?_
    refine x_iconst K dX7_differ_75 ?_
    refine x_callV2 K (c7_of Y (gMs_u h 7 0) n 0 (by omega) (by omega)) mtX7_of miX7_of rc14 ⟨by decide, (by decide)⟩ lkRX7_69 ⟨by decide, by decide, by decide⟩ rfl (Nat.le_of_ble_eq_true rfl) dX7_differ_76 ?_
    refine x_icmp_ge (tgt := 137) K (by omega) dX7_differ_79 (by decide) (fun h79 => absurd h79 (by omega)) (fun h79 => ?_)
    refine x_iconst K dX7_differ_82 ?_
    refine x_istore_5 K dX7_differ_83 rfl ?_
    refine gLp (P := fun c : Nat => gWX X E 0 0 85 [some (rf 14 0), some (iv (n : Int)), some (iv (m : Int)), some (iv (gSum (fun r => gSum (fun c => if zb Y n (20 + (8 * r + c)) = zb Y m (20 + (8 * r + c)) then 0 else 1) (zb Y n 1).toNat) r + gSum (fun c => if zb Y n (20 + (8 * r + c)) = zb Y m (20 + (8 * r + c)) then 0 else 1) c)), some (iv (r : Int)), some (iv (c : Int))] [] (gFl σ 0)) ((zb Y n 1).toNat) (fun k0 => ?_) (fun c hc ih => ?_) ?_
    · exact gWX.to (by simp only [gSum, Int.add_zero]; rfl) rfl (k0)
    · refine x_iload_5 K dX7_differ_85 ?_
      refine x_aload_0 K dX7_differ_87 ?_
      refine x_iload_1 K dX7_differ_88 ?_
      refine x_iconst K dX7_differ_89 ?_
      refine x_callV2 K (c7_of Y (gMs_u h 7 0) n 1 (by omega) (by omega)) mtX7_of miX7_of rc14 ⟨by decide, (by decide)⟩ lkRX7_69 ⟨by decide, by decide, by decide⟩ rfl (Nat.le_of_ble_eq_true rfl) dX7_differ_90 ?_
      refine x_icmp_ge (tgt := 131) K (by omega) dX7_differ_93 (by decide) (fun h93 => absurd h93 (by omega)) (fun h93 => ?_)
      refine x_iload_3 K dX7_differ_96 ?_
      refine x_aload_0 K dX7_differ_97 ?_
      refine x_iload_1 K dX7_differ_98 ?_
      refine x_iload_4 K dX7_differ_99 ?_
      refine x_iload_5 K dX7_differ_101 ?_
      refine x_callV3 K (c7_sign1 Y (gMs_u h 7 0) n (by omega) r c (by omega) (by omega)) mtX7_sign1 miX7_sign1 rc14 ⟨by decide, (by decide)⟩ lkRX7_88 ⟨by decide, by decide, by decide⟩ rfl (Nat.le_of_ble_eq_true rfl) dX7_differ_103 ?_
      refine x_aload_0 K dX7_differ_106 ?_
      refine x_iload_2 K dX7_differ_107 ?_
      refine x_iload_4 K dX7_differ_108 ?_
      refine x_iload_5 K dX7_differ_110 ?_
      refine x_callV3 K (c7_sign1 Y (gMs_u h 7 0) m (by omega) r c (by omega) (by omega)) mtX7_sign1 miX7_sign1 rc14 ⟨by decide, (by decide)⟩ lkRX7_88 ⟨by decide, by decide, by decide⟩ rfl (Nat.le_of_ble_eq_true rfl) dX7_differ_112 ?_
      have b9 : -1 ≤ zb Y n (20 + (8 * r + c)) ∧ zb Y n (20 + (8 * r + c)) ≤ 9 := q5 (8 * r + c) (by omega)
      have b8 : -1 ≤ zb Y m (20 + (8 * r + c)) ∧ zb Y m (20 + (8 * r + c)) ≤ 9 := p5 (8 * r + c) (by omega)
      refine gTernN (fun kt kf => x_icmp_ne (tgt := 122) K (by omega) dX7_differ_115 (by decide) kt kf) (fun k => x_iconst K dX7_differ_122 k) (fun k => x_iconst K dX7_differ_118 (x_goto K dX7_differ_119 (by decide) k)) ?_
      refine gWX.top (b := if zb Y n (20 + (8 * r + c)) = zb Y m (20 + (8 * r + c)) then 0 else 1) (by split <;> simp_all) ?_
      refine x_iadd K dX7_differ_123 ?_
      refine gWX.top (b := gSum (fun r => gSum (fun c => if zb Y n (20 + (8 * r + c)) = zb Y m (20 + (8 * r + c)) then 0 else 1) (zb Y n 1).toNat) r + (gSum (fun c => if zb Y n (20 + (8 * r + c)) = zb Y m (20 + (8 * r + c)) then 0 else 1) c + (if zb Y n (20 + (8 * r + c)) = zb Y m (20 + (8 * r + c)) then 0 else 1))) (Int.add_assoc _ _ _) ?_
      refine x_istore_3 K dX7_differ_124 rfl ?_
      refine x_iinc_5 K dX7_differ_125 rfl ?_
      refine x_goto (tgt := 85) K dX7_differ_128 (by decide) ?_
      exact gWX.to rfl rfl (ih)
    · refine x_iload_5 K dX7_differ_85 ?_
      refine x_aload_0 K dX7_differ_87 ?_
      refine x_iload_1 K dX7_differ_88 ?_
      refine x_iconst K dX7_differ_89 ?_
      refine x_callV2 K (c7_of Y (gMs_u h 7 0) n 1 (by omega) (by omega)) mtX7_of miX7_of rc14 ⟨by decide, (by decide)⟩ lkRX7_69 ⟨by decide, by decide, by decide⟩ rfl (Nat.le_of_ble_eq_true rfl) dX7_differ_90 ?_
      refine x_icmp_ge (tgt := 131) K (by omega) dX7_differ_93 (by decide) (fun h93 => ?_) (fun h93 => absurd h93 (by omega))
      refine x_iinc_4 K dX7_differ_131 rfl ?_
      refine x_goto (tgt := 64) K dX7_differ_134 (by decide) ?_
      exact gWX.fgt 5 (gWX.to rfl rfl ih)
  · refine x_aload_0 K dX7_differ_64 ?_
    refine x_getI K gfRX7_39 ⟨by decide, (by decide)⟩ dX7_differ_65 ?_
    refine gWX.top (b := 0) rfl ?_
    refine x_if_ne (tgt := 137) K (by omega) dX7_differ_68 (by decide) (fun h68 => absurd h68 (by omega)) (fun h68 => ?_)
    refine x_iload_4 K dX7_differ_71 ?_
    refine x_aload_0 K dX7_differ_73 ?_
    refine x_iload_1 K dX7_differ_74 ?_
    refine x_iconst K dX7_differ_75 ?_
    refine x_callV2 K (c7_of Y (gMs_u h 7 0) n 0 (by omega) (by omega)) mtX7_of miX7_of rc14 ⟨by decide, (by decide)⟩ lkRX7_69 ⟨by decide, by decide, by decide⟩ rfl (Nat.le_of_ble_eq_true rfl) dX7_differ_76 ?_
    refine x_icmp_ge (tgt := 137) K (by omega) dX7_differ_79 (by decide) (fun h79 => ?_) (fun h79 => absurd h79 (by omega))
    refine x_iload_3 K dX7_differ_137 ?_
    exact x_iret K hE rfl dX7_differ_138 (by decide) (by decide) rfl rfl
theorem c7_count_1 {E : gE} {σ : gS} (Y : Nat → Int) (h : gMs σ Y) (hY : gY Y) (s k : Int) (hs : -2147483648 ≤ s ∧ s < 2147483648) (hk : -2147483648 ≤ k ∧ k < 2147483648) (hh : ¬ gHit Y s) : gCt E mX7_count 12 0 [rf 14 0, iv s, iv k] σ (.inl (some (iv (0)))) (gFl σ 1) := by
  refine gCt_of (L := [some (rf 14 0), some (iv s), some (iv k)]) (by decide +kernel) rfl rfl (Nat.le_of_ble_eq_true rfl) (fun X K hE => ?_)
  have hY0 := hY.1
  have t1 : gB1 (gHit Y s) = 0 := gB1_f hh
  refine x_aload_0 K dX7_count_0 ?_
  refine x_aload_0 K dX7_count_1 ?_
  refine x_iload_1 K dX7_count_2 ?_
  refine x_callV1 K (c7_isScroll Y h hY _ hs) mtX7_isScroll miX7_isScroll rc14 ⟨by decide, (by decide)⟩ lkRX7_65 ⟨by decide, by decide, by decide⟩ rfl (Nat.le_of_ble_eq_true rfl) dX7_count_3 ?_
  refine x_if_ne (tgt := 13) K (by omega) dX7_count_6 (by decide) (fun h6 => absurd h6 (by omega)) (fun h6 => ?_)
  refine x_iconst K dX7_count_9 ?_
  refine x_goto (tgt := 28) K dX7_count_10 (by decide) ?_
  refine x_putI K gpRX7_39 ⟨by decide, (by decide)⟩ dX7_count_28 ?_
  refine x_aload_0 K dX7_count_31 ?_
  refine x_getI K gfRX7_39 ⟨by decide, (by decide)⟩ dX7_count_32 ?_
  refine gWX.top (b := 1) rfl ?_
  refine x_if_le (tgt := 42) K (by omega) dX7_count_35 (by decide) (fun h35 => absurd h35 (by omega)) (fun h35 => ?_)
  refine x_iconst K dX7_count_38 ?_
  refine x_goto (tgt := 48) K dX7_count_39 (by decide) ?_
  exact x_iret K hE rfl dX7_count_48 (by decide) (by decide) rfl rfl
theorem c7_count_2 {E : gE} {σ : gS} (Y : Nat → Int) (h : gMs σ Y) (hY : gY Y) (s k : Int) (hs : -2147483648 ≤ s ∧ s < 2147483648) (hk : -2147483648 ≤ k ∧ k < 2147483648) (hh : gHit Y s) (hk2 : ¬ (0 ≤ k ∧ k ≤ 9)) : gCt E mX7_count 12 0 [rf 14 0, iv s, iv k] σ (.inl (some (iv (0)))) (gFl σ 2) := by
  refine gCt_of (L := [some (rf 14 0), some (iv s), some (iv k)]) (by decide +kernel) rfl rfl (Nat.le_of_ble_eq_true rfl) (fun X K hE => ?_)
  have hY0 := hY.1
  have t1 : gB1 (gHit Y s) = 1 := gB1_t hh
  have t2 : gB1 (0 ≤ k ∧ k ≤ 9) = 0 := gB1_f hk2
  refine x_aload_0 K dX7_count_0 ?_
  refine x_aload_0 K dX7_count_1 ?_
  refine x_iload_1 K dX7_count_2 ?_
  refine x_callV1 K (c7_isScroll Y h hY _ hs) mtX7_isScroll miX7_isScroll rc14 ⟨by decide, (by decide)⟩ lkRX7_65 ⟨by decide, by decide, by decide⟩ rfl (Nat.le_of_ble_eq_true rfl) dX7_count_3 ?_
  refine x_if_ne (tgt := 13) K (by omega) dX7_count_6 (by decide) (fun h6 => ?_) (fun h6 => absurd h6 (by omega))
  refine x_iload_2 K dX7_count_13 ?_
  refine x_iconst K dX7_count_14 ?_
  refine x_bipush K dX7_count_15 rfl ?_
  refine x_callS3 K (c7_in k 0 9 (by omega)) mtX7_in msX7_in lkRX7_61 ⟨by decide, by decide, by decide⟩ rfl (Nat.le_of_ble_eq_true rfl) dX7_count_17 ?_
  refine x_if_ne (tgt := 27) K (by omega) dX7_count_20 (by decide) (fun h20 => absurd h20 (by omega)) (fun h20 => ?_)
  refine x_iconst K dX7_count_23 ?_
  refine x_goto (tgt := 28) K dX7_count_24 (by decide) ?_
  refine x_putI K gpRX7_39 ⟨by decide, (by decide)⟩ dX7_count_28 ?_
  refine x_aload_0 K dX7_count_31 ?_
  refine x_getI K gfRX7_39 ⟨by decide, (by decide)⟩ dX7_count_32 ?_
  refine gWX.top (b := 2) rfl ?_
  refine x_if_le (tgt := 42) K (by omega) dX7_count_35 (by decide) (fun h35 => absurd h35 (by omega)) (fun h35 => ?_)
  refine x_iconst K dX7_count_38 ?_
  refine x_goto (tgt := 48) K dX7_count_39 (by decide) ?_
  exact x_iret K hE rfl dX7_count_48 (by decide) (by decide) rfl rfl
theorem c7_count {E : gE} {σ : gS} (Y : Nat → Int) (h : gMs σ Y) (hY : gY Y) (s k : Int) (hs : -2147483648 ≤ s ∧ s < 2147483648) (hk : -2147483648 ≤ k ∧ k < 2147483648) (hh : gHit Y s) (hk2 : 0 ≤ k ∧ k ≤ 9) : gCt E mX7_count 12 0 [rf 14 0, iv s, iv k] σ (.inl (some (iv (s_ho (zb Y s.toNat) k)))) (gFl σ 0) := by
  refine gCt_of (L := [some (rf 14 0), some (iv s), some (iv k)]) (by decide +kernel) rfl rfl (Nat.le_of_ble_eq_true rfl) (fun X K hE => ?_)
  have t1 : gB1 (gHit Y s) = 1 := gB1_t hh
  have t2 : gB1 (0 ≤ k ∧ k ≤ 9) = 1 := gB1_t hk2
  obtain ⟨n, rfl⟩ : ∃ n : Nat, s = (n : Int) := ⟨s.toNat, by omega⟩
  have hn : (n : Int) < Y 0 := hh.2
  have hY0 := hY.1
  have hz := hY.2 n hn
  have ⟨q0, q1, q2, q3, q4, q5, q6, q7, q8⟩ := hz
  refine x_aload_0 K dX7_count_0 ?_
  refine x_aload_0 K dX7_count_1 ?_
  refine x_iload_1 K dX7_count_2 ?_
  refine x_callV1 K (c7_isScroll Y h hY _ hs) mtX7_isScroll miX7_isScroll rc14 ⟨by decide, (by decide)⟩ lkRX7_65 ⟨by decide, by decide, by decide⟩ rfl (Nat.le_of_ble_eq_true rfl) dX7_count_3 ?_
  refine x_if_ne (tgt := 13) K (by omega) dX7_count_6 (by decide) (fun h6 => ?_) (fun h6 => absurd h6 (by omega))
  refine x_iload_2 K dX7_count_13 ?_
  refine x_iconst K dX7_count_14 ?_
  refine x_bipush K dX7_count_15 rfl ?_
  refine x_callS3 K (c7_in k 0 9 (by omega)) mtX7_in msX7_in lkRX7_61 ⟨by decide, by decide, by decide⟩ rfl (Nat.le_of_ble_eq_true rfl) dX7_count_17 ?_
  refine x_if_ne (tgt := 27) K (by omega) dX7_count_20 (by decide) (fun h20 => ?_) (fun h20 => absurd h20 (by omega))
  refine x_iconst K dX7_count_27 ?_
  refine x_putI K gpRX7_39 ⟨by decide, (by decide)⟩ dX7_count_28 ?_
  refine x_aload_0 K dX7_count_31 ?_
  refine x_getI K gfRX7_39 ⟨by decide, (by decide)⟩ dX7_count_32 ?_
  refine gWX.top (b := 0) rfl ?_
  refine x_if_le (tgt := 42) K (by omega) dX7_count_35 (by decide) (fun h35 => ?_) (fun h35 => absurd h35 (by omega))
  refine x_aload_0 K dX7_count_42 ?_
  refine x_iload_1 K dX7_count_43 ?_
  refine x_iload_2 K dX7_count_44 ?_
  refine x_callV2 K (c7_countOf Y (gMs_u h 7 0) hY n hn k hk2) mtX7_countOf miX7_countOf rc14 ⟨by decide, (by decide)⟩ lkRX7_199 ⟨by decide, by decide, by decide⟩ rfl (Nat.le_of_ble_eq_true rfl) dX7_count_45 ?_
  exact x_iret K hE rfl dX7_count_48 (by decide) (by decide) rfl rfl
theorem c7_ranked_1 {E : gE} {σ : gS} (Y : Nat → Int) (h : gMs σ Y) (hY : gY Y) (p : Int) (hp : -2147483648 ≤ p ∧ p < 2147483648) (hh : ¬ (0 ≤ p ∧ p < Y 0)) : gCt E mX7_ranked 12 0 [rf 14 0, iv p] σ (.inl (some (iv (0)))) (gFl σ 1) := by
  refine gCt_of (L := [some (rf 14 0), some (iv p), none, none, none, none, none]) (by decide +kernel) rfl rfl (Nat.le_of_ble_eq_true rfl) (fun X K hE => ?_)
  have hY0 := hY.1
  have t1 : gB1 (0 ≤ p ∧ p ≤ Y 0 - 1) = 0 := gB1_f (by omega)
  refine x_aload_0 K dX7_ranked_0 ?_
  refine x_iload_1 K dX7_ranked_1 ?_
  refine x_iconst K dX7_ranked_2 ?_
  refine x_aload_0 K dX7_ranked_3 ?_
  refine x_getC K gfRX7_9 ⟨by decide, (by decide)⟩ dX7_ranked_4 ?_
  refine x_iconst K dX7_ranked_7 ?_
  refine x_iald K 0 rfl rfl ⟨by decide, by decide⟩ (by omega) dX7_ranked_8 ?_
  refine gWX.top (b := Y 0) (h 0 (by omega)) ?_
  refine x_iconst K dX7_ranked_9 ?_
  refine x_isub K dX7_ranked_10 ?_
  refine x_callS3 K (c7_in p 0 (Y 0 - 1) (by omega)) mtX7_in msX7_in lkRX7_61 ⟨by decide, by decide, by decide⟩ rfl (Nat.le_of_ble_eq_true rfl) dX7_ranked_11 ?_
  refine x_if_eq (tgt := 21) K (by omega) dX7_ranked_14 (by decide) (fun h14 => ?_) (fun h14 => absurd h14 (by omega))
  refine x_iconst K dX7_ranked_21 ?_
  refine x_putI K gpRX7_39 ⟨by decide, (by decide)⟩ dX7_ranked_22 ?_
  refine x_iconst K dX7_ranked_25 ?_
  refine x_istore_2 K dX7_ranked_26 rfl ?_
  refine x_iconst K dX7_ranked_27 ?_
  refine x_istore_3 K dX7_ranked_28 rfl ?_
  refine x_iload_3 K dX7_ranked_29 ?_
  refine x_aload_0 K dX7_ranked_30 ?_
  refine x_getC K gfRX7_9 ⟨by decide, (by decide)⟩ dX7_ranked_31 ?_
  refine x_iconst K dX7_ranked_34 ?_
  refine x_iald K 0 rfl rfl ⟨by decide, by decide⟩ (by omega) dX7_ranked_35 ?_
  refine gWX.top (b := Y 0) (by rw [gU_at, if_neg (by omega)]; exact h 0 (by omega)) ?_
  refine x_icmp_ge (tgt := 151) K (by omega) dX7_ranked_36 (by decide) (fun h36 => ?_) (fun h36 => ?_)
  · refine x_iload_2 K dX7_ranked_151 ?_
    exact x_iret K hE rfl dX7_ranked_152 (by decide) (by decide) rfl rfl
  · refine x_aload_0 K dX7_ranked_39 ?_
    refine x_getI K gfRX7_39 ⟨by decide, (by decide)⟩ dX7_ranked_40 ?_
    refine gWX.top (b := 1) rfl ?_
    refine x_if_ne (tgt := 151) K (by omega) dX7_ranked_43 (by decide) (fun h43 => ?_) (fun h43 => absurd h43 (by omega))
    refine x_iload_2 K dX7_ranked_151 ?_
    exact x_iret K hE rfl dX7_ranked_152 (by decide) (by decide) rfl rfl
theorem c7_ranked {E : gE} {σ : gS} (Y : Nat → Int) (h : gMs σ Y) (hY : gY Y) (p : Int) (hp : -2147483648 ≤ p ∧ p < 2147483648) (hh : 0 ≤ p ∧ p < Y 0) : gCt E mX7_ranked 12 0 [rf 14 0, iv p] σ (.inl (some (iv (s_rk Y p)))) (gFl σ 0) := by
  refine gCt_of (L := [some (rf 14 0), some (iv p), none, none, none, none, none]) (by decide +kernel) rfl rfl (Nat.le_of_ble_eq_true rfl) (fun X K hE => ?_)
  have hY0 := hY.1
  have t1 : gB1 (0 ≤ p ∧ p ≤ Y 0 - 1) = 1 := gB1_t (by omega)
  have hrk : 0 ≤ s_rk Y p := by
    have e1 : s_rk Y p ≠ -1 := fun q => (s_rk_no hY).mp q hh
    obtain ⟨x, ex, _⟩ := gFst_yes (p := fun n => decide (s_ah Y n = p)) (n := (Y 0).toNat) (a := 0) e1
    have e : s_rk Y p = (x : Int) := ex
    omega
  have hrk2 : s_rk Y p < Y 0 := by
    have e1 : s_rk Y p ≠ -1 := by omega
    obtain ⟨x, ex, _, _, hx, _⟩ := gFst_yes (p := fun n => decide (s_ah Y n = p)) (n := (Y 0).toNat) (a := 0) e1
    have e : s_rk Y p = (x : Int) := ex
    omega
  refine x_aload_0 K dX7_ranked_0 ?_
  refine x_iload_1 K dX7_ranked_1 ?_
  refine x_iconst K dX7_ranked_2 ?_
  refine x_aload_0 K dX7_ranked_3 ?_
  refine x_getC K gfRX7_9 ⟨by decide, (by decide)⟩ dX7_ranked_4 ?_
  refine x_iconst K dX7_ranked_7 ?_
  refine x_iald K 0 rfl rfl ⟨by decide, by decide⟩ (by omega) dX7_ranked_8 ?_
  refine gWX.top (b := Y 0) (h 0 (by omega)) ?_
  refine x_iconst K dX7_ranked_9 ?_
  refine x_isub K dX7_ranked_10 ?_
  refine x_callS3 K (c7_in p 0 (Y 0 - 1) (by omega)) mtX7_in msX7_in lkRX7_61 ⟨by decide, by decide, by decide⟩ rfl (Nat.le_of_ble_eq_true rfl) dX7_ranked_11 ?_
  refine x_if_eq (tgt := 21) K (by omega) dX7_ranked_14 (by decide) (fun h14 => absurd h14 (by omega)) (fun h14 => ?_)
  refine x_iconst K dX7_ranked_17 ?_
  refine x_goto (tgt := 22) K dX7_ranked_18 (by decide) ?_
  refine x_putI K gpRX7_39 ⟨by decide, (by decide)⟩ dX7_ranked_22 ?_
  refine x_iconst K dX7_ranked_25 ?_
  refine x_istore_2 K dX7_ranked_26 rfl ?_
  refine x_iconst K dX7_ranked_27 ?_
  refine x_istore_3 K dX7_ranked_28 rfl ?_
  refine gLp (P := fun k : Nat => gWX X E 0 0 29 [some (rf 14 0), some (iv p), some (iv ((if s_rk Y p < ((k : Nat) : Int) then s_rk Y p else 0))), some (iv ((k : Int))), none, none, none] [] (gFl σ 0)) ((Y 0).toNat) (fun k0 => ?_) (fun k hk ih => ?_) ?_
  · exact gWX.to (by rw [if_neg (by omega)]; rfl) rfl (k0)
  · have hk9 : (k : Int) < Y 0 := by omega
    have zk := hY.2 k hk9
    have d1 := s_dp_bd zk
    have d2 := s_cl_bd zk
    refine x_iload_3 K dX7_ranked_29 ?_
    refine x_aload_0 K dX7_ranked_30 ?_
    refine x_getC K gfRX7_9 ⟨by decide, (by decide)⟩ dX7_ranked_31 ?_
    refine x_iconst K dX7_ranked_34 ?_
    refine x_iald K 0 rfl rfl ⟨by decide, by decide⟩ (by omega) dX7_ranked_35 ?_
    refine gWX.top (b := Y 0) (by rw [gU_at, if_neg (by omega)]; exact h 0 (by omega)) ?_
    refine x_icmp_ge (tgt := 151) K (by omega) dX7_ranked_36 (by decide) (fun h36 => absurd h36 (by omega)) (fun h36 => ?_)
    refine x_aload_0 K dX7_ranked_39 ?_
    refine x_getI K gfRX7_39 ⟨by decide, (by decide)⟩ dX7_ranked_40 ?_
    refine gWX.top (b := 0) rfl ?_
    refine x_if_ne (tgt := 151) K (by omega) dX7_ranked_43 (by decide) (fun h43 => absurd h43 (by omega)) (fun h43 => ?_)
    refine x_iconst K dX7_ranked_46 ?_
    refine x_istore_4 K dX7_ranked_47 rfl ?_
    refine x_iconst K dX7_ranked_49 ?_
    refine x_istore_5 K dX7_ranked_50 rfl ?_
    refine gLp (P := fun j : Nat => gWX X E 0 0 52 [some (rf 14 0), some (iv p), some (iv ((if s_rk Y p < ((k : Nat) : Int) then s_rk Y p else 0))), some (iv ((k : Int))), some (iv (gSum (fun m => gB1 (s_key Y m < s_key Y k)) j)), some (iv (j : Int)), none] [] (gFl σ 0)) ((Y 0).toNat) (fun k0 => ?_) (fun j hj ih => ?_) ?_
    · exact gWX.to rfl rfl (k0)
    · have hj9 : (j : Int) < Y 0 := by omega
      have zj := hY.2 j hj9
      have c1 := s_dp_bd zj
      have c2 := s_cl_bd zj
      have ed := s_db_dp zk
      have ej := s_db_dp zj
      have ea := s_ahead hY hk9 hj9
      have bs := gSum_le (f := fun m => gB1 (s_key Y m < s_key Y k)) (c := 1) (fun k => gB1_bd _) j
      refine x_iload_5 K dX7_ranked_52 ?_
      refine x_aload_0 K dX7_ranked_54 ?_
      refine x_getC K gfRX7_9 ⟨by decide, (by decide)⟩ dX7_ranked_55 ?_
      refine x_iconst K dX7_ranked_58 ?_
      refine x_iald K 0 rfl rfl ⟨by decide, by decide⟩ (by omega) dX7_ranked_59 ?_
      refine gWX.top (b := Y 0) (by rw [gU_at, if_neg (by omega)]; exact h 0 (by omega)) ?_
      refine x_icmp_ge (tgt := 133) K (by omega) dX7_ranked_60 (by decide) (fun h60 => absurd h60 (by omega)) (fun h60 => ?_)
      refine x_aload_0 K dX7_ranked_63 ?_
      refine x_iload_3 K dX7_ranked_64 ?_
      refine x_callV1 K (c7_doubtsOf Y (gMs_u h 7 0) hY k hk9) mtX7_doubtsOf miX7_doubtsOf rc14 ⟨by decide, (by decide)⟩ lkRX7_166 ⟨by decide, by decide, by decide⟩ rfl (Nat.le_of_ble_eq_true rfl) dX7_ranked_65 ?_
      refine x_aload_0 K dX7_ranked_68 ?_
      refine x_iload_5 K dX7_ranked_69 ?_
      refine x_callV1 K (c7_doubtsOf Y (gMs_u h 7 0) hY j hj9) mtX7_doubtsOf miX7_doubtsOf rc14 ⟨by decide, (by decide)⟩ lkRX7_166 ⟨by decide, by decide, by decide⟩ rfl (Nat.le_of_ble_eq_true rfl) dX7_ranked_71 ?_
      refine x_isub K dX7_ranked_74 ?_
      refine x_istore_6 K dX7_ranked_75 rfl ?_
      refine x_iload_6 K dX7_ranked_77 ?_
      refine x_if_eq (tgt := 87) K (by omega) dX7_ranked_79 (by decide) (fun h79 => ?_) (fun h79 => ?_)
      · have e0 : s_db (zb Y k) = s_db (zb Y j) := by omega
        refine x_aload_0 K dX7_ranked_87 ?_
        refine x_iload_5 K dX7_ranked_88 ?_
        refine x_callV1 K (c7_cellsOf Y (gMs_u h 7 0) hY j hj9) mtX7_cellsOf miX7_cellsOf rc14 ⟨by decide, (by decide)⟩ lkRX7_196 ⟨by decide, by decide, by decide⟩ rfl (Nat.le_of_ble_eq_true rfl) dX7_ranked_90 ?_
        refine x_aload_0 K dX7_ranked_93 ?_
        refine x_iload_3 K dX7_ranked_94 ?_
        refine x_callV1 K (c7_cellsOf Y (gMs_u h 7 0) hY k hk9) mtX7_cellsOf miX7_cellsOf rc14 ⟨by decide, (by decide)⟩ lkRX7_196 ⟨by decide, by decide, by decide⟩ rfl (Nat.le_of_ble_eq_true rfl) dX7_ranked_95 ?_
        refine x_isub K dX7_ranked_98 ?_
        refine x_istore_6 K dX7_ranked_99 rfl ?_
        refine x_iload_4 K dX7_ranked_101 ?_
        refine x_iload_6 K dX7_ranked_103 ?_
        refine x_if_gt (tgt := 119) K (by omega) dX7_ranked_105 (by decide) (fun h105 => ?_) (fun h105 => ?_)
        · refine x_iconst K dX7_ranked_119 ?_
          refine x_goto (tgt := 124) K dX7_ranked_120 (by decide) ?_
          refine gWX.top (b := gB1 (s_key Y j < s_key Y k)) (by first | exact (gB1_t (ea.mpr (by omega))).symm | exact (gB1_f (fun q => by have := ea.mp q; omega)).symm) ?_
          refine x_iadd K dX7_ranked_124 ?_
          refine x_istore_4 K dX7_ranked_125 rfl ?_
          refine x_iinc_5 K dX7_ranked_127 rfl ?_
          refine x_goto (tgt := 52) K dX7_ranked_130 (by decide) ?_
          exact gWX.fgt 6 (gWX.to rfl rfl ih)
        · refine x_iload_6 K dX7_ranked_108 ?_
          refine x_if_ne (tgt := 123) K (by omega) dX7_ranked_110 (by decide) (fun h110 => ?_) (fun h110 => ?_)
          · refine x_iconst K dX7_ranked_123 ?_
            refine gWX.top (b := gB1 (s_key Y j < s_key Y k)) (by first | exact (gB1_t (ea.mpr (by omega))).symm | exact (gB1_f (fun q => by have := ea.mp q; omega)).symm) ?_
            refine x_iadd K dX7_ranked_124 ?_
            refine x_istore_4 K dX7_ranked_125 rfl ?_
            refine x_iinc_5 K dX7_ranked_127 rfl ?_
            refine x_goto (tgt := 52) K dX7_ranked_130 (by decide) ?_
            exact gWX.fgt 6 (gWX.to rfl rfl ih)
          · refine x_iload_5 K dX7_ranked_113 ?_
            refine x_iload_3 K dX7_ranked_115 ?_
            refine x_icmp_ge (tgt := 123) K (by omega) dX7_ranked_116 (by decide) (fun h116 => ?_) (fun h116 => ?_)
            · refine x_iconst K dX7_ranked_123 ?_
              refine gWX.top (b := gB1 (s_key Y j < s_key Y k)) (by first | exact (gB1_t (ea.mpr (by omega))).symm | exact (gB1_f (fun q => by have := ea.mp q; omega)).symm) ?_
              refine x_iadd K dX7_ranked_124 ?_
              refine x_istore_4 K dX7_ranked_125 rfl ?_
              refine x_iinc_5 K dX7_ranked_127 rfl ?_
              refine x_goto (tgt := 52) K dX7_ranked_130 (by decide) ?_
              exact gWX.fgt 6 (gWX.to rfl rfl ih)
            · refine x_iconst K dX7_ranked_119 ?_
              refine x_goto (tgt := 124) K dX7_ranked_120 (by decide) ?_
              refine gWX.top (b := gB1 (s_key Y j < s_key Y k)) (by first | exact (gB1_t (ea.mpr (by omega))).symm | exact (gB1_f (fun q => by have := ea.mp q; omega)).symm) ?_
              refine x_iadd K dX7_ranked_124 ?_
              refine x_istore_4 K dX7_ranked_125 rfl ?_
              refine x_iinc_5 K dX7_ranked_127 rfl ?_
              refine x_goto (tgt := 52) K dX7_ranked_130 (by decide) ?_
              exact gWX.fgt 6 (gWX.to rfl rfl ih)
      · have e0 : s_db (zb Y k) ≠ s_db (zb Y j) := by omega
        refine x_iload_6 K dX7_ranked_82 ?_
        refine x_goto (tgt := 99) K dX7_ranked_84 (by decide) ?_
        refine x_istore_6 K dX7_ranked_99 rfl ?_
        refine x_iload_4 K dX7_ranked_101 ?_
        refine x_iload_6 K dX7_ranked_103 ?_
        refine x_if_gt (tgt := 119) K (by omega) dX7_ranked_105 (by decide) (fun h105 => ?_) (fun h105 => ?_)
        · refine x_iconst K dX7_ranked_119 ?_
          refine x_goto (tgt := 124) K dX7_ranked_120 (by decide) ?_
          refine gWX.top (b := gB1 (s_key Y j < s_key Y k)) (by first | exact (gB1_t (ea.mpr (by omega))).symm | exact (gB1_f (fun q => by have := ea.mp q; omega)).symm) ?_
          refine x_iadd K dX7_ranked_124 ?_
          refine x_istore_4 K dX7_ranked_125 rfl ?_
          refine x_iinc_5 K dX7_ranked_127 rfl ?_
          refine x_goto (tgt := 52) K dX7_ranked_130 (by decide) ?_
          exact gWX.fgt 6 (gWX.to rfl rfl ih)
        · refine x_iload_6 K dX7_ranked_108 ?_
          refine x_if_ne (tgt := 123) K (by omega) dX7_ranked_110 (by decide) (fun h110 => ?_) (fun h110 => ?_)
          · refine x_iconst K dX7_ranked_123 ?_
            refine gWX.top (b := gB1 (s_key Y j < s_key Y k)) (by first | exact (gB1_t (ea.mpr (by omega))).symm | exact (gB1_f (fun q => by have := ea.mp q; omega)).symm) ?_
            refine x_iadd K dX7_ranked_124 ?_
            refine x_istore_4 K dX7_ranked_125 rfl ?_
            refine x_iinc_5 K dX7_ranked_127 rfl ?_
            refine x_goto (tgt := 52) K dX7_ranked_130 (by decide) ?_
            exact gWX.fgt 6 (gWX.to rfl rfl ih)
          · refine x_iload_5 K dX7_ranked_113 ?_
            refine x_iload_3 K dX7_ranked_115 ?_
            refine x_icmp_ge (tgt := 123) K (by omega) dX7_ranked_116 (by decide) (fun h116 => ?_) (fun h116 => ?_)
            · refine x_iconst K dX7_ranked_123 ?_
              refine gWX.top (b := gB1 (s_key Y j < s_key Y k)) (by first | exact (gB1_t (ea.mpr (by omega))).symm | exact (gB1_f (fun q => by have := ea.mp q; omega)).symm) ?_
              refine x_iadd K dX7_ranked_124 ?_
              refine x_istore_4 K dX7_ranked_125 rfl ?_
              refine x_iinc_5 K dX7_ranked_127 rfl ?_
              refine x_goto (tgt := 52) K dX7_ranked_130 (by decide) ?_
              exact gWX.fgt 6 (gWX.to rfl rfl ih)
            · refine x_iconst K dX7_ranked_119 ?_
              refine x_goto (tgt := 124) K dX7_ranked_120 (by decide) ?_
              refine gWX.top (b := gB1 (s_key Y j < s_key Y k)) (by first | exact (gB1_t (ea.mpr (by omega))).symm | exact (gB1_f (fun q => by have := ea.mp q; omega)).symm) ?_
              refine x_iadd K dX7_ranked_124 ?_
              refine x_istore_4 K dX7_ranked_125 rfl ?_
              refine x_iinc_5 K dX7_ranked_127 rfl ?_
              refine x_goto (tgt := 52) K dX7_ranked_130 (by decide) ?_
              exact gWX.fgt 6 (gWX.to rfl rfl ih)
    · have bs := gSum_le (f := fun m => gB1 (s_key Y m < s_key Y k)) (c := 1) (fun k => gB1_bd _) (Y 0).toNat
      have eah : gSum (fun m => gB1 (s_key Y m < s_key Y k)) (Y 0).toNat = s_ah Y k := rfl
      refine x_iload_5 K dX7_ranked_52 ?_
      refine x_aload_0 K dX7_ranked_54 ?_
      refine x_getC K gfRX7_9 ⟨by decide, (by decide)⟩ dX7_ranked_55 ?_
      refine x_iconst K dX7_ranked_58 ?_
      refine x_iald K 0 rfl rfl ⟨by decide, by decide⟩ (by omega) dX7_ranked_59 ?_
      refine gWX.top (b := Y 0) (by rw [gU_at, if_neg (by omega)]; exact h 0 (by omega)) ?_
      refine x_icmp_ge (tgt := 133) K (by omega) dX7_ranked_60 (by decide) (fun h60 => ?_) (fun h60 => absurd h60 (by omega))
      refine x_iload_4 K dX7_ranked_133 ?_
      refine x_iload_1 K dX7_ranked_135 ?_
      refine x_icmp_ne (tgt := 143) K (by omega) dX7_ranked_136 (by decide) (fun h136 => ?_) (fun h136 => ?_)
      · have hne : s_ah Y k ≠ p := by omega
        refine x_iload_2 K dX7_ranked_143 ?_
        refine gWX.top (b := (if s_rk Y p < ((k + 1 : Nat) : Int) then s_rk Y p else 0)) (by
          have e9 : s_rk Y p ≠ (k : Int) := fun q => hne (by
            obtain ⟨x, ex, px, _⟩ := gFst_yes (p := fun n => decide (s_ah Y n = p)) (n := (Y 0).toNat) (a := 0) (show s_rk Y p ≠ -1 by omega)
            have e : s_rk Y p = (x : Int) := ex
            obtain rfl : x = k := by omega
            exact of_decide_eq_true px)
          by_cases y : s_rk Y p < ((k : Nat) : Int)
          · rw [if_pos y, if_pos (by omega)]
          · rw [if_neg y, if_neg (by omega)]) ?_
        refine x_istore_2 K dX7_ranked_144 rfl ?_
        refine x_iinc_3 K dX7_ranked_145 rfl ?_
        refine x_goto (tgt := 29) K dX7_ranked_148 (by decide) ?_
        refine gWX.fgt 4 (gWX.fgt 5 (gWX.fgt 6 ?_))
        exact gWX.to rfl rfl ih
      · have heq : s_ah Y k = p := by omega
        have hrk3 := s_rk_is hY hk9 heq
        refine x_iload_3 K dX7_ranked_139 ?_
        refine x_goto (tgt := 144) K dX7_ranked_140 (by decide) ?_
        refine gWX.top (b := (if s_rk Y p < ((k + 1 : Nat) : Int) then s_rk Y p else 0)) (by rw [if_pos (by omega)]; omega) ?_
        refine x_istore_2 K dX7_ranked_144 rfl ?_
        refine x_iinc_3 K dX7_ranked_145 rfl ?_
        refine x_goto (tgt := 29) K dX7_ranked_148 (by decide) ?_
        refine gWX.fgt 4 (gWX.fgt 5 (gWX.fgt 6 ?_))
        exact gWX.to rfl rfl ih
  · refine x_iload_3 K dX7_ranked_29 ?_
    refine x_aload_0 K dX7_ranked_30 ?_
    refine x_getC K gfRX7_9 ⟨by decide, (by decide)⟩ dX7_ranked_31 ?_
    refine x_iconst K dX7_ranked_34 ?_
    refine x_iald K 0 rfl rfl ⟨by decide, by decide⟩ (by omega) dX7_ranked_35 ?_
    refine gWX.top (b := Y 0) (by rw [gU_at, if_neg (by omega)]; exact h 0 (by omega)) ?_
    refine x_icmp_ge (tgt := 151) K (by omega) dX7_ranked_36 (by decide) (fun h36 => ?_) (fun h36 => absurd h36 (by omega))
    refine x_iload_2 K dX7_ranked_151 ?_
    exact x_iret K hE rfl dX7_ranked_152 (by decide) (by decide) (if_pos (by omega)) rfl
