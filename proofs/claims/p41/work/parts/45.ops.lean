/-! ===== what changes keep; what filling in gives; the changes as the law calls them ===== -/
theorem s_fill_lo : ∀ (n : Nat) (z : Nat → Int) {j : Nat}, j < 20 → (s_fill n z).2 j = z j
  | 0, _, _, _ => rfl
  | n + 1, z, j, hj => by
    unfold s_fill
    by_cases q : s_bf z = -1
    · rw [if_pos q]
    · rw [if_neg q]
      show (s_fill n (zF1 z)).2 j = z j
      rw [s_fill_lo n (zF1 z) hj]
      exact zFp_lo hj
theorem zFp_keep {z : Nat → Int} {b m j : Nat} (h : z j ≠ -1) : zFp z b m j = z j := if_neg (fun q => h q.2.2.1)
theorem s_fill_keep : ∀ (n : Nat) (z : Nat → Int) {j : Nat}, z j ≠ -1 → (s_fill n z).2 j = z j
  | 0, _, _, _ => rfl
  | n + 1, z, j, hj => by
    unfold s_fill
    by_cases q : s_bf z = -1
    · rw [if_pos q]
    · rw [if_neg q]
      show (s_fill n (zF1 z)).2 j = z j
      have e : zF1 z j = z j := zFp_keep hj
      rw [s_fill_keep n (zF1 z) (by rw [e]; exact hj), e]
theorem zFill_keep {z : Nat → Int} {j : Nat} (h20 : 20 ≤ j) (h : z j ≠ -1) : zFill z j = z j := by
  unfold zFill
  rw [if_neg (by omega)]
  exact s_fill_keep 48 z h
theorem zFill_hi {z : Nat → Int} {j : Nat} (h20 : 20 ≤ j) : zFill z j = (s_fill 48 z).2 j := if_neg (by omega)
/-- the smudged cells, counted -/
def s_nm (z : Nat → Int) : Int := gSum (fun j => gB1 (z (20 + j) = -1)) 48
theorem s_nm_in {z : Nat → Int} {b : Nat} (hb : b < 14) : gSum (fun j => gB1 (z (20 + j) = -1 ∧ s_in (j / 8) (j % 8) b)) 48 = s_m z b := by
  have e : gSum (fun j => gB1 (z (20 + j) = -1 ∧ s_in (j / 8) (j % 8) b)) 48 = gSum (fun r => gSum (fun c => gB1 (z (20 + (8 * r + c)) = -1 ∧ s_in r c b)) 8) 6 := by
    rw [← gSum_lin (fun r c => gB1 (z (20 + (8 * r + c)) = -1 ∧ s_in r c b)) (by omega : 0 < 8) 6]
    exact gSum_cong 48 (fun j _ => by rw [Nat.div_add_mod j 8])
  rw [e]
  by_cases q : b < 6
  · have e2 : ∀ r, r < 6 → gSum (fun c => gB1 (z (20 + (8 * r + c)) = -1 ∧ s_in r c b)) 8 = if r = b then s_rm z b else 0 := by
      intro r hr
      by_cases p : r = b
      · rw [if_pos p]
        unfold s_rm
        exact gSum_cong 8 (fun c hc => gB1_iff ⟨fun h => p ▸ h.1, fun h => ⟨p ▸ h, Or.inl p⟩⟩)
      · rw [if_neg p]
        exact gSum_zero 8 (fun c hc => gB1_f (fun h => by rcases h.2 with h2 | h2 <;> omega))
    rw [gSum_cong 6 e2, gSum_one, if_pos q]
    unfold s_m
    rw [if_pos q]
  · have e2 : ∀ r, r < 6 → gSum (fun c => gB1 (z (20 + (8 * r + c)) = -1 ∧ s_in r c b)) 8 = gB1 (z (20 + (8 * r + (b - 6))) = -1) := by
      intro r hr
      have e3 : ∀ c, c < 8 → gB1 (z (20 + (8 * r + c)) = -1 ∧ s_in r c b) = if c = b - 6 then gB1 (z (20 + (8 * r + (b - 6))) = -1) else 0 := by
        intro c hc
        by_cases p : c = b - 6
        · rw [if_pos p]
          exact gB1_iff ⟨fun h => p ▸ h.1, fun h => ⟨p ▸ h, Or.inr (by omega)⟩⟩
        · rw [if_neg p]
          exact gB1_f (fun h => by rcases h.2 with h2 | h2 <;> omega)
      rw [gSum_cong 8 e3, gSum_one, if_pos (by omega)]
    rw [gSum_cong 6 e2]
    unfold s_m s_cm
    rw [if_neg q]
theorem s_nm_F1 {z : Nat → Int} (hz : gZ z) (h : s_bf z ≠ -1) : s_nm (zF1 z) + 1 = s_nm z := by
  obtain ⟨b, e, hp, -, hb, -⟩ := gFst_yes (p := fun b => decide (s_m z b = 1)) (n := 14) (a := 0) h
  have hm : s_m z b = 1 := of_decide_eq_true hp
  have eb : (s_bf z).toNat = b := by
    have : s_bf z = (b : Int) := e
    omega
  have hf := s_f_bd hz (b := b) (by omega)
  rw [← hm, ← s_nm_in (z := z) (b := b) (by omega)]
  unfold s_nm
  rw [← gSum_add2]
  refine gSum_cong 48 (fun j hj => ?_)
  have ej : zF1 z (20 + j) = if z (20 + j) = -1 ∧ s_in (j / 8) (j % 8) b then s_f z b else z (20 + j) := by
    unfold zF1
    rw [eb, zFp_at, show 20 + j - 20 = j by omega]
    by_cases q : z (20 + j) = -1 ∧ s_in (j / 8) (j % 8) b
    · rw [if_pos q, if_pos ⟨by omega, by omega, q⟩]
    · rw [if_neg q, if_neg (fun y => q y.2.2)]
  (try dsimp only)
  rw [ej]
  by_cases q : z (20 + j) = -1 ∧ s_in (j / 8) (j % 8) b
  · rw [if_pos q, gB1_t q, gB1_t q.1, gB1_f (by omega)]
    rfl
  · rw [if_neg q, gB1_f q, Int.add_zero]
theorem s_fill_nm : ∀ (n : Nat) {z : Nat → Int}, gZ z → (s_fill n z).1 + s_nm (s_fill n z).2 = s_nm z
  | 0, _, _ => Int.zero_add _
  | n + 1, z, hz => by
    unfold s_fill
    by_cases q : s_bf z = -1
    · rw [if_pos q]
      exact Int.zero_add _
    · rw [if_neg q]
      show (s_fill n (zF1 z)).1 + 1 + s_nm (s_fill n (zF1 z)).2 = s_nm z
      have h1 := s_fill_nm n (zF1_Z hz q)
      have h2 := s_nm_F1 hz q
      omega
/-- how many are filled in -/
theorem s_fill_many {z : Nat → Int} (hz : gZ z) : gSum (fun r => gSum (fun c => gB1 (z (20 + (8 * r + c)) = -1 ∧ zFill z (20 + (8 * r + c)) ≠ -1)) (z 1).toNat) (z 0).toNat = (s_fill 48 z).1 := by
  have h0 := hz.1
  have h1 := hz.2.1
  have h9 := s_fill_nm 48 hz
  have e1 : s_nm z = gSum (fun j => gB1 (z (20 + j) = -1 ∧ zFill z (20 + j) ≠ -1)) 48 + s_nm (s_fill 48 z).2 := by
    unfold s_nm
    rw [← gSum_add2]
    refine gSum_cong 48 (fun j _ => ?_)
    (try dsimp only)
    rw [← zFill_hi (z := z) (j := 20 + j) (by omega)]
    by_cases q : z (20 + j) = -1
    · by_cases p : zFill z (20 + j) = -1
      · rw [gB1_t q, gB1_t p, gB1_f (fun y => y.2 p)]; rfl
      · rw [gB1_t q, gB1_f p, gB1_t ⟨q, p⟩]; rfl
    · rw [gB1_f q, gB1_f (fun y => q y.1), gB1_f (by rw [zFill_keep (by omega) q]; exact q)]; rfl
  have e2 : gSum (fun j => gB1 (z (20 + j) = -1 ∧ zFill z (20 + j) ≠ -1)) 48 = gSum (fun r => gSum (fun c => gB1 (z (20 + (8 * r + c)) = -1 ∧ zFill z (20 + (8 * r + c)) ≠ -1)) 8) 6 := by
    rw [← gSum_lin (fun r c => gB1 (z (20 + (8 * r + c)) = -1 ∧ zFill z (20 + (8 * r + c)) ≠ -1)) (by omega : 0 < 8) 6]
    exact gSum_cong 48 (fun j _ => by rw [Nat.div_add_mod j 8])
  have off : ∀ r : Nat, r < 6 → ∀ c : Nat, c < 8 → (z 0 ≤ r ∨ z 1 ≤ c) → gB1 (z (20 + (8 * r + c)) = -1 ∧ zFill z (20 + (8 * r + c)) ≠ -1) = 0 := fun r hr c hc hq => gB1_f (fun y => by
    have := hz.2.2.2.2.2.2.1 r hr c hc hq
    omega)
  have e3 : gSum (fun r => gSum (fun c => gB1 (z (20 + (8 * r + c)) = -1 ∧ zFill z (20 + (8 * r + c)) ≠ -1)) 8) 6 = gSum (fun r => gSum (fun c => gB1 (z (20 + (8 * r + c)) = -1 ∧ zFill z (20 + (8 * r + c)) ≠ -1)) (z 1).toNat) (z 0).toNat := by
    rw [show 6 = (z 0).toNat + (6 - (z 0).toNat) by omega, gSum_more _ (fun r h2 h3 => gSum_zero 8 (fun c hc => off r (by omega) c hc (Or.inl (by omega))))]
    refine gSum_cong _ (fun r hr => ?_)
    (try dsimp only)
    have h9 := gSum_more (f := fun c => gB1 (z (20 + (8 * r + c)) = -1 ∧ zFill z (20 + (8 * r + c)) ≠ -1)) (n := (z 1).toNat) (8 - (z 1).toNat) (fun c h2 h3 => off r (by omega) c (by omega) (Or.inr (by omega)))
    rw [show (z 1).toNat + (8 - (z 1).toNat) = 8 by omega] at h9
    exact h9
  omega
/-- changes keep that what was mended and filled in adds up -/
theorem gSum_zb {Y : Nat → Int} {n : Nat} {z : Nat → Int} {j N : Nat} (hj : j < 68) (hn : n < N) : gSum (fun m => zb (ySet Y n z) m j) N = gSum (fun m => zb Y m j) N + (z j - zb Y n j) := by
  rw [← gSum_upd (f := fun m => zb Y m j) (c := n) (v := z j) N hn]
  refine gSum_cong N (fun m _ => ?_)
  by_cases q : m = n
  · subst q
    rw [if_pos rfl, zb_set Y m z hj]
  · rw [if_neg q, zb_set2 Y z q hj]
theorem gGd_set {Y : Nat → Int} (hY : gY Y) (hg : gGd Y) {n : Nat} (hn : (n : Int) < Y 0) {z : Nat → Int} (a b : Int) (h3 : z 3 = zb Y n 3) (h4 : z 4 = zb Y n 4 + a) (h5 : z 5 = zb Y n 5 + b) {X : Nat → Int} (e0 : X 0 = Y 0) (e3 : X 3 = Y 3 + a) (e4 : X 4 = Y 4 + b) (eb : ∀ m, zb X m = zb Y m) : gGd (ySet X n z) := by
  have h0 := hY.1
  have f0 : ySet X n z 0 = Y 0 := (ySet_lo X n z (by omega)).trans e0
  obtain ⟨⟨g1, g2⟩, g3⟩ := hg
  refine ⟨⟨?_, ?_⟩, fun m hm => ?_⟩
  · unfold s_me at g1 ⊢
    rw [f0, gSum_zb (by omega) (by omega), ySet_lo X n z (by omega), e3, h4, ← g1, eb]
    have e : gSum (fun m => zb X m 4) (Y 0).toNat = gSum (fun m => zb Y m 4) (Y 0).toNat := gSum_cong _ (fun m _ => by rw [eb])
    rw [e]
    omega
  · unfold s_fi at g2 ⊢
    rw [f0, gSum_zb (by omega) (by omega), ySet_lo X n z (by omega), e4, h5, ← g2, eb]
    have e : gSum (fun m => zb X m 5) (Y 0).toNat = gSum (fun m => zb Y m 5) (Y 0).toNat := gSum_cong _ (fun m _ => by rw [eb])
    rw [e]
    omega
  · rw [f0] at hm
    by_cases q : m = n
    · subst q
      rw [zb_set X m z (by omega), h3]
      exact g3 m hm
    · rw [zb_set2 X z q (by omega), eb]
      exact g3 m hm
theorem gGd_new {Y : Nat → Int} (hY : gY Y) (hg : gGd Y) (h5 : Y 0 < 5) {z : Nat → Int} (z3 : z 3 < Y 0) (z4 : z 4 = 0) (z5 : z 5 = 0) : gGd (ySet (yF Y 0 (Y 0 + 1)) (Y 0).toNat z) := by
  have h0 := hY.1
  have f0 : ySet (yF Y 0 (Y 0 + 1)) (Y 0).toNat z 0 = Y 0 + 1 := (ySet_lo _ _ z (by omega)).trans (if_pos rfl)
  have eN : (Y 0 + 1).toNat = (Y 0).toNat + 1 := by omega
  have e0 : ∀ m, zb (yF Y 0 (Y 0 + 1)) m = zb Y m := fun m => zb_F Y _ (by omega) m
  obtain ⟨⟨g1, g2⟩, g3⟩ := hg
  refine ⟨⟨?_, ?_⟩, fun m hm => ?_⟩
  · unfold s_me at g1 ⊢
    rw [f0, eN]
    show gSum _ (Y 0).toNat + zb _ (Y 0).toNat 4 = _
    rw [zb_set _ _ z (by omega), z4, ySet_lo _ _ z (by omega), yF_at, if_neg (by omega), ← g1, Int.add_zero]
    exact gSum_cong _ (fun m hm => by rw [zb_set2 _ z (by omega) (by omega), e0])
  · unfold s_fi at g2 ⊢
    rw [f0, eN]
    show gSum _ (Y 0).toNat + zb _ (Y 0).toNat 5 = _
    rw [zb_set _ _ z (by omega), z5, ySet_lo _ _ z (by omega), yF_at, if_neg (by omega), ← g2, Int.add_zero]
    exact gSum_cong _ (fun m hm => by rw [zb_set2 _ z (by omega) (by omega), e0])
  · rw [f0] at hm
    by_cases q : m = (Y 0).toNat
    · subst q
      rw [zb_set _ _ z (by omega)]
      omega
    · rw [zb_set2 _ z q (by omega), e0]
      exact g3 m (by omega)
theorem gGd_co {d : Nat} {Y : Nat → Int} {s r c k : Int} (hob : gOb d Y s r c k = 0) (hY : gY Y) (hd : d < 8) (hg : gGd Y) : gGd (gCoY d Y s r c k) := by
  have h0 := hY.1
  unfold gOb at hob
  unfold gCoY
  by_cases q0 : d = 0
  · rw [if_pos q0] at hob ⊢
    have h5 : Y 0 < 5 := by
      unfold o_ad at hob
      split at hob
      · split at hob <;> omega
      · omega
    exact gGd_new hY hg h5 (by show zNew r c 3 < _; unfold zNew; simp; omega) rfl rfl
  rw [if_neg q0] at hob ⊢
  have hh : gHit Y s := Classical.byContradiction (fun q => by rw [if_pos q] at hob; omega)
  rw [if_neg (fun q => q hh)] at hob
  have hn : ((s.toNat : Nat) : Int) < Y 0 := by have := hh.1; have := hh.2; omega
  have E0 : ∀ m, zb Y m = zb Y m := fun _ => rfl
  by_cases q1 : d = 1
  · rw [if_pos q1]
    exact gGd_set hY hg hn 0 0 (zset_lo _ _ _ _ (by omega)) (by rw [zset_lo _ _ _ _ (by omega)]; omega) (by rw [zset_lo _ _ _ _ (by omega)]; omega) rfl (by omega) (by omega) E0
  rw [if_neg q1]
  by_cases q2 : d = 2
  · rw [if_pos q2]
    exact gGd_set hY hg hn 0 0 (zset_lo _ _ _ _ (by omega)) (by rw [zset_lo _ _ _ _ (by omega)]; omega) (by rw [zset_lo _ _ _ _ (by omega)]; omega) (by rw [yF_at, if_neg (by omega)]) (by rw [yF_at, if_neg (by omega)]; omega) (by rw [yF_at, if_neg (by omega)]; omega) (fun m => zb_F Y _ (by omega) m)
  rw [if_neg q2]
  by_cases q3 : d = 3
  · rw [if_pos q3]
    exact gGd_set hY hg hn 0 0 (zset_lo _ _ _ _ (by omega)) (by rw [zset_lo _ _ _ _ (by omega)]; omega) (by rw [zset_lo _ _ _ _ (by omega)]; omega) (by rw [yF_at, if_neg (by omega)]) (by rw [yF_at, if_neg (by omega)]; omega) (by rw [yF_at, if_neg (by omega)]; omega) (fun m => zb_F Y _ (by omega) m)
  rw [if_neg q3]
  by_cases q4 : d = 4
  · rw [if_pos q4]
    exact gGd_set (z := zTell (zb Y s.toNat)) hY hg hn 0 0 rfl (Int.add_zero _).symm (Int.add_zero _).symm rfl (by omega) (by omega) E0
  rw [if_neg q4]
  by_cases q5 : d = 5
  · rw [if_pos q5]
    have h5 : Y 0 < 5 := by
      subst q5
      rw [if_neg (by omega), if_neg (by omega), if_neg (by omega), if_neg (by omega), if_neg (by omega), if_pos rfl] at hob
      unfold o_ad at hob
      split at hob <;> omega
    exact gGd_new hY hg h5 (by show zCopy _ s 3 < _; exact hh.2) rfl rfl
  rw [if_neg q5]
  by_cases q6 : d = 6
  · rw [if_pos q6]
    exact gGd_set hY hg hn 1 0 (by unfold zMend; rw [if_neg (by omega), zset_lo _ _ _ _ (by omega)]) (by unfold zMend; rw [if_pos rfl]) (by unfold zMend; rw [if_neg (by omega), zset_lo _ _ _ _ (by omega)]; omega) (by rw [yF_at, if_neg (by omega)]) (by rw [yF_at, if_pos rfl]) (by rw [yF_at, if_neg (by omega)]; omega) (fun m => zb_F Y _ (by omega) m)
  rw [if_neg q6]
  exact gGd_set hY hg hn 0 (s_fill 48 (zb Y s.toNat)).1 (by unfold zFill; rw [if_neg (by omega), s_fill_lo _ _ (by omega)]) (by unfold zFill; rw [if_neg (by omega), s_fill_lo _ _ (by omega)]; omega) (by unfold zFill; rw [if_pos rfl]) (by rw [yF_at, if_neg (by omega)]) (by rw [yF_at, if_neg (by omega)]; omega) (by rw [yF_at, if_pos rfl]) (fun m => zb_F Y _ (by omega) m)
/-- what the law keeps -/
def gJv (σ : gS) (Y : Nat → Int) (pm : Nat) (P : Nat → Nat → Int) : Prop := ∃ sv S rs dt er T l k w, CI σ Y pm P sv S rs dt er T l k w ∧ VI Y pm P sv S rs er k w ∧ gGd Y
theorem gJv_s {σ : gS} {Y : Nat → Int} {pm : Nat} {P : Nat → Nat → Int} (h : gJv σ Y pm P) : gSh σ 0 Y ∧ gY Y ∧ gHp σ ∧ gGd Y ∧ pm ≤ 8 := by
  obtain ⟨sv, S, rs, dt, er, T, l, k, w, h1, h2, h3⟩ := h
  exact ⟨h1.1.1, h2.1, h1.1.2.1, h3, h2.2.1⟩
theorem gJv_lo {σ σ' : gS} {Y : Nat → Int} {pm : Nat} {P : Nat → Nat → Int} (he : gLow σ σ') (h : gJv σ Y pm P) : gJv σ' Y pm P := by
  obtain ⟨sv, S, rs, dt, er, T, l, k, w, h1, h2, h3⟩ := h
  exact ⟨sv, S, rs, dt, er, T, l, k, w, CI_lo h2 he h1, h2, h3⟩
theorem gJv_55 {σ : gS} {Y : Nat → Int} {pm : Nat} {P : Nat → Nat → Int} (z : Nat → Int) (h : gJv σ Y pm P) : gJv (gPut σ 55 z) Y pm P := by
  obtain ⟨sv, S, rs, dt, er, T, l, k, w, h1, h2, h3⟩ := h
  exact ⟨sv, S, rs, dt, er, T, l, k, w, CI_55 z h2 h1, h2, h3⟩
theorem gJv_ch {σ : gS} {Y Y2 : Nat → Int} {pm : Nat} {P : Nat → Nat → Int} (h2 : gY Y2) (hg : gGd Y2) (h : gJv σ Y pm P) : gJv (gShPut (gRem σ Y) 0 Y2) Y2 (gPn pm) (gPu P pm Y) := by
  obtain ⟨sv, S, rs, dt, er, T, l, k, w, h1, hv, -⟩ := h
  exact ⟨sv, S, rs, dt, er, T, l, k, w, CI_ch h2 hv h1, VI_pu Y2 h2 hv, hg⟩
theorem gJv_rf {σ : gS} {Y : Nat → Int} {pm : Nat} {P : Nat → Nat → Int} {b : Int} (hb : 100 ≤ b ∧ b < 800) (h : gJv σ Y pm P) : gJv (gRf σ b) Y pm P ∧ (1 ≤ (gRf σ b).1 0 0 9 ∧ (gRf σ b).1 0 0 9 ≤ 7) := by
  obtain ⟨sv, S, rs, dt, er, T, l, k, w, h1, h2, h3⟩ := h
  have h9 := CI_rf b h2 h1
  refine ⟨⟨sv, S, _, _, er, T, l, k, w, h9, VI_rs (by omega) h2, h3⟩, ?_⟩
  rw [h9.2.2.1.1]
  omega
theorem gJv_un {σ : gS} {Y : Nat → Int} {pm j0 : Nat} {P : Nat → Nat → Int} (hj : pm = j0 + 1) (hg : gGd (P j0)) (h : gJv σ Y pm P) : gJv (gShPut (gU σ 8 0 1 (j0 : Int)) 0 (P j0)) (P j0) j0 P := by
  obtain ⟨sv, S, rs, dt, er, T, l, k, w, h1, h2, -⟩ := h
  exact ⟨sv, S, rs, dt, er, T, l, k, w, CI_un hj h2 h1, VI_un hj h2, hg⟩
/-- what an order that is refused is told -/
theorem gOb_cs {d : Nat} {Y : Nat → Int} (hY : gY Y) (s r c k : Int) (hd : d < 8) : gOb d Y s r c k = 0 ∨ gOb d Y s r c k = 1 ∨ gOb d Y s r c k = 2 ∨ (100 ≤ gOb d Y s r c k ∧ gOb d Y s r c k < 800) := by
  have h0 := hY.1
  unfold gOb
  by_cases q0 : d = 0
  · rw [if_pos q0]
    unfold o_ad
    split
    · split <;> omega
    · omega
  rw [if_neg q0]
  by_cases hh : gHit Y s
  · rw [if_neg (fun q => q hh)]
    have hn : ((s.toNat : Nat) : Int) < Y 0 := by have := hh.1; have := hh.2; omega
    have hz := hY.2 _ hn
    have b1 := s_sm_bd hz
    have b2 := s_wr_bd (zb Y s.toNat)
    have b3 := s_wc_bd (zb Y s.toNat)
    have hs := hh.1
    have hs2 := hh.2
    have z0 := hz.1
    have z1 := hz.2.1
    split
    · omega
    rename_i hc
    split
    · split <;> omega
    split
    · split
      · unfold o_t
        split <;> omega
      · omega
    split
    · unfold o_t
      split <;> omega
    split
    · unfold o_s
      split <;> omega
    split
    · unfold o_ad
      split <;> omega
    split
    · have := s_om_hi hz hs
      have := s_om_bd hz (n := s) (by omega)
      have h8 : s_om (zb Y s.toNat) s < 800 := by
        unfold s_om
        split
        · omega
        split
        · omega
        split
        · omega
        split
        · omega
        have f1 := s_fw_row (z := zb Y s.toNat) (by omega)
        have f2 := s_fw_col (z := zb Y s.toNat) (by omega)
        have g1 := s_f_bd hz (b := s_r1 (zb Y s.toNat)) (by omega)
        have g2 := s_f_bd hz (b := 6 + s_c1 (zb Y s.toNat)) (by omega)
        split <;> omega
      omega
    · unfold o_fl
      split <;> omega
  · rw [if_pos hh]
    omega

section OPS
variable {E : gE} {σ : gS} {Y : Nat → Int} {pm : Nat} {P : Nat → Nat → Int}
theorem q_scroll (hI : gJv σ Y pm P) (r c : Int) (hr : -2147483648 ≤ r ∧ r < 2147483648) (hc : -2147483648 ≤ c ∧ c < 2147483648) : ∃ (v : Int) (σ1 : gS), hCt E mL_scroll hhL_scroll 13 1 [rf 0 0, iv r, iv c] σ (.inl (some (iv v))) σ1 ∧ gHi σ σ1 ∧ ((gOb 0 Y (-1) (r) (c) (0) = 0 ∧ v = gCoA 0 Y (-1) (r) (c) (0) ∧ gJv σ1 (gCoY 0 Y (-1) (r) (c) (0)) (gPn pm) (gPu P pm Y)) ∨ (gOb 0 Y (-1) (r) (c) (0) = 1 ∧ v = (-99) ∧ σ1 = σ) ∨ (gOb 0 Y (-1) (r) (c) (0) = 2 ∧ v = -1 ∧ σ1 = σ) ∨ (100 ≤ gOb 0 Y (-1) (r) (c) (0) ∧ v = -2 ∧ gJv σ1 Y pm P ∧ 1 ≤ σ1.1 0 0 9 ∧ σ1.1 0 0 9 ≤ 7)) := by
  obtain ⟨h, hY, hp, hg, hpm⟩ := gJv_s hI
  rcases gOb_cs (d := 0) hY (-1) (r) (c) (0) (by omega) with q | q | q | q
  · exact ⟨_, _, l_scroll _ _ _ 0 1 (by omega) (c6_scroll Y h hY r c hr hc hp q), gHi_sh _ _ (gHi_rem _ gHi_rf), Or.inl ⟨q, rfl, gJv_ch (gCoY_Y q hY (by omega)) (gGd_co q hY (by omega) hg) hI⟩⟩
  · exact absurd q (by
      unfold gOb o_ad; rw [if_pos rfl]; split
      · split <;> omega
      · omega)
  · exact ⟨_, _, l_scroll_1 _ _ 1 1 (by omega) (c6_scroll_2 Y h hY r c hr hc q), gHi_rf, Or.inr (Or.inr (Or.inl ⟨q, rfl, rfl⟩))⟩
  · obtain ⟨i1, i2⟩ := gJv_rf q hI
    exact ⟨_, _, l_scroll_2 _ _ 1 1 (by omega) (c6_scroll_3 Y h hY r c hr hc q.1), gHi_u _ _ _ _ (by omega) (gHi_u _ _ _ _ (by omega) gHi_rf), Or.inr (Or.inr (Or.inr ⟨q.1, rfl, i1, i2⟩))⟩
theorem q_write (hI : gJv σ Y pm P) (s r c k : Int) (hs : -2147483648 ≤ s ∧ s < 2147483648) (hr : -2147483648 ≤ r ∧ r < 2147483648) (hc : -2147483648 ≤ c ∧ c < 2147483648) (hk : -2147483648 ≤ k ∧ k < 2147483648) : ∃ (v : Int) (σ1 : gS), hCt E mL_write hhL_write 13 1 [rf 0 0, iv s, iv r, iv c, iv k] σ (.inl (some (iv v))) σ1 ∧ gHi σ σ1 ∧ ((gOb 1 Y (s) (r) (c) (k) = 0 ∧ v = gCoA 1 Y (s) (r) (c) (k) ∧ gJv σ1 (gCoY 1 Y (s) (r) (c) (k)) (gPn pm) (gPu P pm Y)) ∨ (gOb 1 Y (s) (r) (c) (k) = 1 ∧ v = -11 ∧ σ1 = σ) ∨ (gOb 1 Y (s) (r) (c) (k) = 2 ∧ v = -12 ∧ σ1 = σ) ∨ (100 ≤ gOb 1 Y (s) (r) (c) (k) ∧ v = (-99) ∧ gJv σ1 Y pm P ∧ 1 ≤ σ1.1 0 0 9 ∧ σ1.1 0 0 9 ≤ 7)) := by
  obtain ⟨h, hY, hp, hg, hpm⟩ := gJv_s hI
  rcases gOb_cs (d := 1) hY (s) (r) (c) (k) (by omega) with q | q | q | q
  · exact ⟨_, _, l_write _ _ _ _ _ 0 1 (by omega) (c6_write Y h hY s r c k hs hr hc hk hp q), gHi_sh _ _ (gHi_rem _ gHi_rf), Or.inl ⟨q, rfl, gJv_ch (gCoY_Y q hY (by omega)) (gGd_co q hY (by omega) hg) hI⟩⟩
  · exact ⟨_, _, l_write_1 _ _ _ _ 1 1 (by omega) (c6_write_1 Y h hY s r c k hs hr hc hk q), gHi_rf, Or.inr (Or.inl ⟨q, rfl, rfl⟩)⟩
  · exact ⟨_, _, l_write_2 _ _ _ _ 1 1 (by omega) (c6_write_2 Y h hY s r c k hs hr hc hk q), gHi_rf, Or.inr (Or.inr (Or.inl ⟨q, rfl, rfl⟩))⟩
  · exact absurd q.1 (by
      unfold gOb; rw [if_neg (by omega)]; split
      · omega
      split
      · omega
      rw [if_pos rfl]
      split <;> omega)
theorem q_slip (hI : gJv σ Y pm P) (s r c k : Int) (hs : -2147483648 ≤ s ∧ s < 2147483648) (hr : -2147483648 ≤ r ∧ r < 2147483648) (hc : -2147483648 ≤ c ∧ c < 2147483648) (hk : -2147483648 ≤ k ∧ k < 2147483648) : ∃ (v : Int) (σ1 : gS), hCt E mL_slip hhL_slip 13 1 [rf 0 0, iv s, iv r, iv c, iv k] σ (.inl (some (iv v))) σ1 ∧ gHi σ σ1 ∧ ((gOb 2 Y (s) (r) (c) (k) = 0 ∧ v = gCoA 2 Y (s) (r) (c) (k) ∧ gJv σ1 (gCoY 2 Y (s) (r) (c) (k)) (gPn pm) (gPu P pm Y)) ∨ (gOb 2 Y (s) (r) (c) (k) = 1 ∧ v = -1 ∧ σ1 = σ) ∨ (gOb 2 Y (s) (r) (c) (k) = 2 ∧ v = -2 ∧ σ1 = σ) ∨ (100 ≤ gOb 2 Y (s) (r) (c) (k) ∧ v = -3 ∧ gJv σ1 Y pm P ∧ 1 ≤ σ1.1 0 0 9 ∧ σ1.1 0 0 9 ≤ 7)) := by
  obtain ⟨h, hY, hp, hg, hpm⟩ := gJv_s hI
  rcases gOb_cs (d := 2) hY (s) (r) (c) (k) (by omega) with q | q | q | q
  · exact ⟨_, _, l_slip _ _ _ _ _ 0 1 (by omega) (c6_slip Y h hY s r c k hs hr hc hk hp q), gHi_sh _ _ (gHi_rem _ gHi_rf), Or.inl ⟨q, rfl, gJv_ch (gCoY_Y q hY (by omega)) (gGd_co q hY (by omega) hg) hI⟩⟩
  · exact ⟨_, _, l_slip_1 _ _ _ _ 1 1 (by omega) (c6_slip_1 Y h hY s r c k hs hr hc hk q), gHi_rf, Or.inr (Or.inl ⟨q, rfl, rfl⟩)⟩
  · exact ⟨_, _, l_slip_2 _ _ _ _ 1 1 (by omega) (c6_slip_2 Y h hY s r c k hs hr hc hk q), gHi_rf, Or.inr (Or.inr (Or.inl ⟨q, rfl, rfl⟩))⟩
  · obtain ⟨i1, i2⟩ := gJv_rf q hI
    exact ⟨_, _, l_slip_3 _ _ _ _ 1 1 (by omega) (c6_slip_3 Y h hY s r c k hs hr hc hk q.1), gHi_u _ _ _ _ (by omega) (gHi_u _ _ _ _ (by omega) gHi_rf), Or.inr (Or.inr (Or.inr ⟨q.1, rfl, i1, i2⟩))⟩
theorem q_smudge (hI : gJv σ Y pm P) (s r c : Int) (hs : -2147483648 ≤ s ∧ s < 2147483648) (hr : -2147483648 ≤ r ∧ r < 2147483648) (hc : -2147483648 ≤ c ∧ c < 2147483648) : ∃ (v : Int) (σ1 : gS), hCt E mL_smudge hhL_smudge 13 1 [rf 0 0, iv s, iv r, iv c] σ (.inl (some (iv v))) σ1 ∧ gHi σ σ1 ∧ ((gOb 3 Y (s) (r) (c) (0) = 0 ∧ v = gCoA 3 Y (s) (r) (c) (0) ∧ gJv σ1 (gCoY 3 Y (s) (r) (c) (0)) (gPn pm) (gPu P pm Y)) ∨ (gOb 3 Y (s) (r) (c) (0) = 1 ∧ v = -1 ∧ σ1 = σ) ∨ (gOb 3 Y (s) (r) (c) (0) = 2 ∧ v = (-99) ∧ σ1 = σ) ∨ (100 ≤ gOb 3 Y (s) (r) (c) (0) ∧ v = -2 ∧ gJv σ1 Y pm P ∧ 1 ≤ σ1.1 0 0 9 ∧ σ1.1 0 0 9 ≤ 7)) := by
  obtain ⟨h, hY, hp, hg, hpm⟩ := gJv_s hI
  rcases gOb_cs (d := 3) hY (s) (r) (c) (0) (by omega) with q | q | q | q
  · exact ⟨_, _, l_smudge _ _ _ _ 0 1 (by omega) (c6_smudge Y h hY s r c hs hr hc hp q), gHi_sh _ _ (gHi_rem _ gHi_rf), Or.inl ⟨q, rfl, gJv_ch (gCoY_Y q hY (by omega)) (gGd_co q hY (by omega) hg) hI⟩⟩
  · exact ⟨_, _, l_smudge_1 _ _ _ 1 1 (by omega) (c6_smudge_1 Y h hY s r c hs hr hc q), gHi_rf, Or.inr (Or.inl ⟨q, rfl, rfl⟩)⟩
  · exact absurd q (by
      unfold gOb o_t; rw [if_neg (by omega)]; split
      · omega
      split
      · omega
      rw [if_neg (by omega), if_neg (by omega), if_pos rfl]
      split <;> omega)
  · obtain ⟨i1, i2⟩ := gJv_rf q hI
    exact ⟨_, _, l_smudge_2 _ _ _ 1 1 (by omega) (c6_smudge_3 Y h hY s r c hs hr hc q.1), gHi_u _ _ _ _ (by omega) (gHi_u _ _ _ _ (by omega) gHi_rf), Or.inr (Or.inr (Or.inr ⟨q.1, rfl, i1, i2⟩))⟩
theorem q_seal (hI : gJv σ Y pm P) (s : Int) (hs : -2147483648 ≤ s ∧ s < 2147483648) : ∃ (v : Int) (σ1 : gS), hCt E mL_seal hhL_seal 13 1 [rf 0 0, iv s] σ (.inl (some (iv v))) σ1 ∧ gHi σ σ1 ∧ ((gOb 4 Y (s) (0) (0) (0) = 0 ∧ v = gCoA 4 Y (s) (0) (0) (0) ∧ gJv σ1 (gCoY 4 Y (s) (0) (0) (0)) (gPn pm) (gPu P pm Y)) ∨ (gOb 4 Y (s) (0) (0) (0) = 1 ∧ v = -1 ∧ σ1 = σ) ∨ (gOb 4 Y (s) (0) (0) (0) = 2 ∧ v = (-99) ∧ σ1 = σ) ∨ (100 ≤ gOb 4 Y (s) (0) (0) (0) ∧ v = -2 ∧ gJv σ1 Y pm P ∧ 1 ≤ σ1.1 0 0 9 ∧ σ1.1 0 0 9 ≤ 7)) := by
  obtain ⟨h, hY, hp, hg, hpm⟩ := gJv_s hI
  rcases gOb_cs (d := 4) hY (s) (0) (0) (0) (by omega) with q | q | q | q
  · exact ⟨_, _, l_seal _ _ 0 1 (by omega) (c6_seal Y h hY s hs hp q), gHi_sh _ _ (gHi_rem _ gHi_rf), Or.inl ⟨q, rfl, gJv_ch (gCoY_Y q hY (by omega)) (gGd_co q hY (by omega) hg) hI⟩⟩
  · exact ⟨_, _, l_seal_1 _ 1 1 (by omega) (c6_seal_1 Y h hY s hs q), gHi_rf, Or.inr (Or.inl ⟨q, rfl, rfl⟩)⟩
  · exact absurd q (by
      unfold gOb o_s; rw [if_neg (by omega)]; split
      · omega
      split
      · omega
      rw [if_neg (by omega), if_neg (by omega), if_neg (by omega), if_pos rfl]
      split <;> omega)
  · obtain ⟨i1, i2⟩ := gJv_rf q hI
    exact ⟨_, _, l_seal_2 _ 1 1 (by omega) (c6_seal_3 Y h hY s hs q.1), gHi_u _ _ _ _ (by omega) (gHi_u _ _ _ _ (by omega) gHi_rf), Or.inr (Or.inr (Or.inr ⟨q.1, rfl, i1, i2⟩))⟩
theorem q_copy (hI : gJv σ Y pm P) (s : Int) (hs : -2147483648 ≤ s ∧ s < 2147483648) : ∃ (v : Int) (σ1 : gS), hCt E mL_copy hhL_copy 13 1 [rf 0 0, iv s] σ (.inl (some (iv v))) σ1 ∧ gHi σ σ1 ∧ ((gOb 5 Y (s) (0) (0) (0) = 0 ∧ v = gCoA 5 Y (s) (0) (0) (0) ∧ gJv σ1 (gCoY 5 Y (s) (0) (0) (0)) (gPn pm) (gPu P pm Y)) ∨ (gOb 5 Y (s) (0) (0) (0) = 1 ∧ v = -1 ∧ σ1 = σ) ∨ (gOb 5 Y (s) (0) (0) (0) = 2 ∧ v = (-99) ∧ σ1 = σ) ∨ (100 ≤ gOb 5 Y (s) (0) (0) (0) ∧ v = -2 ∧ gJv σ1 Y pm P ∧ 1 ≤ σ1.1 0 0 9 ∧ σ1.1 0 0 9 ≤ 7)) := by
  obtain ⟨h, hY, hp, hg, hpm⟩ := gJv_s hI
  rcases gOb_cs (d := 5) hY (s) (0) (0) (0) (by omega) with q | q | q | q
  · exact ⟨_, _, l_copy _ _ 0 1 (by omega) (c6_copy Y h hY s hs hp q), gHi_sh _ _ (gHi_rem _ gHi_rf), Or.inl ⟨q, rfl, gJv_ch (gCoY_Y q hY (by omega)) (gGd_co q hY (by omega) hg) hI⟩⟩
  · exact ⟨_, _, l_copy_1 _ 1 1 (by omega) (c6_copy_1 Y h hY s hs q), gHi_rf, Or.inr (Or.inl ⟨q, rfl, rfl⟩)⟩
  · exact absurd q (by
      unfold gOb o_ad; rw [if_neg (by omega)]; split
      · omega
      split
      · omega
      rw [if_neg (by omega), if_neg (by omega), if_neg (by omega), if_neg (by omega), if_pos rfl]
      split <;> omega)
  · obtain ⟨i1, i2⟩ := gJv_rf q hI
    exact ⟨_, _, l_copy_2 _ 1 1 (by omega) (c6_copy_3 Y h hY s hs q.1), gHi_u _ _ _ _ (by omega) (gHi_u _ _ _ _ (by omega) gHi_rf), Or.inr (Or.inr (Or.inr ⟨q.1, rfl, i1, i2⟩))⟩
theorem q_mend (hI : gJv σ Y pm P) (s : Int) (hs : -2147483648 ≤ s ∧ s < 2147483648) : ∃ (v : Int) (σ1 : gS), hCt E mL_mend hhL_mend 13 1 [rf 0 0, iv s] σ (.inl (some (iv v))) σ1 ∧ gHi σ σ1 ∧ ((gOb 6 Y (s) (0) (0) (0) = 0 ∧ v = gCoA 6 Y (s) (0) (0) (0) ∧ gJv σ1 (gCoY 6 Y (s) (0) (0) (0)) (gPn pm) (gPu P pm Y)) ∨ (gOb 6 Y (s) (0) (0) (0) = 1 ∧ v = -1 ∧ σ1 = σ) ∨ (gOb 6 Y (s) (0) (0) (0) = 2 ∧ v = (-99) ∧ σ1 = σ) ∨ (100 ≤ gOb 6 Y (s) (0) (0) (0) ∧ v = -2 ∧ gJv σ1 Y pm P ∧ 1 ≤ σ1.1 0 0 9 ∧ σ1.1 0 0 9 ≤ 7)) := by
  obtain ⟨h, hY, hp, hg, hpm⟩ := gJv_s hI
  rcases gOb_cs (d := 6) hY (s) (0) (0) (0) (by omega) with q | q | q | q
  · exact ⟨_, _, l_mend _ _ 0 1 (by omega) (c6_mend Y h hY s hs hp q), gHi_sh _ _ (gHi_rem _ gHi_rf), Or.inl ⟨q, rfl, gJv_ch (gCoY_Y q hY (by omega)) (gGd_co q hY (by omega) hg) hI⟩⟩
  · exact ⟨_, _, l_mend_1 _ 1 1 (by omega) (c6_mend_1 Y h hY s hs q), gHi_rf, Or.inr (Or.inl ⟨q, rfl, rfl⟩)⟩
  · exact absurd q (by
      unfold gOb; rw [if_neg (by omega)]; split
      · omega
      rename_i hh
      have hh2 := Classical.not_not.mp hh
      have hn : ((s.toNat : Nat) : Int) < Y 0 := by have := hh2.1; have := hh2.2; omega
      have hz := hY.2 _ hn
      split
      · omega
      rw [if_neg (by omega), if_neg (by omega), if_neg (by omega), if_neg (by omega), if_neg (by omega), if_pos rfl]
      have := s_om_hi hz hh2.1
      omega)
  · obtain ⟨i1, i2⟩ := gJv_rf q hI
    exact ⟨_, _, l_mend_2 _ 1 1 (by omega) (c6_mend_3 Y h hY s hs q.1), gHi_u _ _ _ _ (by omega) (gHi_u _ _ _ _ (by omega) gHi_rf), Or.inr (Or.inr (Or.inr ⟨q.1, rfl, i1, i2⟩))⟩
theorem q_fill (hI : gJv σ Y pm P) (s : Int) (hs : -2147483648 ≤ s ∧ s < 2147483648) : ∃ (v : Int) (σ1 : gS), hCt E mL_fill hhL_fill 13 1 [rf 0 0, iv s] σ (.inl (some (iv v))) σ1 ∧ gHi σ σ1 ∧ ((gOb 7 Y (s) (0) (0) (0) = 0 ∧ v = gCoA 7 Y (s) (0) (0) (0) ∧ gJv σ1 (gCoY 7 Y (s) (0) (0) (0)) (gPn pm) (gPu P pm Y)) ∨ (gOb 7 Y (s) (0) (0) (0) = 1 ∧ v = -1 ∧ σ1 = σ) ∨ (gOb 7 Y (s) (0) (0) (0) = 2 ∧ v = (-99) ∧ σ1 = σ) ∨ (100 ≤ gOb 7 Y (s) (0) (0) (0) ∧ v = -2 ∧ gJv σ1 Y pm P ∧ 1 ≤ σ1.1 0 0 9 ∧ σ1.1 0 0 9 ≤ 7)) := by
  obtain ⟨h, hY, hp, hg, hpm⟩ := gJv_s hI
  rcases gOb_cs (d := 7) hY (s) (0) (0) (0) (by omega) with q | q | q | q
  · exact ⟨_, _, l_fill _ _ 0 1 (by omega) (c6_fill Y h hY s hs hp q), gHi_sh _ _ (gHi_rem _ gHi_rf), Or.inl ⟨q, rfl, gJv_ch (gCoY_Y q hY (by omega)) (gGd_co q hY (by omega) hg) hI⟩⟩
  · exact ⟨_, _, l_fill_1 _ 1 1 (by omega) (c6_fill_1 Y h hY s hs q), gHi_rf, Or.inr (Or.inl ⟨q, rfl, rfl⟩)⟩
  · exact absurd q (by
      unfold gOb o_fl; rw [if_neg (by omega)]; split
      · omega
      rename_i hh
      have hh2 := Classical.not_not.mp hh
      split
      · omega
      rw [if_neg (by omega), if_neg (by omega), if_neg (by omega), if_neg (by omega), if_neg (by omega), if_neg (by omega)]
      have := hh2.1
      split <;> omega)
  · obtain ⟨i1, i2⟩ := gJv_rf q hI
    exact ⟨_, _, l_fill_2 _ 1 1 (by omega) (c6_fill_3 Y h hY s hs q.1), gHi_u _ _ _ _ (by omega) (gHi_u _ _ _ _ (by omega) gHi_rf), Or.inr (Or.inr (Or.inr ⟨q.1, rfl, i1, i2⟩))⟩
end OPS
