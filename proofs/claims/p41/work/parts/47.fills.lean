/-! ===== filling in, foretold and done, and undone ===== -/
section GU
variable {X : gM} {E : gE} {M : gMt} {D n cells slots pc : Nat} {L : List (Option gV)} {st : List gV} {σ σ' : gS}
theorem x_icmpu_eq (K : gK X E M D n) {a b : Int} {off : Int} {tgt : Nat} (d : decode M.2.1 pc = .ok (.if_icmp .eq off, 3)) (ht : (pc : Int) + off = (tgt : Int)) (kt : Int32.ofInt a = Int32.ofInt b → gWX X E cells slots tgt L st σ) (kf : ¬ Int32.ofInt a = Int32.ofInt b → gWX X E cells slots (pc + 3) L st σ) : gWX X E cells slots pc L (iv b :: iv a :: st) σ :=
  fun H locs ls hP hS hl => lv_icmp_eq K.1 K.2.1 d ht (fun h => kt h H locs ls hP hS hl) (fun h => kf h H locs ls hP hS hl)
end GU
theorem q_undo {E : gE} {σ : gS} {Y : Nat → Int} {pm j0 : Nat} {P : Nat → Nat → Int} (hI : gJv σ Y pm P) (hj : pm = j0 + 1) (hg : gGd (P j0)) : ∃ σ2 : gS, hCt E mL_undo hhL_undo 13 0 [rf 0 0] σ (.inl (some (iv (j0 : Int)))) σ2 ∧ gHi σ σ2 ∧ gJv σ2 (P j0) j0 P := by
  have hI2 := gJv_un hj hg hI
  obtain ⟨sv, S, rs, dt, er, T, l, k, w, h1, h2, -⟩ := hI
  exact ⟨_, l_undo _ 0 0 (by omega) (c6_undo (P j0) (h2.2.2.1 j0 (by omega)) h1.1.2.1 j0 (by rw [h1.1.2.2.1, hj]; rfl) (by have := h2.2.1; omega) (h1.1.2.2.2 j0 (by omega))), gHi_sh _ _ (gHi_u _ _ _ _ (by omega) gHi_rf), hI2⟩
theorem gPu_last (P : Nat → Nat → Int) {pm : Nat} (hpm : pm ≤ 8) (Y : Nat → Int) : ∃ j0, gPn pm = j0 + 1 ∧ gPu P pm Y j0 = Y := by
  unfold gPn gPu
  by_cases q : pm = 8
  · rw [if_pos q, if_pos q]
    exact ⟨7, rfl, if_pos rfl⟩
  · rw [if_neg q, if_neg q]
    exact ⟨pm, rfl, if_pos rfl⟩
/-- two arrays of the law's own -/
def pAr (σ : gS) (f g : Nat → Int) : gS := (fun k i j => if k = 30 ∧ i = 0 then f j else if k = 30 ∧ i = 1 then g j else σ.1 k i j, σ.2)
theorem pAr_0 (σ : gS) (f g : Nat → Int) (j : Nat) : (pAr σ f g).1 30 0 j = f j := by
  show (if (30 : Nat) = 30 ∧ (0 : Nat) = 0 then f j else if (30 : Nat) = 30 ∧ (0 : Nat) = 1 then g j else σ.1 30 0 j) = f j
  exact if_pos ⟨rfl, rfl⟩
theorem pAr_1 (σ : gS) (f g : Nat → Int) (j : Nat) : (pAr σ f g).1 30 1 j = g j := by
  show (if (30 : Nat) = 30 ∧ (1 : Nat) = 0 then f j else if (30 : Nat) = 30 ∧ (1 : Nat) = 1 then g j else σ.1 30 1 j) = g j
  rw [if_neg (by omega), if_pos ⟨rfl, rfl⟩]
theorem pAr_lo (σ : gS) (f g : Nat → Int) : gLow σ (pAr σ f g) := ⟨fun a b c h => by
  show (if a = 30 ∧ b = 0 then f c else if a = 30 ∧ b = 1 then g c else σ.1 a b c) = _
  rw [if_neg (by omega), if_neg (by omega)], rfl⟩
theorem pAr_u0 (σ : gS) (f g : Nat → Int) (j : Nat) (v : Int) : gU (pAr σ f g) 30 0 j v = pAr σ (fun a => if a = j then v else f a) g := gS_ext (fun a b c => by
  show (if a = 30 ∧ b = 0 ∧ c = j then v else if a = 30 ∧ b = 0 then f c else if a = 30 ∧ b = 1 then g c else σ.1 a b c) = if a = 30 ∧ b = 0 then (if c = j then v else f c) else if a = 30 ∧ b = 1 then g c else σ.1 a b c
  by_cases q : a = 30 ∧ b = 0
  · rw [if_pos q, if_pos q]
    by_cases p : c = j
    · rw [if_pos p, if_pos ⟨q.1, q.2, p⟩]
    · rw [if_neg p, if_neg (fun y => p y.2.2)]
  · rw [if_neg q, if_neg q, if_neg (fun y => q ⟨y.1, y.2.1⟩)]) rfl
theorem pAr_u1 (σ : gS) (f g : Nat → Int) (j : Nat) (v : Int) : gU (pAr σ f g) 30 1 j v = pAr σ f (fun a => if a = j then v else g a) := gS_ext (fun a b c => by
  show (if a = 30 ∧ b = 1 ∧ c = j then v else if a = 30 ∧ b = 0 then f c else if a = 30 ∧ b = 1 then g c else σ.1 a b c) = if a = 30 ∧ b = 0 then f c else if a = 30 ∧ b = 1 then (if c = j then v else g c) else σ.1 a b c
  by_cases q : a = 30 ∧ b = 0
  · rw [if_pos q, if_pos q, if_neg (by omega)]
  · rw [if_neg q, if_neg q]
    by_cases q1 : a = 30 ∧ b = 1
    · rw [if_pos q1, if_pos q1]
      by_cases p : c = j
      · rw [if_pos p, if_pos ⟨q1.1, q1.2, p⟩]
      · rw [if_neg p, if_neg (fun y => p y.2.2)]
    · rw [if_neg q1, if_neg q1, if_neg (fun y => q1 ⟨y.1, y.2.1⟩)]) rfl
theorem pAr_put (σ : gS) (f g : Nat → Int) (i : Nat) (z : Nat → Int) : gPut (pAr σ f g) i z = pAr (gPut σ i z) f g := gS_ext (fun a b c => by
  by_cases q : 3 ≤ a ∧ a ≤ 7
  · have e : ∀ τ : gS, (pAr τ f g).1 a b c = τ.1 a b c := fun τ => by
      show (if a = 30 ∧ b = 0 then f c else if a = 30 ∧ b = 1 then g c else τ.1 a b c) = _
      rw [if_neg (by omega), if_neg (by omega)]
    rw [e]
    have e2 := e σ
    unfold gPut
    dsimp only
    rw [e2]
  · rw [gPut_ok _ _ _ q]
    show (if a = 30 ∧ b = 0 then f c else if a = 30 ∧ b = 1 then g c else σ.1 a b c) = if a = 30 ∧ b = 0 then f c else if a = 30 ∧ b = 1 then g c else (gPut σ i z).1 a b c
    rw [gPut_ok _ _ _ q]) rfl
theorem pAr_cg (σ : gS) {f g f' g' : Nat → Int} (h : ∀ a, f a = f' a) (h2 : ∀ a, g a = g' a) : pAr σ f g = pAr σ f' g' := by rw [show f = f' from funext h, show g = g' from funext h2]
theorem pAr_wf {E : gE} {τ : gS} {Y : Nat → Int} {pm : Nat} {P : Nat → Nat → Int} (hI : gJv τ Y pm P) (f g : Nat → Int) {k r c : Nat} (hk : (k : Int) < Y 0) (hr : (r : Int) < zb Y k 0) (hc : (c : Int) < zb Y k 1) : ∃ τ3 : gS, gJv τ3 Y pm P ∧ hCt E mL_wouldFill hhL_wouldFill 13 1 [rf 0 0, iv (k : Int), iv (r : Int), iv (c : Int)] (pAr τ f g) (.inl (some (iv (pWf (zb Y k) (20 + (8 * r + c)))))) (pAr τ3 f g) := by
  have h2 := gJv_s (gJv_lo (pAr_lo τ f g) hI)
  obtain ⟨σ', h3, h4⟩ := p_wouldFill (E := E) h2.1 h2.2.1 hk hr hc
  rcases h3 with rfl | rfl
  · exact ⟨τ, hI, h4⟩
  · exact ⟨gPut τ 55 (zFill (zb Y k)), gJv_55 _ hI, by rw [← pAr_put]; exact h4⟩
theorem pWf_cs {z : Nat → Int} (hz : gZ z) {j : Nat} (hj : j < 48) : (z 2 = 1 ∧ z (20 + j) = -1 ∧ zFill z (20 + j) ≠ -1 ∧ pWf z (20 + j) = zFill z (20 + j) ∧ 0 ≤ pWf z (20 + j) ∧ pWf z (20 + j) ≤ 9) ∨ (¬ (z 2 = 1 ∧ z (20 + j) = -1 ∧ zFill z (20 + j) ≠ -1) ∧ pWf z (20 + j) = -13) := by
  unfold pWf
  by_cases q : z 2 = 1 ∧ z (20 + j) = -1 ∧ zFill z (20 + j) ≠ -1
  · rw [if_pos q]
    have := (zFill_Z hz).2.2.2.2.2.1 j hj
    exact Or.inl ⟨q.1, q.2.1, q.2.2, rfl, by omega, by omega⟩
  · rw [if_neg q]
    exact Or.inr ⟨q, rfl⟩
theorem pWf_many {z : Nat → Int} (hz : gZ z) (h2 : z 2 = 1) : gSum (fun j => gB1 (0 ≤ pWf z (20 + (8 * (j / (z 1).toNat) + j % (z 1).toNat)))) ((z 0).toNat * (z 1).toNat) = (s_fill 48 z).1 := by
  have h0 := hz.1
  have h1 := hz.2.1
  rw [← s_fill_many hz, gSum_lin (fun r c => gB1 (0 ≤ pWf z (20 + (8 * r + c)))) (by omega)]
  refine gSum_cong _ (fun r hr => gSum_cong _ (fun c hc => gB1_iff ?_))
  rcases pWf_cs hz (j := 8 * r + c) (by omega) with q | q
  · exact ⟨fun _ => ⟨q.2.1, q.2.2.1⟩, fun _ => q.2.2.2.2.1⟩
  · exact ⟨fun y => by have := q.2; omega, fun y => absurd ⟨h2, y⟩ q.1⟩
theorem pWf_none {z : Nat → Int} (h2 : z 2 = 0) (N : Nat) : gSum (fun j => gB1 (0 ≤ pWf z (20 + (8 * (j / (z 1).toNat) + j % (z 1).toNat)))) N = 0 := gSum_zero N (fun j _ => gB1_f (by
  unfold pWf
  rw [if_neg (by omega)]
  omega))
set_option maxHeartbeats 1000000 in
theorem c_fills {E : gE} {σ : gS} (Y : Nat → Int) {pm : Nat} {P : Nat → Nat → Int} (hX : gX E = []) (hI : gJv σ Y pm P) {k : Nat} (hk : (k : Int) < Y 0) : gCtR E mL_fills 17 110 [rf 0 0, iv (k : Int)] σ (fun rv σ' => rv = some (iv 1) ∧ ∃ pm2 P2, gJv σ' Y pm2 P2) := by
  refine gCtR_of (L := [some (rf 0 0), some (iv (k : Int)), none, none, none, none, none, none, none, none]) (by decide +kernel) rfl rfl (Nat.le_of_ble_eq_true rfl) (fun X K hE => ?_)
  obtain ⟨h, hY, -, hg, hpm⟩ := gJv_s hI
  have h5 := gY_k hY hk
  have hz := hY.2 k hk
  have z0 := hz.1
  have z1 := hz.2.1
  have z2 := hz.2.2.1
  have K0 := K
  have bCl := s_clz_bd hz
  have hC : 0 < (zb Y k 1).toNat := by omega
  have eC : zb Y k 1 = (((zb Y k 1).toNat : Nat) : Int) := by omega
  have eRC : zb Y k 0 * zb Y k 1 = (((zb Y k 0).toNat * (zb Y k 1).toNat : Nat) : Int) := by
    rw [Int.natCast_mul]
    congr 1 <;> omega
  have hRC : (zb Y k 0).toNat * (zb Y k 1).toNat ≤ 48 := by omega
  have jd : ∀ j : Nat, j < (zb Y k 0).toNat * (zb Y k 1).toNat → j / (zb Y k 1).toNat < (zb Y k 0).toNat := fun j hj => (Nat.div_lt_iff_lt_mul hC).mpr hj
  have jm : ∀ j : Nat, j % (zb Y k 1).toNat < (zb Y k 1).toNat := fun j => Nat.mod_lt j hC
  have jdi : ∀ j : Nat, (j : Int) / zb Y k 1 = ((j / (zb Y k 1).toNat : Nat) : Int) := fun j => by rw [eC]; exact (Int.natCast_ediv j _).symm
  have jmi : ∀ j : Nat, (j : Int) % zb Y k 1 = ((j % (zb Y k 1).toNat : Nat) : Int) := fun j => by rw [eC]; exact (Int.natCast_emod j _).symm
  have j48 : ∀ j : Nat, j < (zb Y k 0).toNat * (zb Y k 1).toNat → 8 * (j / (zb Y k 1).toNat) + j % (zb Y k 1).toNat < 48 := fun j hj => by have := jd j hj; have := jm j; omega
  refine x_aload_0 K dL_fills_0 ?_
  refine x_iload_1 K dL_fills_1 ?_
  refine x_iconst K dL_fills_2 ?_
  refine x_callH3 K (p_of h hY 0 hk (by omega)) mtL_of msL_of (g_mem 606 (by decide +kernel)) ⟨by omega, by omega, by omega⟩ rfl (Nat.le_of_ble_eq_true rfl) dL_fills_3 ?_
  refine gWX.top (b := zb Y k 0) rfl ?_
  refine x_istore_2 K dL_fills_6 rfl ?_
  refine x_aload_0 K dL_fills_7 ?_
  refine x_iload_1 K dL_fills_8 ?_
  refine x_iconst K dL_fills_9 ?_
  refine x_callH3 K (p_of h hY 1 hk (by omega)) mtL_of msL_of (g_mem 606 (by decide +kernel)) ⟨by omega, by omega, by omega⟩ rfl (Nat.le_of_ble_eq_true rfl) dL_fills_10 ?_
  refine gWX.top (b := zb Y k 1) rfl ?_
  refine x_istore_3 K dL_fills_13 rfl ?_
  refine x_iload_2 K dL_fills_14 ?_
  refine x_iload_3 K dL_fills_15 ?_
  refine x_imul K dL_fills_16 ?_
  refine gWX.top (b := ((((zb Y k 0).toNat * (zb Y k 1).toNat) : Nat) : Int)) eRC ?_
  refine x_newI (i := 0) (N := ((zb Y k 0).toNat * (zb Y k 1).toNat)) K (by omega) (by rw [hX]; exact fun y hy => absurd hy List.not_mem_nil) (g_mem 215 (by decide +kernel)) (by omega) (by omega) dL_fills_17 (fun qa E2 hm hx2 K => ?_)
  refine gWX.le (c' := 10) (s' := 60) (by omega) (by omega) ?_
  refine x_astorec_4 K dL_fills_19 rfl ?_
  refine x_iload_2 K dL_fills_21 ?_
  refine x_iload_3 K dL_fills_22 ?_
  refine x_imul K dL_fills_23 ?_
  refine gWX.top (b := ((((zb Y k 0).toNat * (zb Y k 1).toNat) : Nat) : Int)) eRC ?_
  refine x_newI (i := 1) (N := ((zb Y k 0).toNat * (zb Y k 1).toNat)) K (by omega) (by rw [hx2, hX]; intro y hy; rw [List.mem_singleton.mp hy]; show (0 : Nat) ≠ 1; decide) (g_mem 215 (by decide +kernel)) (by omega) (by omega) dL_fills_24 (fun qb E3 hm3 hx3 K => ?_)
  refine gWX.le (c' := 20) (s' := 120) (by omega) (by omega) ?_
  have hmm := hm.tr hm3
  have hxa : (gX E3)[0]? = some (qa, 30, 0, ((zb Y k 0).toNat * (zb Y k 1).toNat)) := by rw [hx3, hx2, hX]; rfl
  have hxb : (gX E3)[1]? = some (qb, 30, 1, ((zb Y k 0).toNat * (zb Y k 1).toNat)) := by rw [hx3, hx2, hX]; rfl
  refine gWX.eq (σ' := pAr σ (fun _ => 0) (fun _ => 0)) (gS_ext (fun a b c => by
    show (if a = 30 ∧ b = 1 then (0 : Int) else if a = 30 ∧ b = 0 then 0 else σ.1 a b c) = if a = 30 ∧ b = 0 then 0 else if a = 30 ∧ b = 1 then 0 else σ.1 a b c
    by_cases q : a = 30 ∧ b = 0
    · rw [if_pos q, if_pos q, if_neg (by omega)]
    · rw [if_neg q, if_neg q]) rfl) ?_
  refine x_astorec_5 K dL_fills_26 rfl ?_
  refine x_iconst K dL_fills_28 ?_
  refine x_istore_6 K dL_fills_29 rfl ?_
  refine x_iconst K dL_fills_31 ?_
  refine x_istore_7 K dL_fills_32 rfl ?_
  refine gLp (P := fun n : Nat => ∀ τ : gS, (gJv τ Y pm P) → gWX X E3 (20 + n) (6 * (20 + n)) 34 [some (rf 0 0), some (iv (k : Int)), some (iv (zb Y k 0)), some (iv (zb Y k 1)), some (.inl (.ref qa)), some (.inl (.ref qb)), some (iv (gSum (fun j => gB1 (0 ≤ pWf (zb Y k) (20 + (8 * (j / (zb Y k 1).toNat) + j % (zb Y k 1).toNat)))) n)), some (iv (n : Int)), none, none] [] (pAr τ (fun j : Nat => if j < n then pWf (zb Y k) (20 + (8 * (j / (zb Y k 1).toNat) + j % (zb Y k 1).toNat)) else 0) (fun j : Nat => if j < n then zb Y k (20 + (8 * (j / (zb Y k 1).toNat) + j % (zb Y k 1).toNat)) else 0))) (((zb Y k 0).toNat * (zb Y k 1).toNat)) (fun k0 => ?_) (fun n hn ih => ?_) ?_
  · exact gWX.to rfl (pAr_cg σ (fun a => (if_neg (Nat.not_lt_zero a)).symm) (fun a => (if_neg (Nat.not_lt_zero a)).symm)) (k0 σ hI)
  · intro τ hτ
    have hd := jd n hn
    have hm2 := jm n
    have h48 := j48 n hn
    have hI2 := fun f g => gJv_s (gJv_lo (pAr_lo τ f g) hτ)
    have sg := hz.2.2.2.2.2.1 (8 * (n / (zb Y k 1).toNat) + n % (zb Y k 1).toNat) h48
    have wc := pWf_cs hz h48
    have mb := gSum_le (f := fun j => gB1 (0 ≤ pWf (zb Y k) (20 + (8 * (j / (zb Y k 1).toNat) + j % (zb Y k 1).toNat)))) (c := 1) (fun _ => gB1_bd _) n
    obtain ⟨τ3, hτ3, hwf⟩ := pAr_wf (E := E3) hτ (fun j : Nat => if j < n then pWf (zb Y k) (20 + (8 * (j / (zb Y k 1).toNat) + j % (zb Y k 1).toNat)) else 0) (fun j : Nat => if j < (n + 1) then zb Y k (20 + (8 * (j / (zb Y k 1).toNat) + j % (zb Y k 1).toNat)) else 0) hk (r := n / (zb Y k 1).toNat) (c := n % (zb Y k 1).toNat) (by omega) (by omega)
    refine x_iload_7 K dL_fills_34 ?_
    refine x_aloadc_4 K dL_fills_36 ?_
    refine x_alenX K hxa dL_fills_38 ?_
    refine x_icmp_ge (tgt := 140) K (by omega) dL_fills_39 (by decide) (fun h39 => absurd h39 (by omega)) (fun h39 => ?_)
    refine x_aloadc_5 K dL_fills_42 ?_
    refine x_iload_7 K dL_fills_44 ?_
    refine x_aload_0 K dL_fills_46 ?_
    refine x_iload_1 K dL_fills_47 ?_
    refine x_iload_7 K dL_fills_48 ?_
    refine x_iload_3 K dL_fills_50 ?_
    refine x_idiv K (by omega) dL_fills_51 ?_
    refine gWX.top (b := ((n / (zb Y k 1).toNat : Nat) : Int)) (jdi n) ?_
    refine x_iload_7 K dL_fills_52 ?_
    refine x_iload_3 K dL_fills_54 ?_
    refine x_irem K (by omega) dL_fills_55 ?_
    refine gWX.top (b := ((n % (zb Y k 1).toNat : Nat) : Int)) (jmi n) ?_
    refine x_callH4 K (p_sign (hI2 _ _).1 hY hk (by omega) (by omega)) mtL_sign msL_sign (g_mem 717 (by decide +kernel)) ⟨by omega, by omega, by omega⟩ rfl (Nat.le_of_ble_eq_true rfl) dL_fills_56 ?_
    refine x_iastX K hxb n rfl hn (by omega) dL_fills_59 ?_
    refine gWX.eq (σ' := pAr τ (fun j : Nat => if j < n then pWf (zb Y k) (20 + (8 * (j / (zb Y k 1).toNat) + j % (zb Y k 1).toNat)) else 0) (fun j : Nat => if j < (n + 1) then zb Y k (20 + (8 * (j / (zb Y k 1).toNat) + j % (zb Y k 1).toNat)) else 0)) ((pAr_u1 τ _ _ _ _).trans (pAr_cg τ (fun _ => rfl) (fun a => by
      by_cases q : a = n
      · rw [if_pos q, if_pos (by omega), q]
      · rw [if_neg q]
        by_cases p : a < n
        · rw [if_pos p, if_pos (by omega)]
        · rw [if_neg p, if_neg (by omega)]))) ?_
    refine x_aloadc_4 K dL_fills_60 ?_
    refine x_iload_7 K dL_fills_62 ?_
    refine x_aload_0 K dL_fills_64 ?_
    refine x_iload_1 K dL_fills_65 ?_
    refine x_iload_7 K dL_fills_66 ?_
    refine x_iload_3 K dL_fills_68 ?_
    refine x_idiv K (by omega) dL_fills_69 ?_
    refine gWX.top (b := ((n / (zb Y k 1).toNat : Nat) : Int)) (jdi n) ?_
    refine x_iload_7 K dL_fills_70 ?_
    refine x_iload_3 K dL_fills_72 ?_
    refine x_irem K (by omega) dL_fills_73 ?_
    refine gWX.top (b := ((n % (zb Y k 1).toNat : Nat) : Int)) (jmi n) ?_
    refine x_callH4 K hwf mtL_wouldFill msL_wouldFill (g_mem 1203 (by decide +kernel)) ⟨by omega, by omega, by omega⟩ rfl (Nat.le_of_ble_eq_true rfl) dL_fills_74 ?_
    refine x_iastX K hxa n rfl hn (by omega) dL_fills_77 ?_
    refine gWX.eq (σ' := pAr τ3 (fun j : Nat => if j < (n + 1) then pWf (zb Y k) (20 + (8 * (j / (zb Y k 1).toNat) + j % (zb Y k 1).toNat)) else 0) (fun j : Nat => if j < (n + 1) then zb Y k (20 + (8 * (j / (zb Y k 1).toNat) + j % (zb Y k 1).toNat)) else 0)) ((pAr_u0 τ3 _ _ _ _).trans (pAr_cg τ3 (fun a => by
      by_cases q : a = n
      · rw [if_pos q, if_pos (by omega), q]
      · rw [if_neg q]
        by_cases p : a < n
        · rw [if_pos p, if_pos (by omega)]
        · rw [if_neg p, if_neg (by omega)]) (fun _ => rfl))) ?_
    refine x_iload_6 K dL_fills_78 ?_
    refine x_aloadc_4 K dL_fills_80 ?_
    refine x_iload_7 K dL_fills_82 ?_
    refine x_ialdX K hxa n rfl hn (by omega) dL_fills_84 ?_
    refine gWX.top (b := pWf (zb Y k) (20 + (8 * (n / (zb Y k 1).toNat) + n % (zb Y k 1).toNat))) ((pAr_0 _ _ _ _).trans (if_pos (by omega))) ?_
    refine gTern (fun kt kf => x_if_lt (tgt := 92) K (by omega) dL_fills_85 (by decide) kt kf) (fun k => x_iconst K dL_fills_92 k) (fun k => x_iconst K dL_fills_88 (x_goto K dL_fills_89 (by decide) k)) ?_
    refine gWX.top (b := gB1 (0 ≤ pWf (zb Y k) (20 + (8 * (n / (zb Y k 1).toNat) + n % (zb Y k 1).toNat)))) (by unfold gB1; split <;> split <;> omega) ?_
    refine x_iadd K dL_fills_93 ?_
    refine x_istore_6 K dL_fills_94 rfl ?_
    refine gJn (P := gWX X E3 (20 + n + 1) (6 * (20 + n + 1)) 112 [some (rf 0 0), some (iv (k : Int)), some (iv (zb Y k 0)), some (iv (zb Y k 1)), some (.inl (.ref qa)), some (.inl (.ref qb)), some (iv (gSum (fun j => gB1 (0 ≤ pWf (zb Y k) (20 + (8 * (j / (zb Y k 1).toNat) + j % (zb Y k 1).toNat)))) (n + 1))), some (iv (n : Int)), none, none] [] (pAr τ3 (fun j : Nat => if j < (n + 1) then pWf (zb Y k) (20 + (8 * (j / (zb Y k 1).toNat) + j % (zb Y k 1).toNat)) else 0) (fun j : Nat => if j < (n + 1) then zb Y k (20 + (8 * (j / (zb Y k 1).toNat) + j % (zb Y k 1).toNat)) else 0))) (fun kJ => ?_) ?_
    · refine x_aloadc_4 K dL_fills_96 ?_
      refine x_iload_7 K dL_fills_98 ?_
      refine x_ialdX K hxa n rfl hn (by omega) dL_fills_100 ?_
      refine gWX.top (b := pWf (zb Y k) (20 + (8 * (n / (zb Y k 1).toNat) + n % (zb Y k 1).toNat))) ((pAr_0 _ _ _ _).trans (if_pos (by omega))) ?_
      refine x_if_lt (tgt := 112) K (by omega) dL_fills_101 (by decide) (fun h101 => ?_) (fun h101 => ?_)
      · exact gWX.le (by omega) (by omega) (gWX.to rfl rfl kJ)
      · refine x_aloadc_5 K dL_fills_104 ?_
        refine x_iload_7 K dL_fills_106 ?_
        refine x_ialdX K hxb n rfl hn (by omega) dL_fills_108 ?_
        refine gWX.top (b := zb Y k (20 + (8 * (n / (zb Y k 1).toNat) + n % (zb Y k 1).toNat))) ((pAr_1 _ _ _ _).trans (if_pos (by omega))) ?_
        refine x_if_ge (tgt := 132) K (by omega) dL_fills_109 (by decide) (fun h109 => absurd h109 (by omega)) (fun h109 => ?_)
        exact gWX.le (by omega) (by omega) (gWX.to rfl rfl kJ)
    · refine x_aloadc_4 K dL_fills_112 ?_
      refine x_iload_7 K dL_fills_114 ?_
      refine x_ialdX K hxa n rfl hn (by omega) dL_fills_116 ?_
      refine gWX.top (b := pWf (zb Y k) (20 + (8 * (n / (zb Y k 1).toNat) + n % (zb Y k 1).toNat))) ((pAr_0 _ _ _ _).trans (if_pos (by omega))) ?_
      refine x_bipush K dL_fills_117 rfl ?_
      refine x_icmp_gt (tgt := 132) K (by omega) dL_fills_119 (by decide) (fun h119 => absurd h119 (by omega)) (fun h119 => ?_)
      refine x_aloadc_4 K dL_fills_122 ?_
      refine x_iload_7 K dL_fills_124 ?_
      refine x_ialdX K hxa n rfl hn (by omega) dL_fills_126 ?_
      refine gWX.top (b := pWf (zb Y k) (20 + (8 * (n / (zb Y k 1).toNat) + n % (zb Y k 1).toNat))) ((pAr_0 _ _ _ _).trans (if_pos (by omega))) ?_
      refine x_bipush K dL_fills_127 rfl ?_
      refine x_icmp_ne (tgt := 134) K (by omega) dL_fills_129 (by decide) (fun h129 => ?_) (fun h129 => absurd h129 (by omega))
      refine x_iinc_7 K dL_fills_134 rfl ?_
      refine x_goto (tgt := 34) K dL_fills_137 (by decide) ?_
      exact gWX.le (by omega) (by omega) (gWX.to rfl rfl (ih τ3 hτ3))
  · intro τ hτ
    have hI2 := fun f g => gJv_s (gJv_lo (pAr_lo τ f g) hτ)
    have mb := gSum_le (f := fun j => gB1 (0 ≤ pWf (zb Y k) (20 + (8 * (j / (zb Y k 1).toNat) + j % (zb Y k 1).toNat)))) (c := 1) (fun _ => gB1_bd _) ((zb Y k 0).toNat * (zb Y k 1).toNat)
    refine x_iload_7 K dL_fills_34 ?_
    refine x_aloadc_4 K dL_fills_36 ?_
    refine x_alenX K hxa dL_fills_38 ?_
    refine x_icmp_ge (tgt := 140) K (by omega) dL_fills_39 (by decide) (fun h39 => ?_) (fun h39 => absurd h39 (by omega))
    refine gWX.fgt 7 ?_
    refine gWX.le (c' := 70) (s' := 420) (by omega) (by omega) ?_
    refine x_aload_0 K dL_fills_140 ?_
    refine x_iload_1 K dL_fills_141 ?_
    refine x_bipush K dL_fills_142 rfl ?_
    refine x_callH3 K (p_of (hI2 _ _).1 hY 6 hk (by omega)) mtL_of msL_of (g_mem 606 (by decide +kernel)) ⟨by omega, by omega, by omega⟩ rfl (Nat.le_of_ble_eq_true rfl) dL_fills_144 ?_
    refine gWX.top (b := zb Y k 5) rfl ?_
    refine x_istore_7 K dL_fills_147 rfl ?_
    obtain ⟨v, σ1, hf, hHi, hcs⟩ := q_fill (E := E3) (gJv_lo (pAr_lo τ (fun j : Nat => if j < ((zb Y k 0).toNat * (zb Y k 1).toNat) then pWf (zb Y k) (20 + (8 * (j / (zb Y k 1).toNat) + j % (zb Y k 1).toNat)) else 0) (fun j : Nat => if j < ((zb Y k 0).toNat * (zb Y k 1).toNat) then zb Y k (20 + (8 * (j / (zb Y k 1).toNat) + j % (zb Y k 1).toNat)) else 0)) hτ) (k : Int) (by omega)
    have rdD : ∀ j, j < ((zb Y k 0).toNat * (zb Y k 1).toNat) → σ1.1 30 0 j = pWf (zb Y k) (20 + (8 * (j / (zb Y k 1).toNat) + j % (zb Y k 1).toNat)) := fun j hj => (hHi 30 0 j (by omega)).trans ((pAr_0 _ _ _ _).trans (if_pos hj))
    have rdW : ∀ j, j < ((zb Y k 0).toNat * (zb Y k 1).toNat) → σ1.1 30 1 j = zb Y k (20 + (8 * (j / (zb Y k 1).toNat) + j % (zb Y k 1).toNat)) := fun j hj => (hHi 30 1 j (by omega)).trans ((pAr_1 _ _ _ _).trans (if_pos hj))
    have eob : gOb 7 Y (k : Int) 0 0 0 = if zb Y k 2 = 0 then 400 + (k : Int) else 0 := by
      unfold gOb o_fl
      rw [if_neg (by omega), if_neg (fun q => q ⟨by omega, hk⟩), if_neg (by omega), if_neg (by omega), if_neg (by omega), if_neg (by omega), if_neg (by omega), if_neg (by omega), if_neg (by omega)]
      rfl
    refine x_aload_0 K dL_fills_149 ?_
    refine x_iload_1 K dL_fills_150 ?_
    refine x_callH2 K hf mtL_fill msL_fill (g_mem 657 (by decide +kernel)) ⟨by omega, by omega, by omega⟩ rfl (Nat.le_of_ble_eq_true rfl) dL_fills_151 ?_
    refine x_istore_8 K dL_fills_154 rfl ?_
    rcases hcs with ⟨q1, q3, i1⟩ | ⟨q1, -⟩ | ⟨q1, -⟩ | ⟨q1, q3, i1, -⟩
    · have q2 : zb Y k 2 = 1 := by
        rcases z2 with q | q
        · rw [eob, if_pos q] at q1; omega
        · exact q
      have g1 := gJv_s i1
      have zf0 : zFill (zb Y k) 0 = zb Y k 0 := by unfold zFill; rw [if_neg (by omega)]; exact s_fill_lo 48 _ (by omega)
      have zf1 : zFill (zb Y k) 1 = zb Y k 1 := by unfold zFill; rw [if_neg (by omega)]; exact s_fill_lo 48 _ (by omega)
      have zf2 : zFill (zb Y k) 2 = 1 := by unfold zFill; rw [if_neg (by omega)]; exact (s_fill_lo 48 _ (by omega)).trans q2
      have eY2 : (gCoY 7 Y (k : Int) 0 0 0) = ySet (yF Y 4 (Y 4 + (s_fill 48 (zb Y k)).1)) k (zFill (zb Y k)) := rfl
      have f68 : ∀ j, j < 68 → zb (gCoY 7 Y (k : Int) 0 0 0) k j = zFill (zb Y k) j := fun j hj => by rw [eY2]; exact zb_set _ k _ hj
      have hk2 : (k : Int) < (gCoY 7 Y (k : Int) 0 0 0) 0 := by rw [eY2, ySet_lo _ _ _ (by omega), yF_at, if_neg (by omega)]; exact hk
      have many := pWf_many hz q2
      have q4 : v = (s_fill 48 (zb Y k)).1 := q3
      subst q4
      refine x_aload_0 K dL_fills_156 ?_
      refine x_iload_1 K dL_fills_157 ?_
      refine x_iconst K dL_fills_158 ?_
      refine x_callH3 K (p_of g1.1 g1.2.1 2 hk2 (by omega)) mtL_of msL_of (g_mem 606 (by decide +kernel)) ⟨by omega, by omega, by omega⟩ rfl (Nat.le_of_ble_eq_true rfl) dL_fills_159 ?_
      refine gWX.top (b := 1) ((f68 2 (by omega)).trans zf2) ?_
      refine x_if_ne (tgt := 183) K (by omega) dL_fills_162 (by decide) (fun h162 => ?_) (fun h162 => absurd h162 (by omega))
      refine gWX.to (L' := [some (rf 0 0), some (iv (k : Int)), some (iv (zb Y k 0)), some (iv (zb Y k 1)), some (.inl (.ref qa)), some (.inl (.ref qb)), some (iv (gSum (fun j => gB1 (0 ≤ pWf (zb Y k) (20 + (8 * (j / (zb Y k 1).toNat) + j % (zb Y k 1).toNat)))) ((zb Y k 0).toNat * (zb Y k 1).toNat))), some (iv (zb Y k 5)), some (iv (gSum (fun j => gB1 (0 ≤ pWf (zb Y k) (20 + (8 * (j / (zb Y k 1).toNat) + j % (zb Y k 1).toNat)))) ((zb Y k 0).toNat * (zb Y k 1).toNat))), none]) (by rw [many]) rfl ?_
      refine x_iload_8 K dL_fills_183 ?_
      refine x_iload_6 K dL_fills_185 ?_
      refine x_icmp_ne (tgt := 205) K (by omega) dL_fills_187 (by decide) (fun h187 => absurd rfl h187) (fun h187 => ?_)
      refine x_aload_0 K dL_fills_190 ?_
      refine x_iload_1 K dL_fills_191 ?_
      refine x_bipush K dL_fills_192 rfl ?_
      refine x_callH3 K (p_of g1.1 g1.2.1 6 hk2 (by omega)) mtL_of msL_of (g_mem 606 (by decide +kernel)) ⟨by omega, by omega, by omega⟩ rfl (Nat.le_of_ble_eq_true rfl) dL_fills_194 ?_
      refine gWX.top (b := zb Y k 5 + gSum (fun j => gB1 (0 ≤ pWf (zb Y k) (20 + (8 * (j / (zb Y k 1).toNat) + j % (zb Y k 1).toNat)))) ((zb Y k 0).toNat * (zb Y k 1).toNat)) ((f68 5 (by omega)).trans (by rw [many]; exact if_pos rfl)) ?_
      refine x_iload_7 K dL_fills_197 ?_
      refine x_iload_6 K dL_fills_199 ?_
      refine x_iadd K dL_fills_201 ?_
      refine x_icmpu_eq (tgt := 207) K dL_fills_202 (by decide) (fun h202 => ?_) (fun h202 => absurd rfl h202)
      refine x_iconst K dL_fills_207 ?_
      refine x_istore_9 K dL_fills_208 rfl ?_
      refine gLp (P := fun n : Nat => gWX X E3 71 426 210 [some (rf 0 0), some (iv (k : Int)), some (iv (zb Y k 0)), some (iv (zb Y k 1)), some (.inl (.ref qa)), some (.inl (.ref qb)), some (iv (gSum (fun j => gB1 (0 ≤ pWf (zb Y k) (20 + (8 * (j / (zb Y k 1).toNat) + j % (zb Y k 1).toNat)))) ((zb Y k 0).toNat * (zb Y k 1).toNat))), some (iv (zb Y k 5)), some (iv (gSum (fun j => gB1 (0 ≤ pWf (zb Y k) (20 + (8 * (j / (zb Y k 1).toNat) + j % (zb Y k 1).toNat)))) ((zb Y k 0).toNat * (zb Y k 1).toNat))), some (iv (n : Int))] [] (σ1)) (((zb Y k 0).toNat * (zb Y k 1).toNat)) (fun k0 => ?_) (fun n hn ih => ?_) ?_
      · exact gWX.to rfl rfl (k0)
      · have hd := jd n hn
        have hm2 := jm n
        have h48 := j48 n hn
        have sg := hz.2.2.2.2.2.1 (8 * (n / (zb Y k 1).toNat) + n % (zb Y k 1).toNat) h48
        have sf := (zFill_Z hz).2.2.2.2.2.1 (8 * (n / (zb Y k 1).toNat) + n % (zb Y k 1).toNat) h48
        have wc := pWf_cs hz h48
        refine x_iload_9 K dL_fills_210 ?_
        refine x_aloadc_4 K dL_fills_212 ?_
        refine x_alenX K hxa dL_fills_214 ?_
        refine x_icmp_ge (tgt := 275) K (by omega) dL_fills_215 (by decide) (fun h215 => absurd h215 (by omega)) (fun h215 => ?_)
        refine x_aload_0 K dL_fills_218 ?_
        refine x_iload_1 K dL_fills_219 ?_
        refine x_iload_9 K dL_fills_220 ?_
        refine x_iload_3 K dL_fills_222 ?_
        refine x_idiv K (by omega) dL_fills_223 ?_
        refine gWX.top (b := ((n / (zb Y k 1).toNat : Nat) : Int)) (jdi n) ?_
        refine x_iload_9 K dL_fills_224 ?_
        refine x_iload_3 K dL_fills_226 ?_
        refine x_irem K (by omega) dL_fills_227 ?_
        refine gWX.top (b := ((n % (zb Y k 1).toNat : Nat) : Int)) (jmi n) ?_
        refine x_callH4 K (p_sign (k := k) (r := n / (zb Y k 1).toNat) (c := n % (zb Y k 1).toNat) g1.1 g1.2.1 hk2 (by rw [f68 0 (by omega), zf0]; omega) (by rw [f68 1 (by omega), zf1]; omega)) mtL_sign msL_sign (g_mem 717 (by decide +kernel)) ⟨by omega, by omega, by omega⟩ rfl (Nat.le_of_ble_eq_true rfl) dL_fills_228 ?_
        refine gWX.top (b := zFill (zb Y k) (20 + (8 * (n / (zb Y k 1).toNat) + n % (zb Y k 1).toNat))) (f68 _ (by omega)) ?_
        refine gJn (P := gWX X E3 71 426 264 [some (rf 0 0), some (iv (k : Int)), some (iv (zb Y k 0)), some (iv (zb Y k 1)), some (.inl (.ref qa)), some (.inl (.ref qb)), some (iv (gSum (fun j => gB1 (0 ≤ pWf (zb Y k) (20 + (8 * (j / (zb Y k 1).toNat) + j % (zb Y k 1).toNat)))) ((zb Y k 0).toNat * (zb Y k 1).toNat))), some (iv (zb Y k 5)), some (iv (gSum (fun j => gB1 (0 ≤ pWf (zb Y k) (20 + (8 * (j / (zb Y k 1).toNat) + j % (zb Y k 1).toNat)))) ((zb Y k 0).toNat * (zb Y k 1).toNat))), some (iv (n : Int))] [iv (zFill (zb Y k) (20 + (8 * (n / (zb Y k 1).toNat) + n % (zb Y k 1).toNat))), iv (zFill (zb Y k) (20 + (8 * (n / (zb Y k 1).toNat) + n % (zb Y k 1).toNat)))] (σ1)) (fun kJ => ?_) ?_
        · refine x_aloadc_5 K dL_fills_231 ?_
          refine x_iload_9 K dL_fills_233 ?_
          refine x_ialdX K hxb n rfl hn (by omega) dL_fills_235 ?_
          refine gWX.top (b := zb Y k (20 + (8 * (n / (zb Y k 1).toNat) + n % (zb Y k 1).toNat))) (rdW n hn) ?_
          refine x_if_lt (tgt := 247) K (by omega) dL_fills_236 (by decide) (fun h236 => ?_) (fun h236 => ?_)
          · refine x_aloadc_4 K dL_fills_247 ?_
            refine x_iload_9 K dL_fills_249 ?_
            refine x_ialdX K hxa n rfl hn (by omega) dL_fills_251 ?_
            refine gWX.top (b := pWf (zb Y k) (20 + (8 * (n / (zb Y k 1).toNat) + n % (zb Y k 1).toNat))) (rdD n hn) ?_
            refine x_if_lt (tgt := 263) K (by omega) dL_fills_252 (by decide) (fun h252 => ?_) (fun h252 => ?_)
            · refine x_iconst K dL_fills_263 ?_
              refine gWX.top (b := zFill (zb Y k) (20 + (8 * (n / (zb Y k 1).toNat) + n % (zb Y k 1).toNat))) (by omega) ?_
              exact gWX.le (by omega) (by omega) (gWX.to rfl rfl kJ)
            · refine x_aloadc_4 K dL_fills_255 ?_
              refine x_iload_9 K dL_fills_257 ?_
              refine x_ialdX K hxa n rfl hn (by omega) dL_fills_259 ?_
              refine gWX.top (b := pWf (zb Y k) (20 + (8 * (n / (zb Y k 1).toNat) + n % (zb Y k 1).toNat))) (rdD n hn) ?_
              refine x_goto (tgt := 264) K dL_fills_260 (by decide) ?_
              exact gWX.le (by omega) (by omega) (gWX.top (b := zFill (zb Y k) (20 + (8 * (n / (zb Y k 1).toNat) + n % (zb Y k 1).toNat))) (by omega) kJ)
          · refine x_aloadc_5 K dL_fills_239 ?_
            refine x_iload_9 K dL_fills_241 ?_
            refine x_ialdX K hxb n rfl hn (by omega) dL_fills_243 ?_
            refine gWX.top (b := zb Y k (20 + (8 * (n / (zb Y k 1).toNat) + n % (zb Y k 1).toNat))) (rdW n hn) ?_
            refine x_goto (tgt := 264) K dL_fills_244 (by decide) ?_
            exact gWX.le (by omega) (by omega) (gWX.top (b := zFill (zb Y k) (20 + (8 * (n / (zb Y k 1).toNat) + n % (zb Y k 1).toNat))) (zFill_keep (by omega) (by omega)).symm kJ)
        · refine x_icmp_eq (tgt := 269) K (by omega) dL_fills_264 (by decide) (fun h264 => ?_) (fun h264 => absurd rfl h264)
          refine x_iinc_9 K dL_fills_269 rfl ?_
          refine x_goto (tgt := 210) K dL_fills_272 (by decide) ?_
          exact gWX.to rfl rfl (ih)
      · refine x_iload_9 K dL_fills_210 ?_
        refine x_aloadc_4 K dL_fills_212 ?_
        refine x_alenX K hxa dL_fills_214 ?_
        refine x_icmp_ge (tgt := 275) K (by omega) dL_fills_215 (by decide) (fun h215 => ?_) (fun h215 => absurd h215 (by omega))
        refine x_aload_0 K dL_fills_275 ?_
        refine x_callV0 K (c6_isWell (gCoY 7 Y (k : Int) 0 0 0) g1.1 g1.2.1) mtX6_isWell miX6_isWell rc0 ⟨by decide, by decide⟩ lkRL_272 ⟨by omega, by omega, by omega⟩ rfl (Nat.le_of_ble_eq_true rfl) dL_fills_276 ?_
        refine gWX.top (b := 1) (gB1_t ⟨congrArg Int32.ofInt g1.2.2.2.1.1.1, congrArg Int32.ofInt g1.2.2.2.1.1.2⟩) ?_
        refine x_if_eq (tgt := 305) K (by omega) dL_fills_279 (by decide) (fun h279 => absurd h279 (by decide)) (fun h279 => ?_)
        obtain ⟨j0, hj0, hPj⟩ := gPu_last P hpm Y
        obtain ⟨σ2, hu, hHi2, hI3⟩ := q_undo (E := E3) i1 hj0 (by rw [hPj]; exact hg)
        rw [hPj] at hI3
        have g2 := gJv_s hI3
        refine x_aload_0 K dL_fills_282 ?_
        refine x_callH1 K hu mtL_undo msL_undo (g_mem 1227 (by decide +kernel)) ⟨by omega, by omega, by omega⟩ rfl (Nat.le_of_ble_eq_true rfl) dL_fills_283 ?_
        refine x_if_lt (tgt := 305) K (by have := (gJv_s i1).2.2.2.2; omega) dL_fills_286 (by decide) (fun h286 => absurd h286 (by omega)) (fun h286 => ?_)
        refine x_aload_0 K dL_fills_289 ?_
        refine x_iload_1 K dL_fills_290 ?_
        refine x_bipush K dL_fills_291 rfl ?_
        refine x_callH3 K (p_of g2.1 hY 6 hk (by omega)) mtL_of msL_of (g_mem 606 (by decide +kernel)) ⟨by omega, by omega, by omega⟩ rfl (Nat.le_of_ble_eq_true rfl) dL_fills_293 ?_
        refine gWX.top (b := zb Y k 5) rfl ?_
        refine x_iload_7 K dL_fills_296 ?_
        refine x_icmpu_ne (tgt := 305) K dL_fills_298 (by decide) (fun h298 => absurd rfl h298) (fun h298 => ?_)
        refine x_iconst K dL_fills_301 ?_
        refine x_goto (tgt := 306) K dL_fills_302 (by decide) ?_
        exact x_zretR K K0 hmm hX hE rfl dL_fills_306 (by omega) (by omega) (Or.inr rfl) (gEqv.rf _) ⟨rfl, _, _, hI3⟩
    · exact absurd q1 (by rw [eob]; split <;> omega)
    · exact absurd q1 (by rw [eob]; split <;> omega)
    · have q2 : zb Y k 2 = 0 := by
        rcases z2 with q | q
        · exact q
        · rw [eob, if_neg (by omega)] at q1; omega
      have g1 := gJv_s i1
      subst q3
      refine x_aload_0 K dL_fills_156 ?_
      refine x_iload_1 K dL_fills_157 ?_
      refine x_iconst K dL_fills_158 ?_
      refine x_callH3 K (p_of g1.1 hY 2 hk (by omega)) mtL_of msL_of (g_mem 606 (by decide +kernel)) ⟨by omega, by omega, by omega⟩ rfl (Nat.le_of_ble_eq_true rfl) dL_fills_159 ?_
      refine gWX.top (b := zb Y k 2) rfl ?_
      refine x_if_ne (tgt := 183) K (by omega) dL_fills_162 (by decide) (fun h162 => absurd q2 h162) (fun h162 => ?_)
      refine x_iload_8 K dL_fills_165 ?_
      refine x_bipush K dL_fills_167 rfl ?_
      refine x_icmp_ne (tgt := 181) K (by omega) dL_fills_169 (by decide) (fun h169 => absurd rfl h169) (fun h169 => ?_)
      refine x_iload_6 K dL_fills_172 ?_
      refine x_if_ne (tgt := 181) K (by omega) dL_fills_174 (by decide) (fun h174 => absurd (pWf_none q2 ((zb Y k 0).toNat * (zb Y k 1).toNat)) h174) (fun h174 => ?_)
      refine x_iconst K dL_fills_177 ?_
      refine x_goto (tgt := 182) K dL_fills_178 (by decide) ?_
      exact x_zretR K K0 hmm hX hE rfl dL_fills_182 (by omega) (by omega) (Or.inr rfl) (gEqv.rf _) ⟨rfl, _, _, i1⟩
