/-! ===== what the law reads of a scroll, by its helpers ===== -/
/-- told sums, faults, counts of what is wrong: -13 where it is not sealed -/
def pT (z : Nat → Int) (b : Nat) : Int := if z 2 = 1 then z (6 + b) else -13
def pF (z : Nat → Int) (b : Nat) : Int := if z 2 = 1 then s_f z b else -13
def pWr (z : Nat → Int) : Int := if z 2 = 1 then s_wr z else -13
def pWc (z : Nat → Int) : Int := if z 2 = 1 then s_wc z else -13
def pWm (z : Nat → Int) (k : Nat) : Int := if s_om z k = 0 then 10 * (s_r1 z : Int) + (s_c1 z : Int) else -13
def pTry (z : Nat → Int) : Prop := z 2 = 1 ∧ s_sm z = 0 ∧ s_fw z 0 ≠ -1

section PF
variable {E : gE} {σ : gS} {Y : Nat → Int}
theorem gY_k (hY : gY Y) {k : Nat} (hk : (k : Int) < Y 0) : k < 5 := by have := hY.1; omega
theorem p_of (h : gSh σ 0 Y) (hY : gY Y) {k : Nat} (j : Nat) (hk : (k : Int) < Y 0) (hj : j ≤ 6) : hCt E mL_of hhL_of 13 0 [rf 0 0, iv (k : Int), iv (j : Int)] σ (.inl (some (iv (s_of (zb Y k) j)))) σ := by
  have h5 := gY_k hY hk
  have hz := hY.2 k hk
  have z0 := hz.1
  have z1 := hz.2.1
  exact l_of _ _ _ 0 0 (by omega) (c6_scrollOf Y h hY (k : Int) j (by omega) ⟨by omega, hk⟩ hj)
theorem p_sign (h : gSh σ 0 Y) (hY : gY Y) {k r c : Nat} (hk : (k : Int) < Y 0) (hr : (r : Int) < zb Y k 0) (hc : (c : Int) < zb Y k 1) : hCt E mL_sign hhL_sign 13 0 [rf 0 0, iv (k : Int), iv (r : Int), iv (c : Int)] σ (.inl (some (iv (zb Y k (20 + (8 * r + c)))))) σ := by
  have h5 := gY_k hY hk
  have hz := hY.2 k hk
  have z0 := hz.1
  have z1 := hz.2.1
  exact l_sign _ _ _ _ 0 0 (by omega) (c6_signAt Y h hY (k : Int) (r : Int) (c : Int) (by omega) (by omega) (by omega) ⟨⟨by omega, hk⟩, ⟨by omega, hr⟩, by omega, hc⟩)
theorem p_doubt (h : gSh σ 0 Y) (hY : gY Y) {k r c : Nat} (hk : (k : Int) < Y 0) (hr : (r : Int) < zb Y k 0) (hc : (c : Int) < zb Y k 1) : hCt E mL_doubt hhL_doubt 13 0 [rf 0 0, iv (k : Int), iv (r : Int), iv (c : Int)] σ (.inl (some (iv (gB1 (s_df (zb Y k) r c = true))))) σ := by
  have h5 := gY_k hY hk
  have hz := hY.2 k hk
  have z0 := hz.1
  have z1 := hz.2.1
  exact l_doubt _ _ _ _ (by have := gB1_bd (s_df (zb Y k) r c = true); omega) 0 0 (by omega) (c6_isInDoubt Y h hY (k : Int) (r : Int) (c : Int) (by omega) (by omega) (by omega) ⟨⟨by omega, hk⟩, ⟨by omega, hr⟩, by omega, hc⟩)
theorem p_rowSum (h : gSh σ 0 Y) (hY : gY Y) {k r : Nat} (hk : (k : Int) < Y 0) (hr : (r : Int) < zb Y k 0) : hCt E mL_rowSum hhL_rowSum 13 1 [rf 0 0, iv (k : Int), iv (r : Int)] σ (.inl (some (iv (pT (zb Y k) r)))) σ := by
  have h5 := gY_k hY hk
  have hz := hY.2 k hk
  have z0 := hz.1
  have z1 := hz.2.1
  unfold pT
  rcases hz.2.2.1 with q | q
  · rw [if_neg (by omega)]
    exact l_rowSum_2 _ _ 1 1 (by omega) (c6_rowSum_2 Y h hY (k : Int) (r : Int) (by omega) (by omega) ⟨⟨by omega, hk⟩, by omega, hr⟩ q)
  · rw [if_pos q]
    exact l_rowSum _ _ _ 0 1 (by omega) (c6_rowSum Y h hY (k : Int) (r : Int) (by omega) (by omega) ⟨⟨by omega, hk⟩, by omega, hr⟩ q)
theorem p_columnSum (h : gSh σ 0 Y) (hY : gY Y) {k c : Nat} (hk : (k : Int) < Y 0) (hc : (c : Int) < zb Y k 1) : hCt E mL_columnSum hhL_columnSum 13 1 [rf 0 0, iv (k : Int), iv (c : Int)] σ (.inl (some (iv (pT (zb Y k) (6 + c))))) σ := by
  have h5 := gY_k hY hk
  have hz := hY.2 k hk
  have z0 := hz.1
  have z1 := hz.2.1
  unfold pT
  rcases hz.2.2.1 with q | q
  · rw [if_neg (by omega)]
    exact l_columnSum_2 _ _ 1 1 (by omega) (c6_columnSum_2 Y h hY (k : Int) (c : Int) (by omega) (by omega) ⟨⟨by omega, hk⟩, by omega, hc⟩ q)
  · rw [if_pos q]
    exact l_columnSum _ _ _ 0 1 (by omega) (c6_columnSum Y h hY (k : Int) (c : Int) (by omega) (by omega) ⟨⟨by omega, hk⟩, by omega, hc⟩ q)
theorem p_rowFault (h : gSh σ 0 Y) (hY : gY Y) {k r : Nat} (hk : (k : Int) < Y 0) (hr : (r : Int) < zb Y k 0) : hCt E mL_rowFault hhL_rowFault 13 1 [rf 0 0, iv (k : Int), iv (r : Int)] σ (.inl (some (iv (pF (zb Y k) r)))) σ := by
  have h5 := gY_k hY hk
  have hz := hY.2 k hk
  have z0 := hz.1
  have z1 := hz.2.1
  unfold pF
  rcases hz.2.2.1 with q | q
  · rw [if_neg (by omega)]
    exact l_rowFault_2 _ _ 1 1 (by omega) (c6_rowFault_2 Y h hY (k : Int) (r : Int) (by omega) (by omega) ⟨⟨by omega, hk⟩, by omega, hr⟩ q)
  · rw [if_pos q]
    exact l_rowFault _ _ _ 0 1 (by omega) (c6_rowFault Y h hY (k : Int) (r : Int) (by omega) (by omega) ⟨⟨by omega, hk⟩, by omega, hr⟩ q)
theorem p_columnFault (h : gSh σ 0 Y) (hY : gY Y) {k c : Nat} (hk : (k : Int) < Y 0) (hc : (c : Int) < zb Y k 1) : hCt E mL_columnFault hhL_columnFault 13 1 [rf 0 0, iv (k : Int), iv (c : Int)] σ (.inl (some (iv (pF (zb Y k) (6 + c))))) σ := by
  have h5 := gY_k hY hk
  have hz := hY.2 k hk
  have z0 := hz.1
  have z1 := hz.2.1
  unfold pF
  rcases hz.2.2.1 with q | q
  · rw [if_neg (by omega)]
    exact l_columnFault_2 _ _ 1 1 (by omega) (c6_columnFault_2 Y h hY (k : Int) (c : Int) (by omega) (by omega) ⟨⟨by omega, hk⟩, by omega, hc⟩ q)
  · rw [if_pos q]
    exact l_columnFault _ _ _ 0 1 (by omega) (c6_columnFault Y h hY (k : Int) (c : Int) (by omega) (by omega) ⟨⟨by omega, hk⟩, by omega, hc⟩ q)
theorem p_wrongRows (h : gSh σ 0 Y) (hY : gY Y) {k : Nat} (hk : (k : Int) < Y 0) : hCt E mL_wrongRows hhL_wrongRows 13 1 [rf 0 0, iv (k : Int)] σ (.inl (some (iv (pWr (zb Y k))))) σ := by
  have h5 := gY_k hY hk
  have hz := hY.2 k hk
  have z0 := hz.1
  have z1 := hz.2.1
  unfold pWr
  rcases hz.2.2.1 with q | q
  · rw [if_neg (by omega)]
    exact l_wrongRows_2 _ 1 1 (by omega) (c6_wrongRows_2 Y h hY (k : Int) (by omega) ⟨by omega, hk⟩ q)
  · rw [if_pos q]
    exact l_wrongRows _ _ 0 1 (by omega) (c6_wrongRows Y h hY (k : Int) (by omega) ⟨by omega, hk⟩ q)
theorem p_wrongColumns (h : gSh σ 0 Y) (hY : gY Y) {k : Nat} (hk : (k : Int) < Y 0) : hCt E mL_wrongColumns hhL_wrongColumns 13 1 [rf 0 0, iv (k : Int)] σ (.inl (some (iv (pWc (zb Y k))))) σ := by
  have h5 := gY_k hY hk
  have hz := hY.2 k hk
  have z0 := hz.1
  have z1 := hz.2.1
  unfold pWc
  rcases hz.2.2.1 with q | q
  · rw [if_neg (by omega)]
    exact l_wrongColumns_2 _ 1 1 (by omega) (c6_wrongColumns_2 Y h hY (k : Int) (by omega) ⟨by omega, hk⟩ q)
  · rw [if_pos q]
    exact l_wrongColumns _ _ 0 1 (by omega) (c6_wrongColumns Y h hY (k : Int) (by omega) ⟨by omega, hk⟩ q)
theorem p_doubts (h : gSh σ 0 Y) (hY : gY Y) {k : Nat} (hk : (k : Int) < Y 0) : hCt E mL_doubts hhL_doubts 13 0 [rf 0 0, iv (k : Int)] σ (.inl (some (iv (s_db (zb Y k))))) σ := by
  have h5 := gY_k hY hk
  have hz := hY.2 k hk
  have z0 := hz.1
  have z1 := hz.2.1
  exact l_doubts _ _ 0 0 (by omega) (c6_doubts Y h hY (k : Int) (by omega) ⟨by omega, hk⟩)
theorem p_doubtsAgain (h : gSh σ 0 Y) (hY : gY Y) {k : Nat} (hk : (k : Int) < Y 0) : hCt E mL_doubtsAgain hhL_doubtsAgain 13 0 [rf 0 0, iv (k : Int)] σ (.inl (some (iv (s_dp (zb Y k))))) σ := by
  have h5 := gY_k hY hk
  have hz := hY.2 k hk
  have z0 := hz.1
  have z1 := hz.2.1
  exact l_doubtsAgain _ _ 0 0 (by omega) (c6_doubtsAgain Y h hY (k : Int) (by omega) ⟨by omega, hk⟩)
theorem p_count (h : gSh σ 0 Y) (hY : gY Y) {k a : Nat} (hk : (k : Int) < Y 0) (ha : a ≤ 9) : hCt E mL_count hhL_count 13 0 [rf 0 0, iv (k : Int), iv (a : Int)] σ (.inl (some (iv (s_ho (zb Y k) (a : Int))))) σ := by
  have h5 := gY_k hY hk
  have hz := hY.2 k hk
  have z0 := hz.1
  have z1 := hz.2.1
  exact l_count _ _ _ 0 0 (by omega) (c6_count Y h hY (k : Int) (a : Int) (by omega) (by omega) ⟨by omega, hk⟩ (by omega))
theorem p_wouldMend (h : gSh σ 0 Y) (hY : gY Y) {k : Nat} (hk : (k : Int) < Y 0) : hCt E mL_wouldMend hhL_wouldMend 13 1 [rf 0 0, iv (k : Int)] σ (.inl (some (iv (pWm (zb Y k) k)))) σ := by
  have h5 := gY_k hY hk
  have hz := hY.2 k hk
  have z0 := hz.1
  have z1 := hz.2.1
  unfold pWm
  by_cases q : s_om (zb Y k) k = 0
  · rw [if_pos q]
    exact l_wouldMend _ _ 0 1 (by omega) (c6_wouldMend Y h hY (k : Int) (by omega) ⟨by omega, hk⟩ q)
  · rw [if_neg q]
    exact l_wouldMend_2 _ 1 1 (by omega) (c6_wouldMend_2 Y h hY (k : Int) (by omega) ⟨by omega, hk⟩ q)
/-- mendAgain: what it answers, and the scroll for trying behind it -/
theorem p_mendAgain (h : gSh σ 0 Y) (hY : gY Y) {k : Nat} (hk : (k : Int) < Y 0) : ∃ σ' : gS, (σ' = σ ∨ σ' = gPut σ 55 (zb Y k)) ∧ hCt E mL_mendAgain hhL_mendAgain 13 1 [rf 0 0, iv (k : Int)] σ (.inl (some (iv (if zb Y k 2 = 1 ∧ s_sm (zb Y k) = 0 ∧ s_mb (zb Y k) then 10 * (s_r1 (zb Y k) : Int) + (s_c1 (zb Y k) : Int) else -13)))) σ' := by
  have h5 := gY_k hY hk
  have hz := hY.2 k hk
  have hb := s_sm_bd hz
  rcases hz.2.2.1 with q | q
  · refine ⟨σ, Or.inl rfl, ?_⟩
    rw [if_neg (by omega)]
    exact l_mendAgain_2 _ 1 1 (by omega) (c6_mendAgain_2 Y h hY (k : Int) (by omega) ⟨by omega, hk⟩ q)
  by_cases q2 : s_sm (zb Y k) = 0
  · by_cases q3 : s_fw (zb Y k) 0 = -1
    · refine ⟨σ, Or.inl rfl, ?_⟩
      have hw : s_wr (zb Y k) = 0 := gB1s_none (fun b hb => (s_fw_none.mp q3) b (by omega))
      rw [if_neg (fun z => by have := z.2.2.1; omega)]
      exact l_mendAgain_2 _ 1 1 (by omega) (c6_mendAgain_3 Y h hY (k : Int) (by omega) ⟨by omega, hk⟩ q (Or.inr q3))
    · refine ⟨gPut σ 55 (zb Y k), Or.inr rfl, ?_⟩
      by_cases q4 : s_mb (zb Y k)
      · rw [if_pos ⟨q, q2, q4⟩]
        exact l_mendAgain _ _ 0 1 (by omega) (c6_mendAgain Y h hY (k : Int) (by omega) ⟨by omega, hk⟩ q q2 q3 q4)
      · rw [if_neg (fun z => q4 z.2.2)]
        exact l_mendAgain_2 _ 1 1 (by omega) (c6_mendAgain_4 Y h hY (k : Int) (by omega) ⟨by omega, hk⟩ q q2 q3 q4)
  · refine ⟨σ, Or.inl rfl, ?_⟩
    rw [if_neg (fun z => q2 z.2.1)]
    exact l_mendAgain_2 _ 1 1 (by omega) (c6_mendAgain_3 Y h hY (k : Int) (by omega) ⟨by omega, hk⟩ q (Or.inl (by show 0 < s_sm (zb Y k); omega)))
/-- wouldFill likewise: the scroll filled in stands in the scroll for trying -/
def pWf (z : Nat → Int) (j : Nat) : Int := if z 2 = 1 ∧ z j = -1 ∧ zFill z j ≠ -1 then zFill z j else -13
theorem p_wouldFill (h : gSh σ 0 Y) (hY : gY Y) {k r c : Nat} (hk : (k : Int) < Y 0) (hr : (r : Int) < zb Y k 0) (hc : (c : Int) < zb Y k 1) : ∃ σ' : gS, (σ' = σ ∨ σ' = gPut σ 55 (zFill (zb Y k))) ∧ hCt E mL_wouldFill hhL_wouldFill 13 1 [rf 0 0, iv (k : Int), iv (r : Int), iv (c : Int)] σ (.inl (some (iv (pWf (zb Y k) (20 + (8 * r + c)))))) σ' := by
  have h5 := gY_k hY hk
  have hz := hY.2 k hk
  have z0 := hz.1
  have z1 := hz.2.1
  have hcel : gCel Y (k : Int) (r : Int) (c : Int) := ⟨⟨by omega, hk⟩, ⟨by omega, hr⟩, by omega, hc⟩
  unfold pWf
  rcases hz.2.2.1 with q | q
  · refine ⟨σ, Or.inl rfl, ?_⟩
    rw [if_neg (by omega)]
    exact l_wouldFill_2 _ _ _ 1 1 (by omega) (c6_wouldFill_2 Y h hY (k : Int) (r : Int) (c : Int) (by omega) (by omega) (by omega) hcel q)
  by_cases q2 : zb Y k (20 + (8 * r + c)) = -1
  · by_cases q3 : zFill (zb Y k) (20 + (8 * r + c)) = -1
    · refine ⟨_, Or.inr rfl, ?_⟩
      rw [if_neg (fun z => z.2.2 q3)]
      exact l_wouldFill_2 _ _ _ 1 1 (by omega) (c6_wouldFill_4 Y h hY (k : Int) (r : Int) (c : Int) (by omega) (by omega) (by omega) hcel q q2 q3)
    · refine ⟨_, Or.inr rfl, ?_⟩
      rw [if_pos ⟨q, q2, q3⟩]
      exact l_wouldFill _ _ _ _ 0 1 (by omega) (c6_wouldFill Y h hY (k : Int) (r : Int) (c : Int) (by omega) (by omega) (by omega) hcel q q2 q3)
  · refine ⟨σ, Or.inl rfl, ?_⟩
    rw [if_neg (fun z => q2 z.2.1)]
    exact l_wouldFill_2 _ _ _ 1 1 (by omega) (c6_wouldFill_3 Y h hY (k : Int) (r : Int) (c : Int) (by omega) (by omega) (by omega) hcel q q2)
theorem p_differ (h : gSh σ 0 Y) (hY : gY Y) {k n : Nat} (hk : (k : Int) < Y 0) (hn : (n : Int) < Y 0) : hCt E mL_differ hhL_differ 13 1 [rf 0 0, iv (k : Int), iv (n : Int)] σ (.inl (some (iv (if zb Y k 0 = zb Y n 0 ∧ zb Y k 1 = zb Y n 1 then s_di (zb Y k) (zb Y n) else -12)))) σ := by
  have h5 := gY_k hY hk
  have h6 := gY_k hY hn
  by_cases q : zb Y k 0 = zb Y n 0 ∧ zb Y k 1 = zb Y n 1
  · rw [if_pos q]
    exact l_differ _ _ _ 0 1 (by omega) (c6_differ Y h hY (k : Int) (n : Int) (by omega) (by omega) ⟨by omega, hk⟩ ⟨by omega, hn⟩ q)
  · rw [if_neg q]
    exact l_differ_2 _ _ 1 1 (by omega) (c6_differ_2 Y h hY (k : Int) (n : Int) (by omega) (by omega) ⟨by omega, hk⟩ ⟨by omega, hn⟩ q)
theorem p_ranked (h : gSh σ 0 Y) (hY : gY Y) {p : Nat} (hp : p ≤ 5) : hCt E mL_ranked hhL_ranked 13 1 [rf 0 0, iv (p : Int)] σ (.inl (some (iv (if s_rk Y p = -1 then -13 else s_rk Y p)))) σ := by
  by_cases q : s_rk Y p = -1
  · rw [if_pos q]
    exact l_ranked_1 _ 1 1 (by omega) (c6_ranked_1 Y h hY (p : Int) (by omega) q)
  · rw [if_neg q]
    exact l_ranked _ _ 0 1 (by omega) (c6_ranked Y h hY (p : Int) (by omega) q)
/-- the accounts that the law asks -/
def pA (Y : Nat → Int) (k : Nat) : Int := if k ≤ 5 then s_au Y k else Y (k - 5)
theorem p_account (h : gSh σ 0 Y) (hY : gY Y) (k : Nat) (hk : k ≤ 9) : gCt E mX6_account 12 0 [rf 0 0, iv (k : Int)] σ (.inl (some (iv (pA Y k)))) σ := by
  unfold pA
  by_cases q : k ≤ 5
  · rw [if_pos q]
    exact c6_account_a Y h hY k q
  · rw [if_neg q]
    have e : s_ac σ k = Y (k - 5) := by
      obtain ⟨⟨h1, h2, h3, h4, h5⟩, -⟩ := h
      obtain rfl | rfl | rfl | rfl : k = 6 ∨ k = 7 ∨ k = 8 ∨ k = 9 := by omega
      · exact h2
      · exact h3
      · exact h4
      · exact h5
    rw [← e]
    exact c6_account_b k (by omega)
theorem pA_0 (hY : gY Y) : pA Y 0 = Y 0 := by
  have key : ∀ n : Nat, gSum (fun m => s_sr 0 (zb Y m)) n = (n : Int) := by
    intro n
    induction n with
    | zero => rfl
    | succ n ih =>
      show gSum _ n + 1 = _
      rw [ih]
      omega
  show gSum (fun m => s_sr 0 (zb Y m)) (Y 0).toNat = Y 0
  rw [key]
  have := hY.1
  omega
end PF
