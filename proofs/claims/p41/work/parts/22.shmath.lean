/-! ===== a shelf as 345 numbers: 0 how many scrolls, 1 slips, 2 smudges, 3 mends, 4 fills, then 68 for each scroll ===== -/
def zb (Y : Nat → Int) (n : Nat) : Nat → Int := fun j => Y (5 + 68 * n + j)
def gY (Y : Nat → Int) : Prop := (0 ≤ Y 0 ∧ Y 0 ≤ 5) ∧ ∀ n : Nat, (n : Int) < Y 0 → gZ (zb Y n)
def gSh (σ : gS) (sh : Nat) (Y : Nat → Int) : Prop := (σ.1 1 sh 1 = Y 0 ∧ σ.1 1 sh 2 = Y 1 ∧ σ.1 1 sh 3 = Y 2 ∧ σ.1 1 sh 4 = Y 3 ∧ σ.1 1 sh 5 = Y 4) ∧ ∀ n : Nat, (n : Int) < Y 0 → gScr σ (5 * sh + n) (zb Y n)
def yF (Y : Nat → Int) (k : Nat) (v : Int) : Nat → Int := fun j => if j = k then v else Y j
def ySet (Y : Nat → Int) (n : Nat) (z : Nat → Int) : Nat → Int := fun j => if 5 + 68 * n ≤ j ∧ j < 73 + 68 * n then z (j - (5 + 68 * n)) else Y j
theorem yF_at (Y : Nat → Int) (k : Nat) (v : Int) (j : Nat) : yF Y k v j = if j = k then v else Y j := rfl
theorem ySet_at (Y : Nat → Int) (n : Nat) (z : Nat → Int) (j : Nat) : ySet Y n z j = if 5 + 68 * n ≤ j ∧ j < 73 + 68 * n then z (j - (5 + 68 * n)) else Y j := rfl
theorem ySet_lo (Y : Nat → Int) (n : Nat) (z : Nat → Int) {j : Nat} (h : j < 5) : ySet Y n z j = Y j := if_neg (by omega)
theorem zb_at (Y : Nat → Int) (n j : Nat) : zb Y n j = Y (5 + 68 * n + j) := rfl
theorem zb_F (Y : Nat → Int) {k : Nat} (v : Int) (hk : k < 5) (n : Nat) : zb (yF Y k v) n = zb Y n := funext fun j => by
  rw [zb_at, yF_at, if_neg (by omega)]
  rfl
theorem zb_set (Y : Nat → Int) (n : Nat) (z : Nat → Int) {j : Nat} (hj : j < 68) : zb (ySet Y n z) n j = z j := by
  rw [zb_at, ySet_at, if_pos (by omega), show 5 + 68 * n + j - (5 + 68 * n) = j by omega]
theorem zb_set2 (Y : Nat → Int) {n m : Nat} (z : Nat → Int) (h : m ≠ n) {j : Nat} (hj : j < 68) : zb (ySet Y n z) m j = zb Y m j := by
  rw [zb_at, ySet_at, if_neg (by omega)]
  rfl
theorem gScr_zc {σ : gS} {i : Nat} {z y : Nat → Int} (h : ∀ j, j < 68 → z j = y j) (hs : gScr σ i z) : gScr σ i y := by
  rw [← gPut_self hs, gPut_zc σ i h]
  exact gScr_put σ i y
theorem gScr_ext {σ σ' : gS} {i : Nat} {z : Nat → Int} (h : ∀ a c, 3 ≤ a → a ≤ 7 → σ'.1 a i c = σ.1 a i c) (hs : gScr σ i z) : gScr σ' i z := by
  obtain ⟨e0, e1, e2, e3, e4, e5, es, eb, em, et⟩ := hs
  exact ⟨(h _ _ (by omega) (by omega)).trans e0, (h _ _ (by omega) (by omega)).trans e1, (h _ _ (by omega) (by omega)).trans e2, (h _ _ (by omega) (by omega)).trans e3, (h _ _ (by omega) (by omega)).trans e4, (h _ _ (by omega) (by omega)).trans e5, fun j hj => (h _ _ (by omega) (by omega)).trans (es j hj), fun j hj => (h _ _ (by omega) (by omega)).trans (eb j hj), fun j hj => (h _ _ (by omega) (by omega)).trans (em j hj), fun j hj => (h _ _ (by omega) (by omega)).trans (et j hj)⟩
theorem gPut_off (σ : gS) (i : Nat) (z : Nat → Int) {a b c : Nat} (h : ¬ (b = i ∧ ((a = 3 ∧ 4 ≤ c ∧ c < 10) ∨ (a = 4 ∧ c < 48) ∨ (a = 5 ∧ c < 14) ∨ (a = 6 ∧ c < 14) ∨ (a = 7 ∧ c < 14)))) : (gPut σ i z).1 a b c = σ.1 a b c := by
  by_cases hb : b = i
  · subst hb
    by_cases h3 : a = 3
    · subst h3; rw [gPut_3, if_neg (by omega)]
    by_cases h4 : a = 4
    · subst h4; rw [gPut_4, if_neg (by omega)]
    by_cases h5 : a = 5
    · subst h5; rw [gPut_5, if_neg (by omega)]
    by_cases h6 : a = 6
    · subst h6; rw [gPut_6, if_neg (by omega)]
    by_cases h7 : a = 7
    · subst h7; rw [gPut_7, if_neg (by omega)]
    exact gPut_ok σ b z (by omega)
  · exact gPut_oi σ i z hb
/-- the world with a shelf's fields and its first m scrolls put to Y -/
def gShPm (σ : gS) (sh : Nat) (Y : Nat → Int) (m : Nat) : gS := (fun a b c => if a = 1 ∧ b = sh ∧ 1 ≤ c ∧ c ≤ 5 then Y (c - 1) else if b / 5 = sh ∧ b % 5 < m then (gPut σ b (zb Y (b % 5))).1 a b c else σ.1 a b c, σ.2)
def gShPut (σ : gS) (sh : Nat) (Y : Nat → Int) : gS := gShPm σ sh Y (Y 0).toNat
theorem gShPm_at (σ : gS) (sh : Nat) (Y : Nat → Int) (m a b c : Nat) : (gShPm σ sh Y m).1 a b c = if a = 1 ∧ b = sh ∧ 1 ≤ c ∧ c ≤ 5 then Y (c - 1) else if b / 5 = sh ∧ b % 5 < m then (gPut σ b (zb Y (b % 5))).1 a b c else σ.1 a b c := rfl
theorem gShPm_f (σ : gS) (sh : Nat) (Y : Nat → Int) (m : Nat) {c : Nat} (h : 1 ≤ c ∧ c ≤ 5) : (gShPm σ sh Y m).1 1 sh c = Y (c - 1) := by
  rw [gShPm_at, if_pos ⟨rfl, rfl, h.1, h.2⟩]
/-- cells that a shelf of m scrolls has -/
def gShC (sh m a b c : Nat) : Prop := (a = 1 ∧ b = sh ∧ 1 ≤ c ∧ c ≤ 5) ∨ (b / 5 = sh ∧ b % 5 < m ∧ ((a = 3 ∧ 4 ≤ c ∧ c < 10) ∨ (a = 4 ∧ c < 48) ∨ (a = 5 ∧ c < 14) ∨ (a = 6 ∧ c < 14) ∨ (a = 7 ∧ c < 14)))
theorem gShPm_off (σ : gS) (sh : Nat) (Y : Nat → Int) (m : Nat) {a b c : Nat} (h : ¬ gShC sh m a b c) : (gShPm σ sh Y m).1 a b c = σ.1 a b c := by
  unfold gShC at h
  rw [gShPm_at, if_neg (by omega)]
  split
  · exact gPut_off σ b _ (by omega)
  · rfl
theorem gShPm_s (σ : gS) (sh : Nat) (Y : Nat → Int) {m n : Nat} (hn : n < m) (hm : m ≤ 5) : gScr (gShPm σ sh Y m) (5 * sh + n) (zb Y n) := by
  refine gScr_ext (σ := gPut σ (5 * sh + n) (zb Y n)) (fun a c h3 h7 => ?_) (gScr_put _ _ _)
  rw [gShPm_at, if_neg (by omega), if_pos (by omega), show (5 * sh + n) % 5 = n by omega]
theorem gShPut_sh {σ : gS} {sh : Nat} {Y : Nat → Int} (h : 0 ≤ Y 0 ∧ Y 0 ≤ 5) : gSh (gShPut σ sh Y) sh Y :=
  ⟨⟨gShPm_f σ sh Y _ (c := 1) (by omega), gShPm_f σ sh Y _ (c := 2) (by omega), gShPm_f σ sh Y _ (c := 3) (by omega), gShPm_f σ sh Y _ (c := 4) (by omega), gShPm_f σ sh Y _ (c := 5) (by omega)⟩, fun n hn => gShPm_s σ sh Y (by omega) (by omega)⟩
theorem gSh_ext {σ σ' : gS} {sh : Nat} {Y : Nat → Int} (h0 : Y 0 ≤ 5) (h1 : ∀ c, 1 ≤ c → c ≤ 5 → σ'.1 1 sh c = σ.1 1 sh c) (h2 : ∀ a b c, 3 ≤ a → a ≤ 7 → b / 5 = sh → σ'.1 a b c = σ.1 a b c) (h : gSh σ sh Y) : gSh σ' sh Y := by
  obtain ⟨⟨e1, e2, e3, e4, e5⟩, hs⟩ := h
  exact ⟨⟨(h1 1 (by omega) (by omega)).trans e1, (h1 2 (by omega) (by omega)).trans e2, (h1 3 (by omega) (by omega)).trans e3, (h1 4 (by omega) (by omega)).trans e4, (h1 5 (by omega) (by omega)).trans e5⟩, fun n hn => gScr_ext (fun a c h3 h7 => h2 a _ c h3 h7 (by omega)) (hs n hn)⟩
theorem gShPm_sh2 {σ : gS} {sh sh2 m : Nat} {Y Y2 : Nat → Int} (hne : sh2 ≠ sh) (h0 : Y2 0 ≤ 5) (h : gSh σ sh2 Y2) : gSh (gShPm σ sh Y m) sh2 Y2 :=
  gSh_ext h0 (fun c h1 h2 => gShPm_off σ sh Y m (by unfold gShC; omega)) (fun a b c h3 h7 hb => gShPm_off σ sh Y m (by unfold gShC; omega)) h
theorem gShPm_eq {σ σ' : gS} {sh m : Nat} {Y : Nat → Int} (hm : m ≤ 5) (hf : ∀ c, 1 ≤ c → c ≤ 5 → σ'.1 1 sh c = Y (c - 1)) (hs : ∀ n, n < m → gScr σ' (5 * sh + n) (zb Y n)) (h2 : σ'.2 = σ.2) (ho : ∀ a b c, ¬ gShC sh m a b c → σ'.1 a b c = σ.1 a b c) : σ' = gShPm σ sh Y m := by
  refine gS_ext (fun a b c => ?_) h2
  by_cases q : gShC sh m a b c
  · by_cases q1 : a = 1 ∧ b = sh ∧ 1 ≤ c ∧ c ≤ 5
    · rw [gShPm_at, if_pos q1, q1.1, q1.2.1]
      exact hf c q1.2.2.1 q1.2.2.2
    · rw [gShPm_at, if_neg q1]
      unfold gShC at q
      rw [if_pos (by omega)]
      have hb : b = 5 * sh + b % 5 := by omega
      have e := gPut_self (hs (b % 5) (by omega))
      rw [← hb] at e
      rw [← e]
      have key : ∀ (τ τ' : gS) (i : Nat) (z : Nat → Int), ((a = 3 ∧ 4 ≤ c ∧ c < 10) ∨ (a = 4 ∧ c < 48) ∨ (a = 5 ∧ c < 14) ∨ (a = 6 ∧ c < 14) ∨ (a = 7 ∧ c < 14)) → (gPut τ i z).1 a i c = (gPut τ' i z).1 a i c := by
        intro τ τ' i z hh
        rcases hh with ⟨rfl, h4, h5⟩ | ⟨rfl, h4⟩ | ⟨rfl, h4⟩ | ⟨rfl, h4⟩ | ⟨rfl, h4⟩
        · rw [gPut_3, gPut_3, if_pos ⟨h4, h5⟩, if_pos ⟨h4, h5⟩]
        · rw [gPut_4, gPut_4, if_pos h4, if_pos h4]
        · rw [gPut_5, gPut_5, if_pos h4, if_pos h4]
        · rw [gPut_6, gPut_6, if_pos h4, if_pos h4]
        · rw [gPut_7, gPut_7, if_pos h4, if_pos h4]
      exact key _ _ _ _ (by omega)
  · rw [gShPm_off σ sh Y m q, ho a b c q]
theorem gShPut_eq {σ σ' : gS} {sh : Nat} {Y : Nat → Int} (h0 : 0 ≤ Y 0 ∧ Y 0 ≤ 5) (h : gSh σ' sh Y) (h2 : σ'.2 = σ.2) (ho : ∀ a b c, ¬ gShC sh (Y 0).toNat a b c → σ'.1 a b c = σ.1 a b c) : σ' = gShPut σ sh Y := by
  obtain ⟨⟨e1, e2, e3, e4, e5⟩, hs⟩ := h
  refine gShPm_eq (by omega) (fun c h1 h2 => ?_) (fun n hn => hs n (by omega)) h2 ho
  obtain rfl | rfl | rfl | rfl | rfl : c = 1 ∨ c = 2 ∨ c = 3 ∨ c = 4 ∨ c = 5 := by omega
  · exact e1
  · exact e2
  · exact e3
  · exact e4
  · exact e5
theorem gShPut_self {σ : gS} {sh : Nat} {Y : Nat → Int} (h0 : 0 ≤ Y 0 ∧ Y 0 ≤ 5) (h : gSh σ sh Y) : gShPut σ sh Y = σ := (gShPut_eq h0 h rfl (fun _ _ _ _ => rfl)).symm
theorem gShPm_0 {σ : gS} {sh : Nat} (Y : Nat → Int) : gU (gU (gU (gU (gU σ 1 sh 1 (Y 0)) 1 sh 2 (Y 1)) 1 sh 3 (Y 2)) 1 sh 4 (Y 3)) 1 sh 5 (Y 4) = gShPm σ sh Y 0 := by
  refine gShPm_eq (by omega) (fun c h1 h2 => ?_) (fun n hn => absurd hn (Nat.not_lt_zero n)) rfl (fun a b c h => ?_)
  · obtain rfl | rfl | rfl | rfl | rfl : c = 1 ∨ c = 2 ∨ c = 3 ∨ c = 4 ∨ c = 5 := by omega
    all_goals simp [gU_at]
  · unfold gShC at h
    simp only [gU_at]
    repeat rw [if_neg (by omega)]
theorem gShPm_1 {σ : gS} {sh m : Nat} (Y : Nat → Int) (hm : m < 5) : gPut (gShPm σ sh Y m) (5 * sh + m) (zb Y m) = gShPm σ sh Y (m + 1) := by
  refine gShPm_eq (by omega) (fun c h1 h2 => ?_) (fun n hn => ?_) rfl (fun a b c h => ?_)
  · rw [gPut_ok _ _ _ (by omega), gShPm_f σ sh Y m ⟨h1, h2⟩]
  · by_cases q : n = m
    · subst q; exact gScr_put _ _ _
    · exact gScr_po (gShPm_s σ sh Y (by omega) (by omega)) (by omega)
  · rw [gPut_off _ _ _ (by unfold gShC at h; omega), gShPm_off σ sh Y m (by unfold gShC at h ⊢; omega)]
/-- one field put; one scroll put; one scroll more -/
theorem gSh_F {σ : gS} {sh : Nat} {Y : Nat → Int} (h : gSh σ sh Y) {k : Nat} (h1 : 1 ≤ k) (h4 : k ≤ 4) (v : Int) : gSh (gU σ 1 sh (k + 1) v) sh (yF Y k v) := by
  obtain ⟨⟨e1, e2, e3, e4, e5⟩, hs⟩ := h
  have key : ∀ j, j < 5 → σ.1 1 sh (j + 1) = Y j → (gU σ 1 sh (k + 1) v).1 1 sh (j + 1) = yF Y k v j := fun j hj e => by
    rw [gU_at, yF_at]
    by_cases q : j = k
    · rw [if_pos ⟨rfl, rfl, by omega⟩, if_pos q]
    · rw [if_neg (by omega), if_neg q, e]
  refine ⟨⟨key 0 (by omega) e1, key 1 (by omega) e2, key 2 (by omega) e3, key 3 (by omega) e4, key 4 (by omega) e5⟩, fun n hn => ?_⟩
  rw [zb_F Y v (by omega)]
  exact gScr_ext (fun a c h3 h7 => by rw [gU_at, if_neg (by omega)]) (hs n (by rw [yF_at, if_neg (by omega)] at hn; exact hn))
theorem gSh_S {σ : gS} {sh : Nat} {Y : Nat → Int} (h : gSh σ sh Y) (h0 : Y 0 ≤ 5) {n : Nat} (hn : (n : Int) < Y 0) (z : Nat → Int) : gSh (gPut σ (5 * sh + n) z) sh (ySet Y n z) := by
  obtain ⟨⟨e1, e2, e3, e4, e5⟩, hs⟩ := h
  have key : ∀ j, j < 5 → σ.1 1 sh (j + 1) = Y j → (gPut σ (5 * sh + n) z).1 1 sh (j + 1) = ySet Y n z j := fun j hj e => by
    rw [gPut_ok _ _ _ (by omega), ySet_lo Y n z hj, e]
  refine ⟨⟨key 0 (by omega) e1, key 1 (by omega) e2, key 2 (by omega) e3, key 3 (by omega) e4, key 4 (by omega) e5⟩, fun m hm => ?_⟩
  rw [ySet_lo Y n z (by omega)] at hm
  by_cases q : m = n
  · subst q
    exact gScr_zc (fun j hj => (zb_set Y m z hj).symm) (gScr_put _ _ _)
  · exact gScr_zc (fun j hj => (zb_set2 Y z q hj).symm) (gScr_po (hs m hm) (by omega))
theorem gSh_N {σ : gS} {sh : Nat} {Y : Nat → Int} (h : gSh σ sh Y) {n : Nat} (hn : Y 0 = (n : Int)) (h5 : n < 5) (z : Nat → Int) : gSh (gPut (gU σ 1 sh 1 ((n : Int) + 1)) (5 * sh + n) z) sh (ySet (yF Y 0 ((n : Int) + 1)) n z) := by
  obtain ⟨⟨e1, e2, e3, e4, e5⟩, hs⟩ := h
  have key : ∀ j, j < 5 → σ.1 1 sh (j + 1) = Y j → (gPut (gU σ 1 sh 1 ((n : Int) + 1)) (5 * sh + n) z).1 1 sh (j + 1) = ySet (yF Y 0 ((n : Int) + 1)) n z j := fun j hj e => by
    rw [gPut_ok _ _ _ (by omega), ySet_lo _ n z hj, gU_at, yF_at]
    by_cases q : j = 0
    · rw [if_pos ⟨rfl, rfl, by omega⟩, if_pos q]
    · rw [if_neg (by omega), if_neg q, e]
  refine ⟨⟨key 0 (by omega) e1, key 1 (by omega) e2, key 2 (by omega) e3, key 3 (by omega) e4, key 4 (by omega) e5⟩, fun m hm => ?_⟩
  rw [ySet_lo _ n z (by omega), yF_at, if_pos rfl] at hm
  by_cases q : m = n
  · subst q
    exact gScr_zc (fun j hj => (zb_set _ m z hj).symm) (gScr_put _ _ _)
  · refine gScr_zc (fun j hj => (zb_set2 _ z q hj).symm) ?_
    rw [zb_F Y _ (by omega)]
    exact gScr_po (gScr_ext (fun a c h3 h7 => by rw [gU_at, if_neg (by omega)]) (hs m (by omega))) (by omega)
theorem gY_F {Y : Nat → Int} (h : gY Y) {k : Nat} (h1 : 1 ≤ k) (h4 : k ≤ 4) (v : Int) : gY (yF Y k v) := by
  have e : yF Y k v 0 = Y 0 := by rw [yF_at, if_neg (by omega)]
  refine ⟨by rw [e]; exact h.1, fun n hn => ?_⟩
  rw [zb_F Y v (by omega)]
  exact h.2 n (by rw [e] at hn; exact hn)
theorem gY_S {Y : Nat → Int} (h : gY Y) {n : Nat} {z : Nat → Int} (hz : gZ z) : gY (ySet Y n z) := by
  have e : ySet Y n z 0 = Y 0 := ySet_lo Y n z (by omega)
  refine ⟨by rw [e]; exact h.1, fun m hm => ?_⟩
  rw [e] at hm
  by_cases q : m = n
  · subst q
    exact gZ_cong hz (fun j hj => (zb_set Y m z hj).symm)
  · exact gZ_cong (h.2 m hm) (fun j hj => (zb_set2 Y z q hj).symm)
theorem gY_N {Y : Nat → Int} (h : gY Y) {n : Nat} (hn : Y 0 = (n : Int)) (h5 : n < 5) {z : Nat → Int} (hz : gZ z) : gY (ySet (yF Y 0 ((n : Int) + 1)) n z) := by
  have e : ySet (yF Y 0 ((n : Int) + 1)) n z 0 = (n : Int) + 1 := by rw [ySet_lo _ n z (by omega), yF_at, if_pos rfl]
  refine ⟨by rw [e]; omega, fun m hm => ?_⟩
  rw [e] at hm
  by_cases q : m = n
  · subst q
    exact gZ_cong hz (fun j hj => (zb_set _ m z hj).symm)
  · refine gZ_cong (z := zb Y m) (h.2 m (by omega)) (fun j hj => ?_)
    rw [zb_set2 _ z q hj, zb_F Y _ (by omega)]
/-- what the mends and fills keep -/
theorem zMend_Z {z : Nat → Int} (hz : gZ z) (hr : (s_r1 z : Int) < z 0) (hc : (s_c1 z : Int) < z 1) : gZ (zMend z) := by
  refine gZ_cong (z := fun j => if j = 4 then z 4 + 1 else zset z (s_r1 z) (s_c1 z) ((z (20 + (8 * s_r1 z + s_c1 z)) + s_f z (s_r1 z)) % 10) j) ?_ (fun j _ => rfl)
  have h := gZ_set hz (s := (z (20 + (8 * s_r1 z + s_c1 z)) + s_f z (s_r1 z)) % 10) hr hc (by omega)
  obtain ⟨h0, h1, h2, h3, h4, h5, h6, h7, h8⟩ := h
  exact ⟨h0, h1, h2, h3, fun b hb => by (try dsimp only); rw [if_neg (by omega)]; exact h4 b hb, fun j hj => by (try dsimp only); rw [if_neg (by omega)]; exact h5 j hj, fun a ha b hb q => by (try dsimp only); rw [if_neg (by omega)]; exact h6 a ha b hb q, fun a ha q => by (try dsimp only); rw [if_neg (by omega)]; exact h7 a ha q, fun b hb q => by (try dsimp only); rw [if_neg (by omega)]; exact h8 b hb q⟩
theorem zTell_Z {z : Nat → Int} (hz : gZ z) : gZ (zTell z) := by
  obtain ⟨h0, h1, h2, h3, h4, h5, h6, h7, h8⟩ := hz
  have hz2 : gZ z := ⟨h0, h1, h2, h3, h4, h5, h6, h7, h8⟩
  have e : ∀ j, j < 2 ∨ j = 3 ∨ 20 ≤ j → zTell z j = z j := fun j hj => by unfold zTell; rw [if_neg (by omega), if_neg (by omega)]
  have e6 : ∀ b, b < 14 → zTell z (6 + b) = s_b z b % 10 := fun b hb => by unfold zTell; rw [if_neg (by omega), if_pos (by omega), show 6 + b - 6 = b by omega]
  refine ⟨by rw [e 0 (by omega)]; exact h0, by rw [e 1 (by omega)]; exact h1, Or.inr rfl, by rw [e 3 (by omega)]; exact h3, fun b hb => ?_, fun j hj => by rw [e _ (by omega)]; exact h5 j hj, fun a ha b hb q => ?_, fun a ha q => ?_, fun b hb q => ?_⟩
  · rw [e6 b hb]
    omega
  · rw [e 0 (by omega), e 1 (by omega)] at q
    rw [e _ (by omega)]
    exact h6 a ha b hb q
  · rw [e 0 (by omega)] at q
    rw [e6 a (by omega), s_b_off hz2 (by omega) (Or.inl ⟨ha, q⟩)]
    rfl
  · rw [e 1 (by omega)] at q
    rw [e6 (6 + b) (by omega), s_b_off hz2 (by omega) (Or.inr ⟨by omega, by rw [show 6 + b - 6 = b by omega]; exact q⟩)]
    rfl
theorem zF1_Z {z : Nat → Int} (hz : gZ z) (h : s_bf z ≠ -1) : gZ (zF1 z) := by
  obtain ⟨x, ex, px, _, hx, _⟩ := gFst_yes (p := fun b => decide (s_m z b = 1)) (n := 14) (a := 0) h
  have ex2 : s_bf z = (x : Int) := ex
  unfold zF1
  rw [ex2]
  exact zFp_Z hz (by show x < 14; omega) 48
theorem s_fill_Z : ∀ (n : Nat) {z : Nat → Int}, gZ z → gZ (s_fill n z).2
  | 0, z, hz => hz
  | n + 1, z, hz => by
    unfold s_fill
    by_cases h : s_bf z = -1
    · rw [if_pos h]; exact hz
    · rw [if_neg h]; exact s_fill_Z n (zF1_Z hz h)
theorem s_fill_bd : ∀ (n : Nat) (z : Nat → Int), 0 ≤ (s_fill n z).1 ∧ (s_fill n z).1 ≤ (n : Int)
  | 0, z => by show (0 : Int) ≤ 0 ∧ (0 : Int) ≤ 0; omega
  | n + 1, z => by
    unfold s_fill
    by_cases h : s_bf z = -1
    · rw [if_pos h]; show (0 : Int) ≤ 0 ∧ (0 : Int) ≤ _; omega
    · rw [if_neg h]
      have := s_fill_bd n (zF1 z)
      show 0 ≤ (s_fill n (zF1 z)).1 + 1 ∧ (s_fill n (zF1 z)).1 + 1 ≤ _
      omega
theorem zFill_Z {z : Nat → Int} (hz : gZ z) : gZ (zFill z) := by
  obtain ⟨h0, h1, h2, h3, h4, h5, h6, h7, h8⟩ := s_fill_Z 48 hz
  refine ⟨h0, h1, h2, h3, fun b hb => by unfold zFill; rw [if_neg (by omega)]; exact h4 b hb, fun j hj => by unfold zFill; rw [if_neg (by omega)]; exact h5 j hj, fun a ha b hb q => by unfold zFill; rw [if_neg (by omega)]; exact h6 a ha b hb q, fun a ha q => by unfold zFill; rw [if_neg (by omega)]; exact h7 a ha q, fun b hb q => by unfold zFill; rw [if_neg (by omega)]; exact h8 b hb q⟩
theorem zCopy_Z {z : Nat → Int} (hz : gZ z) {n : Int} (hn : 0 ≤ n ∧ n ≤ 4) : gZ (zCopy z n) := by
  obtain ⟨h0, h1, h2, h3, h4, h5, h6, h7, h8⟩ := hz
  have e : ∀ j, j < 3 ∨ 6 ≤ j → zCopy z n j = z j := fun j hj => by unfold zCopy; rw [if_neg (by omega), if_neg (by omega), if_neg (by omega)]
  refine ⟨by rw [e 0 (by omega)]; exact h0, by rw [e 1 (by omega)]; exact h1, by rw [e 2 (by omega)]; exact h2, by show -1 ≤ n ∧ n ≤ 4; omega, fun b hb => by rw [e _ (by omega)]; exact h4 b hb, fun j hj => by rw [e _ (by omega)]; exact h5 j hj, fun a ha b hb q => ?_, fun a ha q => ?_, fun b hb q => ?_⟩
  · rw [e 0 (by omega), e 1 (by omega)] at q
    rw [e _ (by omega)]
    exact h6 a ha b hb q
  · rw [e 0 (by omega)] at q
    rw [e _ (by omega)]
    exact h7 a ha q
  · rw [e 1 (by omega)] at q
    rw [e _ (by omega)]
    exact h8 b hb q
