/-! ===== throws of the class's own ===== -/
abbrev gNar : Cond := Jvm.Cond.and given_1 narrow_1
theorem gNr {E : gE} {U : State} {H : Heap} (h : gN E U H) {w : Cond} (hw : w ∈ flatC gNar) : w.before (ga0 E) (gs0 E) = true := flat_of_before _ h.1.2.1 w hw
theorem gZq {E : gE} {U : State} {H : Heap} (h : gN E U H) {n d : String} (hl : Cond.laysStatic Bundle.tN n d ∈ lw_tbl) (hi : Cond.initialized Bundle.tN ∈ lw_tbl) (hr : Cond.isRef (.static Bundle.tN n d) ∈ flatC gNar) : vx_Zq Bundle.tN n d (gA E) U H := by
  have h0 := vx_Zqof (A := gA E) (h.1.1 _ hl) (h.1.1 _ hi) (gNr h hr) (fun a ha => Nat.not_le.mpr ha)
  exact (vx_Zq.moved h.2.1.alike h0).kept (fun a ha _ => h.2.2.2 a ha)
theorem gThU : Cond.laysStatic Bundle.tN "UNASSIGNED_STACK" Bundle.steD ∈ lw_tbl ∧ Cond.laysStatic Bundle.tN "SUPPRESSED_SENTINEL" Bundle.listD ∈ lw_tbl ∧ Cond.initialized Bundle.tN ∈ lw_tbl := ⟨g_mem 68 (by decide +kernel), g_mem 70 (by decide +kernel), g_mem 13 (by decide +kernel)⟩
theorem gThR : Cond.isRef (.static Bundle.tN "UNASSIGNED_STACK" Bundle.steD) ∈ flatC gNar ∧ Cond.isRef (.static Bundle.tN "SUPPRESSED_SENTINEL" Bundle.listD) ∈ flatC gNar := ⟨by decide +kernel, by decide +kernel⟩
theorem gVkR {E : gE} {U : State} {H : Heap} (h : gN E U H) {own tx : String} {k : Nat} (hs : Cond.stringRef own k tx ∈ lw_tbl) (hx : Cond.exactly (.string own k) "java/lang/String" ∈ flatC gNar) : ∃ a, vk_R own k tx a U := by
  obtain ⟨a, c, cell, kk, he, -⟩ := Cond.exactly_spec (gNr h hx)
  exact ⟨a, vk_R.warm h.2.1 (vk_R.of (h.1.1 _ hs) he)⟩
def gThr (own : String) (ik ic : Nat) (cls : String) : Prop := Bundle.fit cls = true ∧ Cond.classLink own ik cls ∈ lw_tbl ∧ Cond.initialized cls ∈ lw_tbl ∧ (∀ w ∈ vx_atS own ic cls ["java/lang/RuntimeException", "java/lang/Exception"], w ∈ lw_tbl ∧ gMv w = true ∧ vx_ot w = true)
def gTxt (own : String) (is : Nat) (tx : String) : Prop := Cond.stringRef own is tx ∈ lw_tbl ∧ Cond.exactly (.string own is) "java/lang/String" ∈ flatC gNar
section GT
variable {X : gM} {E : gE} {M : gMt} {D n cells slots pc : Nat} {L : List (Option gV)} {st : List gV} {σ : gS}
theorem x_throw (K : gK X E M D n) {ik is ic : Nat} {cls tx : String} (ht : gThr M.1.cls ik ic cls) (hx : gTxt M.1.cls is tx) (hE : gEnd X E n (.inr cls) σ) (hL : L.length = M.2.2.1) (hD : 6 ≤ D ∧ gCats st ≤ 16) (hc : cells + 1 ≤ n) (hs : slots + 6 ≤ 6 * n) (d0 : decode M.2.1 pc = .ok (.new ik, 3)) (d3 : decode M.2.1 (pc + 3) = .ok (.dup, 1)) (d4 : decode M.2.1 (pc + 4) = .ok (.ldc is, 2)) (d6 : decode M.2.1 (pc + 6) = .ok (.invokespecial ic, 3)) (d9 : decode M.2.1 (pc + 9) = .ok (.athrow, 1)) : gWX X E cells slots pc L st σ := by
  intro H locs ls hP hS hlv
  have hN := K.2.2.2.2.1
  have hR := K.2.2.2.2.2.2.2.2.2
  obtain ⟨sa, hstr⟩ := gVkR hN hx.1 hx.2
  have hcat := gCats_le (E := E) st
  have hfl : X.2.1.stackTraces = false := by
    rw [K.2.2.2.2.2.2.1]
    unfold Launch.stackTraces
    rw [hN.1.2.2.2.1]
    decide
  have hq : ∀ t : State, X.2.2.2.2.1.vm.Alike t.vm → H.size ≤ t.heap.size → (∀ q : Nat, q < H.size → t.heap[q]? = H[q]?) → gQx E (.inr cls) σ cls X.2.2.2.2.1 t := fun t _ h1 h2 =>
    ⟨rfl, fun k q hk => (hP k q hk).kept (h2 q.1 (hP k q hk).lt), Nat.le_trans hS.1 h1, fun q h3 h4 => by rw [h2 q (Nat.lt_of_lt_of_le h3 hS.1)]; exact hS.2.1 q h3 h4⟩
  unfold gW_
  rw [hE]
  exact vx_throwS (A := gA E) (sa := sa) (names := ["java/lang/RuntimeException", "java/lang/Exception"]) K.1 K.2.1 hfl K.2.2.2.1 ht.1 (by decide +kernel) (gN_any hN ht.2.1 rfl _) (gN_any hN ht.2.2.1 rfl _) hstr (fun w hw => gN_any hN (ht.2.2.2 w hw).1 (ht.2.2.2 w hw).2.1 _)
    (fun w hw => by
      rcases List.mem_cons.mp hw with rfl | hw
      · rfl
      rcases List.mem_cons.mp hw with rfl | hw
      · rfl
      exact (ht.2.2.2 w hw).2.2) (gZq hN gThU.1 gThU.2.2 gThR.1) (gZq hN gThU.2.1 gThU.2.2 gThR.2) hS (by rw [hlv.1, hL, K.2.2.1]) d0 d3 d4 d6 d9 (fun x hx => (K.2.2.2.2.2.2.2.2.1 x hx).elim) (by rw [hR]; show 2 + 3 < D; omega) (by rw [hR]; show _ + (13 * (2 + 1) + 43) ≤ 64 * D; omega) (by rw [hR]; exact hc) (by rw [hR]; exact hs) K.2.2.2.2.2.1 hq hS.2.2 hc hs
theorem x_throww (K : gK X E M D n) {ik is ic : Nat} {cls tx : String} (ht : gThr M.1.cls ik ic cls) (hx : gTxt M.1.cls is tx) (hE : gEnd X E n (.inr cls) σ) (hL : L.length = M.2.2.1) (hD : 6 ≤ D ∧ gCats st ≤ 16) (hc : cells + 1 ≤ n) (hs : slots + 6 ≤ 6 * n) (d0 : decode M.2.1 pc = .ok (.new ik, 3)) (d3 : decode M.2.1 (pc + 3) = .ok (.dup, 1)) (d4 : decode M.2.1 (pc + 4) = .ok (.ldc_w is, 3)) (d6 : decode M.2.1 (pc + 7) = .ok (.invokespecial ic, 3)) (d9 : decode M.2.1 (pc + 10) = .ok (.athrow, 1)) : gWX X E cells slots pc L st σ := by
  intro H locs ls hP hS hlv
  have hN := K.2.2.2.2.1
  have hR := K.2.2.2.2.2.2.2.2.2
  obtain ⟨sa, hstr⟩ := gVkR hN hx.1 hx.2
  have hcat := gCats_le (E := E) st
  have hfl : X.2.1.stackTraces = false := by
    rw [K.2.2.2.2.2.2.1]
    unfold Launch.stackTraces
    rw [hN.1.2.2.2.1]
    decide
  have hq : ∀ t : State, X.2.2.2.2.1.vm.Alike t.vm → H.size ≤ t.heap.size → (∀ q : Nat, q < H.size → t.heap[q]? = H[q]?) → gQx E (.inr cls) σ cls X.2.2.2.2.1 t := fun t _ h1 h2 =>
    ⟨rfl, fun k q hk => (hP k q hk).kept (h2 q.1 (hP k q hk).lt), Nat.le_trans hS.1 h1, fun q h3 h4 => by rw [h2 q (Nat.lt_of_lt_of_le h3 hS.1)]; exact hS.2.1 q h3 h4⟩
  unfold gW_
  rw [hE]
  exact vx_throwSW (A := gA E) (sa := sa) (names := ["java/lang/RuntimeException", "java/lang/Exception"]) K.1 K.2.1 hfl K.2.2.2.1 ht.1 (by decide +kernel) (gN_any hN ht.2.1 rfl _) (gN_any hN ht.2.2.1 rfl _) hstr (fun w hw => gN_any hN (ht.2.2.2 w hw).1 (ht.2.2.2 w hw).2.1 _)
    (fun w hw => by
      rcases List.mem_cons.mp hw with rfl | hw
      · rfl
      rcases List.mem_cons.mp hw with rfl | hw
      · rfl
      exact (ht.2.2.2 w hw).2.2) (gZq hN gThU.1 gThU.2.2 gThR.1) (gZq hN gThU.2.1 gThU.2.2 gThR.2) hS (by rw [hlv.1, hL, K.2.2.1]) d0 d3 d4 d6 d9 (fun x hx => (K.2.2.2.2.2.2.2.2.1 x hx).elim) (by rw [hR]; show 2 + 3 < D; omega) (by rw [hR]; show _ + (13 * (2 + 1) + 43) ≤ 64 * D; omega) (by rw [hR]; exact hc) (by rw [hR]; exact hs) K.2.2.2.2.2.1 hq hS.2.2 hc hs
end GT
theorem gThr_IndexOutOfBoundsException : gThr RX6 228 232 "java/lang/IndexOutOfBoundsException" := ⟨by decide +kernel, g_mem 436 (by decide +kernel), g_mem 16 (by decide +kernel), by decide +kernel⟩
theorem gThr_IllegalStateException : gThr RX6 240 244 "java/lang/IllegalStateException" := ⟨by decide +kernel, g_mem 1239 (by decide +kernel), g_mem 31 (by decide +kernel), by decide +kernel⟩
theorem gThr_ArithmeticException : gThr RX6 304 308 "java/lang/ArithmeticException" := ⟨by decide +kernel, g_mem 790 (by decide +kernel), g_mem 23 (by decide +kernel), by decide +kernel⟩
theorem gThr_UnsupportedOperationException : gThr RX6 370 374 "java/lang/UnsupportedOperationException" := ⟨by decide +kernel, g_mem 453 (by decide +kernel), g_mem 18 (by decide +kernel), by decide +kernel⟩
theorem gThr_IllegalArgumentException : gThr RX6 91 95 "java/lang/IllegalArgumentException" := ⟨by decide +kernel, g_mem 39 (by decide +kernel), g_mem 17 (by decide +kernel), by decide +kernel⟩
theorem gTxt_293 : gTxt RX6 293 "what is not from 0 to 11" := ⟨g_mem 87 (by decide +kernel), by decide +kernel⟩
theorem gTxt_366 : gTxt RX6 366 "no such scroll, row or column" := ⟨g_mem 445 (by decide +kernel), by decide +kernel⟩
theorem gTxt_368 : gTxt RX6 368 "a number is out of range, or an order cannot be carried out" := ⟨g_mem 452 (by decide +kernel), by decide +kernel⟩
theorem gTxt_372 : gTxt RX6 372 "it is refused" := ⟨g_mem 462 (by decide +kernel), by decide +kernel⟩
theorem gTxt_332 : gTxt RX6 332 "no such scroll" := ⟨g_mem 618 (by decide +kernel), by decide +kernel⟩
theorem gTxt_93 : gTxt RX6 93 "what is not from 0 to 6" := ⟨g_mem 620 (by decide +kernel), by decide +kernel⟩
theorem gTxt_277 : gTxt RX6 277 "nothing was refused" := ⟨g_mem 683 (by decide +kernel), by decide +kernel⟩
theorem gTxt_338 : gTxt RX6 338 "no such row" := ⟨g_mem 705 (by decide +kernel), by decide +kernel⟩
theorem gTxt_350 : gTxt RX6 350 "it is not sealed" := ⟨g_mem 709 (by decide +kernel), by decide +kernel⟩
theorem gTxt_348 : gTxt RX6 348 "no such row or column" := ⟨g_mem 729 (by decide +kernel), by decide +kernel⟩
theorem gTxt_343 : gTxt RX6 343 "no such column" := ⟨g_mem 746 (by decide +kernel), by decide +kernel⟩
theorem gTxt_212 : gTxt RX6 212 "the sign is out of range" := ⟨g_mem 780 (by decide +kernel), by decide +kernel⟩
theorem gTxt_306 : gTxt RX6 306 "all are smudged" := ⟨g_mem 799 (by decide +kernel), by decide +kernel⟩
theorem gTxt_163 : gTxt RX6 163 "mend would be refused" := ⟨g_mem 857 (by decide +kernel), by decide +kernel⟩
theorem gTxt_173 : gTxt RX6 173 "a cell is smudged, or nothing is wrong" := ⟨g_mem 873 (by decide +kernel), by decide +kernel⟩
theorem gTxt_182 : gTxt RX6 182 "no cell mends it" := ⟨g_mem 884 (by decide +kernel), by decide +kernel⟩
theorem gTxt_230 : gTxt RX6 230 "no such index" := ⟨g_mem 1188 (by decide +kernel), by decide +kernel⟩
theorem gTxt_190 : gTxt RX6 190 "the cell is not smudged" := ⟨g_mem 1211 (by decide +kernel), by decide +kernel⟩
theorem gTxt_195 : gTxt RX6 195 "the cell would still be smudged" := ⟨g_mem 1213 (by decide +kernel), by decide +kernel⟩
theorem gTxt_316 : gTxt RX6 316 "no change can be undone" := ⟨g_mem 1248 (by decide +kernel), by decide +kernel⟩
theorem gTxt_206 : gTxt RX6 206 "no such place" := ⟨g_mem 1278 (by decide +kernel), by decide +kernel⟩
theorem gTxt_197 : gTxt RX6 197 "they have not as many rows and columns" := ⟨g_mem 1286 (by decide +kernel), by decide +kernel⟩
theorem gTxt_242 : gTxt RX6 242 "the input is full" := ⟨g_mem 1336 (by decide +kernel), by decide +kernel⟩
theorem gTxt_257 : gTxt RX6 257 "the text has an error" := ⟨g_mem 1384 (by decide +kernel), by decide +kernel⟩
