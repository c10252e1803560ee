/-! ===== copies of bytes ===== -/
theorem g_copyK {p : Program} {l : Launch} {e : Env} {R : Room} {s : State} {m : MethodId} {args : Array Value} {below : List Frame} {meth : Method} {c : Code} {H : Heap} {locs : List Loc} {cells slots : Nat} {Q : State → Prop} {pc : Nat} {ls : Array Slot} {rest : List Value} {D : va_G} {cl : List vw_C} {tys : List (ClassId × FieldType)} {ws : va_W} {A : Nat → Prop} {a : Nat}
    {cc : ByteArray} (hexec : p.tables.exec = Jvm.exec) (hb : c.code = cc) (hml : c.maxLocals = ls.size) {own : String} {index : Nat} (hown : s.vm.findClass own = some m.cls) (hlink : (Cond.methodLink own index arraycopyName).before args s = true) (hnat : (Cond.native arraycopyName).before args s = true) (hstat : (Cond.static arraycopyName).before args s = true) (hini : (Cond.initialized "java/lang/System").before args s = true)
    (hK : va_K D cl tys s) (hP : va_P D cl ws H) (hD : va_D A ws) (hS : va_S A s.heap H locs) (q1 t1 : Nat) {a0 n0 : Nat} {c1 : ClassId} {n1 : Nat} {f g : Nat → Int32} (hX : va_T .byte a0 n0 (fun j => .int (f j)) A s s.heap) (ha1 : ws[q1]? = some (a, .inl (c1, n1, .inl g))) (ht1 : tys[t1]? = some (c1, .byte))
    {sp dp k : Nat} (hk : sp < 2147483648 ∧ dp < 2147483648 ∧ k < 2147483648) (h4 : sp + k ≤ n0) (h5 : dp + k ≤ n1) (hfit : ∀ i, i < k → fits .byte (.int (f (sp + i))) = true)
    (hframes : 1 ≤ R.frames) (hlocals : (rest.map fun v => v.category).sum + (nativeFrameWords "java/lang/System" "arraycopy" 5 + 11) ≤ R.locals) (hdg : decode cc pc = .ok (.invokestatic index, 3))
    (kk : ∀ (H1 : Heap) (locs1 : List Loc), va_P D cl (ws.set q1 (a, .inl (c1, n1, .inl (va_cpy f g sp dp k)))) H1 → va_D A (ws.set q1 (a, .inl (c1, n1, .inl (va_cpy f g sp dp k)))) → va_S A s.heap H1 locs1 → W p l e R s m args below meth c H1 locs1 cells slots Q (F0 m (pc + 3) ls rest)) : W p l e R s m args below meth c H locs cells slots Q (F0 m pc ls (.int (Int32.ofInt (k : Int)) :: .int (Int32.ofInt (dp : Int)) :: .ref a :: .int (Int32.ofInt (sp : Int)) :: .ref a0 :: rest)) := by
  have hneg : ∀ j : Nat, j < 2147483648 → ¬ Int32.ofInt (j : Int) < 0 := fun j hj => by rw [Int32.ofInt_eq_ofNat]; exact nI_pos hj
  have hto : ∀ j : Nat, j < 2147483648 → (Int32.ofInt (j : Int)).toInt = (j : Int) := fun j hj => g_toI (by omega)
  have hcl : ∀ j : Nat, j < 2147483648 → (Int32.ofInt (j : Int)).toNatClampNeg = j := fun j hj => g_cl hj
  intro T hT X
  obtain ⟨scr, hs1, ⟨hs2, k0, hk0, cm0, hkk0⟩, hs3, hs4, hs5, hs6, hs7⟩ := hX
  have hc0 : H[a0]? = some scr := by rw [hS.2.1 a0 (Array.getElem?_eq_some_iff.mp hs1).1 hs7]; exact hs1
  have hc1 : H[a]? = some (vp_cell c1 (n1, .inl g)) := hP q1 _ ha1
  obtain ⟨-, k1, hk1, cm1, hkk1⟩ := (hK.2 t1 _ ht1).1 n1 (fun j => .int (g j))
  obtain ⟨vm', X', step⟩ := X.arraycopy hexec hown hlink hnat hstat hini (src := a0) (dst := a) (cs := scr) (cd := vp_cell c1 (n1, .inl g)) (srcPos := Int32.ofInt (sp : Int)) (destPos := Int32.ofInt (dp : Int)) (n := Int32.ofInt (k : Int)) (by rw [hT]; exact hc0) (by rw [hT]; exact hc1)
    hs2 (fun _ h => by cases h) hs3 (fun h => by cases h) hk0 hk1 hkk0 hkk1 (by simp [refKind]) (hneg _ hk.1) (hneg _ hk.2.1) (hneg _ hk.2.2)
    (by rw [hto _ hk.1, hto _ hk.2.2]; omega)
    (by rw [hto _ hk.2.1, hto _ hk.2.2]; show ¬ _ > ((arrV c1 n1 (fun j => .int (g j))).slots.size : Int); rw [arrV_size]; omega)
    (fun vm₁ _ i hi => by
      rw [hcl _ hk.2.2] at hi
      have e : scr.slots.getD ((Int32.ofInt (sp : Int)).toNatClampNeg + i) .null = .int (f (sp + i)) := by
        rw [hcl _ hk.1, Array.getD_eq_getD_getElem?, hs6 _ (by omega)]
        rfl
      refine ⟨?_, ?_⟩
      · rw [e]
        exact hfit i hi
      · rw [e]
        exact trivial)
    (g := F0 m pc ls (.int (Int32.ofInt (k : Int)) :: .int (Int32.ofInt (dp : Int)) :: .ref a :: .int (Int32.ofInt (sp : Int)) :: .ref a0 :: rest)) rfl (by rw [hml]) (rest := rest) rfl (by rw [hb]; exact hdg) hframes (by show 2 * 0 + _ + _ ≤ _; omega)
  have e1 : copied scr (vp_cell c1 (n1, .inl g)) (Int32.ofInt (sp : Int)) (Int32.ofInt (dp : Int)) (Int32.ofInt (k : Int)) = vp_cell c1 (n1, .inl (va_cpy f g sp dp k)) := by
    show (vp_cell c1 (n1, .inl g)).storeRun (Int32.ofInt (dp : Int)).toNatClampNeg (scr.stretch (Int32.ofInt (sp : Int)).toNatClampNeg (Int32.ofInt (k : Int)).toNatClampNeg) = _
    rw [hcl _ hk.1, hcl _ hk.2.1, hcl _ hk.2.2]
    exact va_copiedX (fun z => .int z) scr c1 f g hs6 h4
  rw [e1] at X' step
  have hl : a < H.size := (Array.getElem?_eq_some_iff.mp hc1).1
  have hheap : ((T.setVm vm').setCell a (vp_cell c1 (n1, .inl (va_cpy f g sp dp k)))).heap = H.setIfInBounds a (vp_cell c1 (n1, .inl (va_cpy f g sp dp k))) := by rw [← hT]; rfl
  have oq : ∀ q : Nat, q ≠ a → (H.setIfInBounds a (vp_cell c1 (n1, .inl (va_cpy f g sp dp k))))[q]? = H[q]? := fun q hq => by simp [Array.getElem?_setIfInBounds, Ne.symm hq]
  obtain ⟨t, a1, b1⟩ := kk _ _ (hP.set hD ha1 (show (H.setIfInBounds a _)[a]? = some _ by simp [Array.getElem?_setIfInBounds, hl]) oq) (hD.set ha1) ⟨by simp; exact hS.1, fun q g1 g2 => by
      rw [oq q (fun e => g2 (by rw [e]; exact hD.2 q1 _ ha1))]
      exact hS.2.1 q g1 g2, fun q hq => by
      rcases List.mem_append.mp hq with h | h
      · exact hS.2.2 q h
      · obtain ⟨z, -, hz⟩ := List.mem_map.mp h
        rw [← hz]
        exact hD.2 q1 _ ha1⟩ _ hheap X'
  exact ⟨t, step t a1, b1⟩
section GX
variable {X : gM} {E : gE} {M : gMt} {D n cells slots pc : Nat} {L : List (Option gV)} {st : List gV} {σ σ' : gS}
theorem x_copyB (K : gK X E M D n) {idx v0 v i n0 n1 : Nat} {f : Nat → Int} {a b c : Int} (dp k : Nat) (ea : a = 0) (eb : b = (dp : Int)) (ec : c = (k : Int)) (hL : L.length = M.2.2.1) (hb : gBy E σ v0 n0 f) (hx : (v, 32, i, n1) ∈ gX E) (hn : n0 ≤ 60 ∧ n1 ≤ 60) (h4 : k ≤ n0) (h5 : dp + k ≤ n1) (hf : ∀ j, j < n0 → -128 ≤ f j ∧ f j < 128) (hl : Cond.methodLink M.1.cls idx arraycopyName ∈ lw_tbl) (hw : Cond.native arraycopyName ∈ lw_tbl ∧ Cond.static arraycopyName ∈ lw_tbl ∧ Cond.initialized "java/lang/System" ∈ lw_tbl) (hD : 1 ≤ D ∧ gCats st + (nativeFrameWords "java/lang/System" "arraycopy" 5 + 11) ≤ 64 * D) (d : decode M.2.1 pc = .ok (.invokestatic idx, 3)) (kk : gWX X E cells slots (pc + 3) L st (gCb σ i dp k f)) : gWX X E cells slots pc L (iv c :: iv b :: .inl (.ref v) :: iv a :: .inl (.ref v0) :: st) σ := by
  intro H locs ls hP hS hlv
  subst ea; subst eb; subst ec
  have hN := K.2.2.2.2.1
  have hR := K.2.2.2.2.2.2.2.2.2
  have hXo := gN_x hN
  obtain ⟨e, he⟩ := List.getElem?_of_mem hx
  have hneg : ∀ j : Nat, j < 2147483648 → ¬ Int32.ofInt (j : Int) < 0 := fun j hj => by rw [Int32.ofInt_eq_ofNat]; exact nI_pos hj
  have fit : ∀ j, j < n0 → fits .byte (.int (Int32.ofInt (f j))) = true := fun j hj => by
    have h1 := hf j hj
    have h2 := g_byte (x := f j) h1
    have h3 : (Int32.ofInt (f j)).toInt8.toInt32 = Int32.ofInt (f j) := h2
    have h4 := pk_fb (Int32.ofInt (f j))
    rw [h3] at h4
    exact h4
  have z0 : (Int32.ofInt 0).toNatClampNeg = 0 := by decide
  rcases hb with hb | ⟨i0, hx0, hb⟩
  · refine g_copyK K.1 K.2.1 (by rw [K.2.2.1, hlv.1, hL]) K.2.2.2.1 (gN_word hN hl rfl _) (gN_word hN hw.1 rfl _) (gN_word hN hw.2.1 rfl _) (gN_word hN hw.2.2 rfl _) (gN_K hN) hP (gD_ok hXo σ) hS (309 + e) 2 (sp := 0) (dp := dp) (k := k) (gT_at hN hb) (gW_atX he) (gTys_at rfl) ⟨by omega, by omega, by omega⟩ (by omega) h5 (fun j hj => by rw [Nat.zero_add]; exact fit j (by omega)) (by rw [hR]; exact hD.1) (by rw [hR]; exact Nat.le_trans (Nat.add_le_add_right (gCats_le st) _) hD.2) d (fun H1 locs1 hP1 _ hS1 => ?_)
    rw [gW_setX (σ' := gCb σ i dp k f) he gCb_ent (fun e2 y h2 hne => gCb_entX (gX_e he hXo h2 hne)) (gEnt32 (fun c => by
      rw [gCb_at]
      unfold va_cpy
      by_cases q : dp ≤ c ∧ c < dp + k
      · rw [if_pos ⟨rfl, rfl, q.1, q.2⟩, if_pos q, Nat.zero_add]
      · rw [if_neg (fun z => q ⟨z.2.2.1, z.2.2.2⟩), if_neg q]))] at hP1
    exact kk H1 locs1 ls hP1 hS1 hlv
  · obtain ⟨e0, he0⟩ := List.getElem?_of_mem hx0
    refine va_copyi K.1 K.2.1 (by rw [K.2.2.1, hlv.1, hL]) K.2.2.2.1 (gN_word hN hl rfl _) (gN_word hN hw.1 rfl _) (gN_word hN hw.2.1 rfl _) (gN_word hN hw.2.2 rfl _) (gN_K hN) hP (gD_ok hXo σ) hS (309 + e0) (309 + e) 2 2 (gW_atX he0) (gW_atX he) (gTys_at rfl) (gTys_at rfl) rfl (sp := Int32.ofInt 0) (dp := Int32.ofInt (dp : Int)) (n := Int32.ofInt (k : Int)) (by decide) (hneg _ (by omega)) (hneg _ (by omega)) (by rw [z0, g_cl (by omega)]; show 0 + k ≤ n0; omega) (by rw [g_cl (by omega), g_cl (by omega)]; exact h5) (fun j hj => by
      rw [g_cl (by omega)] at hj
      rw [z0, Nat.zero_add]
      show fits .byte (.int (Int32.ofInt (σ.1 32 i0 j))) = true
      rw [hb j (by omega)]
      exact fit j (by omega)) (by rw [hR]; exact hD.1) (by rw [hR]; exact Nat.le_trans (Nat.add_le_add_right (gCats_le st) _) hD.2) d (fun H1 locs1 hP1 _ hS1 => ?_)
    rw [z0, g_cl (by omega), g_cl (by omega), gW_setX (σ' := gCb σ i dp k f) he gCb_ent (fun e2 y h2 hne => gCb_entX (gX_e he hXo h2 hne)) (gEnt32 (fun c => by
      rw [gCb_at]
      unfold va_cpy
      by_cases q : dp ≤ c ∧ c < dp + k
      · rw [if_pos ⟨rfl, rfl, q.1, q.2⟩, if_pos q, Nat.zero_add]
        show _ = Int32.ofInt (σ.1 32 i0 (c - dp))
        rw [hb _ (by omega)]
      · rw [if_neg (fun z => q ⟨z.2.2.1, z.2.2.2⟩), if_neg q]))] at hP1
    exact kk H1 locs1 ls hP1 hS1 hlv
end GX
