/-! ===== the law ===== -/
abbrev mL_law : gMt := (yL_law, code, 3, ret)
section LW
variable {X : gM} {E : gE} {M : gMt} {D n cells slots pc : Nat} {L : List (Option gV)} {st : List gV} {σ : gS} {R : Option gV → gS → Prop}
theorem gRunSD (K : gK X E M D n) {N : gMt} {d n' idx : Nat} {as : List gV} {H : Heap} {locs : List Loc} {ls : Array Slot} (hc : gCtD E N d n' as R) (hm : gMth N as.length) (hi : Cond.static N.1 ∈ lw_tbl) (hl : gLk M.1.cls idx N.1) (hf : gFit D d n cells slots n') (hL : ls.size = M.2.2.1) (hst : gCats st ≤ 8) (hH : H = X.2.2.2.2.1.heap) (hz : X.2.2.2.2.1.heap.size = gB E) (dd : decode M.2.1 pc = .ok (.invokestatic idx, 3)) :
    gRunR X E H locs cells slots n' pc ls ((as.map (gc E)).reverse ++ st.map (gc E)) (st.map (gc E)) R := by
  have hN := K.2.2.2.2.1
  have hR := K.2.2.2.2.2.2.2.2.2
  have h40 : 8 + (N.2.2.1 + 11) + 64 * d ≤ 64 * D := by have h1 := hm.2.2.2.2; have h2 := hf.1; omega
  unfold gCtD at hc
  rw [← K.2.2.2.2.2.2.1] at hc
  have S : CallFix X.1 X.2.2.2.2.2.1 X.2.2.2.2.2.2.2.2.2.1 M.2.1 M.2.2.1 X.2.2.2.2.1 X.2.2.2.2.2.2.1 [] M.1.cls := ⟨K.1, K.2.1, K.2.2.1, K.2.2.2.1, fun w h => by cases h⟩
  have hp : PreS X.2.2.2.2.1 H (va_Pc (List.map (gc E) as) (fun U => gN E U U.heap ∧ U.heap.size = gB E)) (as.map (gc E)) := ⟨(by
    rintro a U g mk ⟨h1, ⟨h2, h3, h4, h5⟩, h6⟩
    exact ⟨h1, ⟨h2, h3, h4, h5⟩, h6⟩), fun U hU hW => ⟨rfl, by rw [hU, hH]; exact gN_moved hN hW (Nat.le_refl _) (fun _ _ _ => rfl), by rw [hU, hH]; exact hz⟩⟩
  have hW : 2 * (F0 X.2.2.2.2.2.1 pc ls ((as.map (gc E)).reverse ++ st.map (gc E))).monitorRoom + ((st.map (gc E)).map fun v => v.category).sum ≤ 8 := lv_room (Nat.le_trans (gCats_le st) hst)
  have hr : cells + n' ≤ X.2.2.2.1.cells ∧ slots + 6 * n' ≤ X.2.2.2.1.slots := by rw [hR]; exact hf.2
  rcases hl with hl | ⟨host, hl⟩
  · exact vx_runS (As := as.map (gc E)) (rest := st.map (gc E)) S hc ⟨⟨rfl, rfl, by rw [hR]; exact hf.1, by rw [hR]; exact h40, gPay K hm, List.mem_singleton.mpr rfl, gN_word hN hm.1 rfl _, gN_word hN hm.2.1 rfl _, hm.2.2.1, gLen hm, gN_word hN hl rfl _⟩, gN_word hN hi rfl _⟩ hp rfl (by rw [List.length_map]) hL rfl hW dd hr
  · exact vx_runSN (As := as.map (gc E)) (rest := st.map (gc E)) S hc ⟨⟨⟨rfl, rfl, by rw [hR]; exact hf.1, by rw [hR]; exact h40, gPay K hm, List.mem_singleton.mpr rfl⟩, gN_word hN hm.1 rfl _, gN_word hN hm.2.1 rfl _, hm.2.2.1, gLen hm, gN_any hN hl rfl _⟩, gN_word hN hi rfl _, trivial⟩ hp rfl (by rw [List.length_map]) hL rfl hW dd hr
theorem x_callD1 (K : gK X E M D n) {N : gMt} {d n' idx : Nat} {v1 : gV} (hc : gCtD E N d n' [v1] R) (hm : gMth N 1) (hi : Cond.static N.1 ∈ lw_tbl) (hl : gLk M.1.cls idx N.1) (hf : gFit D d n 0 0 n') (hL : L.length = M.2.2.1) (hz : X.2.2.2.2.1.heap.size = gB E) (dd : decode M.2.1 pc = .ok (.invokestatic idx, 3)) {ls : Array Slot} (hlv : lv_has ls L.length (gAsc E 0 L)) (kk : ∀ rv σ', R rv σ' → gWX X E (0 + n') (0 + 6 * n') (pc + 3) L (rv.toList ++ []) σ') : gW_ X X.2.2.2.2.1.heap [] 0 0 (F0 X.2.2.2.2.2.1 pc ls [gc E v1]) :=
  gBackR (L := L) (st := []) (gRunSD (st := []) K (as := [v1]) hc hm hi hl hf (hlv.1.trans hL) (by decide) rfl hz dd) va_S.rf hlv kk
end LW
theorem law_on {X : gM} {E : gE} {σ : gS} {b L9 : Nat} {xs : Nat → Int32} (K : gK X E mL_law 1400 100000) (S : hSc E b L9 xs) (hX : gX E = []) (Y : Nat → Int) {pm : Nat} {P : Nat → Nat → Int} (hI : gJv σ Y pm P) (kn : ∀ (cells slots : Nat) (L : List (Option gV)) (τ : gS), cells ≤ 100000 → slots ≤ 6 * 100000 → gWX X E cells slots 81 L [iv 1] τ) : gWX X E (0 + 1500) (0 + 6 * 1500) 4 [some (.inl (.ref b)), none, none] [rf 0 0] σ := by
  have g1 := gJv_s hI
  have hY0 := g1.2.1.1
  refine x_astore_1 K dL_law_4 rfl ?_
  refine x_aload_1 K dL_law_5 ?_
  refine x_ifnull K dL_law_6 ?_
  refine x_aload_1 K dL_law_9 ?_
  refine x_callS1 K (c_accounts Y g1.1 g1.2.1 g1.2.2.2.1) mtL_accounts msL_accounts lkRL_174 ⟨by omega, by omega, by omega⟩ rfl (Nat.le_of_ble_eq_true rfl) dL_law_10 ?_
  refine x_if_ne (tgt := 18) K (by omega) dL_law_13 (by decide) (fun h13 => ?_) (fun h13 => absurd h13 (by decide))
  refine x_iconst K dL_law_18 ?_
  refine x_istore_2 K dL_law_19 rfl ?_
  refine gLp (P := fun k : Nat => ∀ (τ : gS) (pm : Nat) (P : Nat → Nat → Int), (gJv τ Y pm P) → gWX X E (1500 + 3000 * k) (6 * (1500 + 3000 * k)) 20 [some (.inl (.ref b)), some (rf 0 0), some (iv (k : Int))] [] (τ)) ((Y 0).toNat) (fun k0 => ?_) (fun k hk ih => ?_) ?_
  · refine gWX.le (c' := 1500 + 3000 * 0) (s' := 6 * (1500 + 3000 * 0)) (by omega) (by omega) ?_
    exact gWX.to rfl rfl (k0 σ pm P hI)
  · intro τ pm P hτ
    have s1 := gJv_s hτ
    have hk9 : (k : Int) < Y 0 := by omega
    refine x_iload_2 K dL_law_20 ?_
    refine x_aload_1 K dL_law_21 ?_
    refine x_iconst K dL_law_22 ?_
    refine x_callV1 K (p_account s1.1 s1.2.1 0 (by omega)) mtX6_account miX6_account rc0 ⟨by decide, by decide⟩ lkRL_150 ⟨by omega, by omega, by omega⟩ rfl (Nat.le_of_ble_eq_true rfl) dL_law_23 ?_
    refine gWX.top (b := Y 0) (pA_0 g1.2.1) ?_
    refine x_icmp_ge (tgt := 61) K (by omega) dL_law_26 (by decide) (fun h26 => absurd h26 (by omega)) (fun h26 => ?_)
    refine x_aload_1 K dL_law_29 ?_
    refine x_iload_2 K dL_law_30 ?_
    refine x_callR2 K (c_sums Y hX hτ hk9) mtL_sums msL_sums lkRL_178 ⟨by omega, by omega, by omega⟩ rfl (Nat.le_of_ble_eq_true rfl) dL_law_31 (fun rv1 τ1 hr1 => ?_)
    obtain ⟨rfl, hs1⟩ := hr1
    have hτ1 : gJv τ1 Y pm P := by
      rcases hs1 with rfl | rfl
      · exact hτ
      · exact gJv_55 _ hτ
    refine x_if_eq (tgt := 53) K (by omega) dL_law_34 (by decide) (fun h34 => absurd h34 (by decide)) (fun h34 => ?_)
    refine x_aload_1 K dL_law_37 ?_
    refine x_iload_2 K dL_law_38 ?_
    refine x_callR2 K (c_told Y hX hτ1 hk9) mtL_told msL_told lkRL_182 ⟨by omega, by omega, by omega⟩ rfl (Nat.le_of_ble_eq_true rfl) dL_law_39 (fun rv2 τ2 hr2 => ?_)
    obtain ⟨rfl, hτ2⟩ := hr2
    refine x_if_eq (tgt := 53) K (by omega) dL_law_42 (by decide) (fun h42 => absurd h42 (by decide)) (fun h42 => ?_)
    refine x_aload_1 K dL_law_45 ?_
    refine x_iload_2 K dL_law_46 ?_
    refine x_callR2 K (c_fills Y hX hτ2 hk9) mtL_fills msL_fills lkRL_185 ⟨by omega, by omega, by omega⟩ rfl (Nat.le_of_ble_eq_true rfl) dL_law_47 (fun rv3 τ3 hr3 => ?_)
    obtain ⟨rfl, pm3, P3, hτ3⟩ := hr3
    refine x_if_ne (tgt := 55) K (by omega) dL_law_50 (by decide) (fun h50 => ?_) (fun h50 => absurd h50 (by decide))
    refine x_iinc_2 K dL_law_55 rfl ?_
    refine x_goto (tgt := 20) K dL_law_58 (by decide) ?_
    exact gWX.le (by omega) (by omega) (gWX.to rfl rfl (ih τ3 pm3 P3 hτ3))
  · intro τ pm P hτ
    have s1 := gJv_s hτ
    refine x_iload_2 K dL_law_20 ?_
    refine x_aload_1 K dL_law_21 ?_
    refine x_iconst K dL_law_22 ?_
    refine x_callV1 K (p_account s1.1 s1.2.1 0 (by omega)) mtX6_account miX6_account rc0 ⟨by decide, by decide⟩ lkRL_150 ⟨by omega, by omega, by omega⟩ rfl (Nat.le_of_ble_eq_true rfl) dL_law_23 ?_
    refine gWX.top (b := Y 0) (pA_0 g1.2.1) ?_
    refine x_icmp_ge (tgt := 61) K (by omega) dL_law_26 (by decide) (fun h26 => ?_) (fun h26 => absurd h26 (by omega))
    refine x_aload_1 K dL_law_61 ?_
    refine x_callS1 K (c_ranks Y s1.1 s1.2.1) mtL_ranks msL_ranks lkRL_188 ⟨by omega, by omega, by omega⟩ rfl (Nat.le_of_ble_eq_true rfl) dL_law_62 ?_
    refine x_if_eq (tgt := 80) K (by omega) dL_law_65 (by decide) (fun h65 => absurd h65 (by decide)) (fun h65 => ?_)
    refine x_aloadc_0 K dL_law_68 ?_
    refine x_aload_1 K dL_law_69 ?_
    refine x_callR2 K (c_undone Y hX S hτ) mtL_undone msL_undone lkRL_191 ⟨by omega, by omega, by omega⟩ rfl (Nat.le_of_ble_eq_true rfl) dL_law_70 (fun rv4 τ4 hr4 => ?_)
    subst hr4
    refine x_if_eq (tgt := 80) K (by omega) dL_law_73 (by decide) (fun h73 => absurd h73 (by decide)) (fun h73 => ?_)
    refine x_iconst K dL_law_76 ?_
    refine x_goto (tgt := 81) K dL_law_77 (by decide) ?_
    exact kn _ _ _ _ (by omega) (by omega)
/-! THE CLAIM OUT OF ONE WALK OF THE LAW'S BODY. Your part is whole_start (and what it stands on); all else here is the same for every law, but numbers. -/
def R_law : String := "ScrollChecksLaw"
def lw_P (b : Addr) (xs : List Int32) (args : Array Value) (s : State) : Prop := args = #[.ref b] ∧ s.IntsAt b xs ∧ xs.length ≤ 260 ∧ (Jvm.Cond.and given_1 narrow_1).before args s = true
/-- what a walk over the start with the record d0 says of its end, said of the start itself -/
theorem lw_closed {s t : State} {o : Outcome} {d0 : Drawn} {L : List Loc} {k n : Nat} (hd0 : s.drawn.sameBut d0 lw_cs) (hv : ∃ v, o = .returned v) (hW : (s.setDrawn d0).WarmedH t.vm) (hs : (s.setDrawn d0).sameButNew ({ t with vm := s.vm } : State) L k n) : State.butDraws s t lw_cs (fun t1 => Framed s o t1 L k n) := by
  have h2 : t.drawn = d0 := congrArg State.drawn hs.1
  refine ⟨⟨hv, hW, State.sameButNew.setDrawn hs s.drawn⟩, ?_, by decide⟩
  rw [h2]
  exact hd0
def lw_Q (_ : Array Value) (s : State) (o : Outcome) (t : State) : Prop := o = .returned (some (.int 1)) ∧ State.butDraws s t lw_cs (fun t1 => Framed s o t1 [] 814347 6650472)
def lw_Z (below : List Frame) (a : Array Value) (s : State) : State → Prop := fun t => ∃ o, t.status = .running ∧ Ended t below o ∧ lw_Q a s o t
/-- the law's own end, with 1 on the stack, nothing written that was there before, its room as the claim has it; d0: the record of draws at this point (at the entry s.drawn: begin with 'refine W.base ?_' and 'have hd0 := Drawn.sameBut.refl s.drawn lw_cs') -/
theorem lw_ret {p : Program} {l : Launch} {e : Env} {s : State} {m : MethodId} {below : List Frame} {meth : Method} {c : Code} {b : Nat} {d0 : Drawn} (hd0 : s.drawn.sameBut d0 lw_cs) (hx : p.tables.exec = Jvm.exec) (hb : c.code = code) (hr : meth.sig.returnType = ret) (hlocks : meth.locks = false) {pc : Nat} {H : Heap} {ls : Array Slot} (hdg : decode code pc = .ok (.ireturn, 1)) : W p l e room_1 (s.setDrawn d0) m #[Value.ref b] below meth c H [] 814347 6650472 (lw_Z below #[Value.ref b] s) (F0 m pc ls [.int 1]) := by
  intro T hT X
  obtain ⟨fs, hret, hrun, hended, hW, hframe⟩ := X.leave (v := some (.int 1)) (hlocks := hlocks) (fun h => by rw [hr] at h; cases h)
  have hmeth' : T.vm.method? m = some meth := X.method'
  refine ⟨T.setFrames fs, ?_, .returned (some (.int 1)), hrun, hended, rfl, lw_closed hd0 ⟨_, rfl⟩ hW hframe⟩
  jvm_step X.here [X.here.top, hx, hb, hdg, hmeth', hr, ret, narrow_b1]
  (try refine ⟨rfl, ?_⟩); (try refine ⟨rfl, ?_⟩)
  first | (intro acts; rw [hret _ acts rfl rfl rfl]) | rw [hret _ _ rfl rfl rfl]
  exact Steps.refl _
/-- what holds at the law's entry: the machine, the code, the tables' words (any of lw_tbl by 'hts w (by decide +kernel)'), the script of L ints xs at the cell b, what the Statement gives of the start (any of its parts by flat_of_before) -/
def lw_At (p : Program) (s : State) (m : MethodId) (meth : Method) (c : Code) (b L : Nat) (xs : Nat → Int32) : Prop :=
  p.tables.exec = Jvm.exec ∧ c.code = code ∧ meth.sig.returnType = ret ∧ c.maxLocals = 3 ∧ s.vm.findClass R_law = some m.cls ∧ (∀ w ∈ lw_tbl, w.before #[Value.ref b] s = true) ∧ va_X b L xs s s.heap ∧ b < s.heap.size ∧ meth.locks = false ∧ (Jvm.Cond.and given_1 narrow_1).before #[Value.ref b] s = true ∧ ∀ z ∈ c.exceptionTable.toList, False
theorem lw_retR {R : Room} {p : Program} {l : Launch} {e : Env} {s : State} {m : MethodId} {below : List Frame} {meth : Method} {c : Code} {b : Nat} {d0 : Drawn} (hd0 : s.drawn.sameBut d0 lw_cs) (hx : p.tables.exec = Jvm.exec) (hb : c.code = code) (hr : meth.sig.returnType = ret) (hlocks : meth.locks = false) {pc : Nat} {H : Heap} {ls : Array Slot} (hdg : decode code pc = .ok (.ireturn, 1)) : W p l e R (s.setDrawn d0) m #[Value.ref b] below meth c H [] 814347 6650472 (lw_Z below #[Value.ref b] s) (F0 m pc ls [.int 1]) := by
  intro T hT X
  obtain ⟨fs, hret, hrun, hended, hW, hframe⟩ := X.leave (v := some (.int 1)) (hlocks := hlocks) (fun h => by rw [hr] at h; cases h)
  have hmeth' : T.vm.method? m = some meth := X.method'
  refine ⟨T.setFrames fs, ?_, .returned (some (.int 1)), hrun, hended, rfl, lw_closed hd0 ⟨_, rfl⟩ hW hframe⟩
  jvm_step X.here [X.here.top, hx, hb, hdg, hmeth', hr, ret, narrow_b1]
  (try refine ⟨rfl, ?_⟩); (try refine ⟨rfl, ?_⟩)
  first | (intro acts; rw [hret _ acts rfl rfl rfl]) | rw [hret _ _ rfl rfl rfl]
  exact Steps.refl _
theorem W_room {p : Program} {l : Launch} {e : Env} {R R' : Room} {s : State} {m : MethodId} {args : Array Value} {below : List Frame} {meth : Method} {c : Code} {H : Heap} {locs : List Loc} {cells slots : Nat} {Q : State → Prop} {g : JFrame} (h1 : R'.frames ≤ R.frames) (h2 : R'.cells ≤ R.cells) (h3 : R'.slots ≤ R.slots) (h4 : R'.locals ≤ R.locals) (k : W p l e R' s m args below meth c H locs cells slots Q g) : W p l e R s m args below meth c H locs cells slots Q g := by
  intro T hT X
  have h := X.room
  have hr : s.hasRoom e.platform R' = true := by
    simp only [State.hasRoom, Bool.and_eq_true, decide_eq_true_eq] at h ⊢
    obtain ⟨⟨⟨⟨a, b1, b2, b3, b4, b5⟩, c0⟩, d⟩, e0⟩ := h
    exact ⟨⟨⟨⟨by omega, by omega, by omega, by omega, by omega, b5⟩, by omega⟩, by omega⟩, e0⟩
  exact k T hT ⟨X.admits, X.cas, X.clock, X.frames, hr, X.hears, X.method, X.code, X.here, X.tail, X.warmed, X.limits, X.bytes, X.same⟩
theorem law_arr {a : Array Value} {s : State} {ty : FieldType} (hp : ∀ C, ty ≠ .object C) (h : (Cond.arrayClass ty).before a s = true) : ∃ cA : ClassId, ArrOfT s cA ty ∧ va_RA s cA ty := by
  obtain ⟨cA, kA, comp, h1, h2, h3⟩ := Cond.arrayClass_spec h
  refine ⟨cA, fun n z => ⟨fun k h => (by cases h), kA, h2, comp, h3⟩, ?_⟩
  cases ty with
  | object C => exact absurd rfl (hp C)
  | _ => exact h1
theorem law_arrO {a : Array Value} {s : State} {C : String} (h : (Cond.arrayOver (.object C)).before a s = true) : ∃ cA : ClassId, ArrOfT s cA (.object C) ∧ va_RA s cA (.object C) := by
  obtain ⟨comp, cA, kA, h1, -, h2, h3, h4⟩ := Cond.arrayOver_spec h
  exact ⟨cA, fun n z => ⟨fun k h => (by cases h), kA, h2, comp, h3⟩, kA, comp, h2, h3, h1, h4⟩
theorem law_cls {a : Array Value} {s : State} (hts : ∀ w ∈ lw_tbl, w.before a s = true) (ci : Nat) : ∃ d : ClassId × (Nat → Nat), ∀ q : vw_C, gCl[ci]? = some q → u_Kn s q.1 q.2.1 q.2.2 d.1 d.2 := by
  have key : ∀ q : vw_C, gCl[ci]? = some q → Cond.instantiable q.1 q.2.2 ∈ lw_tbl → ∃ d : ClassId × (Nat → Nat), ∀ q : vw_C, gCl[ci]? = some q → u_Kn s q.1 q.2.1 q.2.2 d.1 d.2 := fun q hq hi => by
    obtain ⟨cC, iS, hk⟩ := u_known (ws := lw_tbl) hts (fun w hw => ((gCl_ok hq).1 w hw).1) (hts _ hi)
    refine ⟨(cC, iS), fun q2 hq2 => ?_⟩
    cases Option.some.inj (hq.symm.trans hq2)
    exact hk
  match ci with
  | 0 => exact key _ rfl (g_mem 240 (by decide +kernel))
  | 1 => exact key _ rfl (g_mem 259 (by decide +kernel))
  | 2 => exact key _ rfl (g_mem 169 (by decide +kernel))
  | 3 => exact key _ rfl (g_mem 162 (by decide +kernel))
  | 4 => exact key _ rfl (g_mem 156 (by decide +kernel))
  | 5 => exact key _ rfl (g_mem 274 (by decide +kernel))
  | 6 => exact key _ rfl (g_mem 586 (by decide +kernel))
  | n + 7 => exact ⟨(0, fun _ => 0), fun q h => by simp [gCl] at h⟩
theorem law_ty {a : Array Value} {s : State} (hts : ∀ w ∈ lw_tbl, w.before a s = true) (t : Nat) : ∃ cA : ClassId, ∀ ty, gTy[t]? = some ty → ArrOfT s cA ty ∧ va_RA s cA ty := by
  have key : ∀ ty0, gTy[t]? = some ty0 → (∃ cA : ClassId, ArrOfT s cA ty0 ∧ va_RA s cA ty0) → ∃ cA : ClassId, ∀ ty, gTy[t]? = some ty → ArrOfT s cA ty ∧ va_RA s cA ty := fun ty0 h0 h => by
    obtain ⟨cA, h1⟩ := h
    refine ⟨cA, fun ty h2 => ?_⟩
    cases Option.some.inj (h0.symm.trans h2)
    exact h1
  match t with
  | 0 => exact key _ rfl (law_arr (fun C h => by cases h) (hts _ (g_mem 215 (by decide +kernel))))
  | 1 => exact key _ rfl (law_arr (fun C h => by cases h) (hts _ (g_mem 272 (by decide +kernel))))
  | 2 => exact key _ rfl (law_arr (fun C h => by cases h) (hts _ (g_mem 113 (by decide +kernel))))
  | 3 => exact key _ rfl (law_arrO (hts _ (g_mem 168 (by decide +kernel))))
  | 4 => exact key _ rfl (law_arrO (hts _ (g_mem 246 (by decide +kernel))))
  | 5 => exact key _ rfl (law_arr (fun C h => by cases h) (hts _ (g_mem 1398 (by decide +kernel))))
  | n + 6 => exact ⟨0, fun ty h => by simp [gTy] at h⟩
/-- the launch's own numbers -/
theorem law_E {b : Nat} {s : State} {l : Launch} (hts : ∀ w ∈ lw_tbl, w.before #[Value.ref b] s = true) : ∃ E : gE, gL E = l ∧ gs0 E = s ∧ ga0 E = #[Value.ref b] ∧ gX E = [] ∧ va_K (gD E) gCl (gTys E) s := by
  refine ⟨(l, s, #[Value.ref b], (fun ci => (Classical.choose (law_cls hts ci)).1, fun ci => (Classical.choose (law_cls hts ci)).2), fun t => Classical.choose (law_ty hts t), []), rfl, rfl, rfl, rfl, fun ci q hq => Classical.choose_spec (law_cls hts ci) q hq, fun k q hk => ?_⟩
  rw [gTys, List.getElem?_mapIdx] at hk
  cases ht : gTy[k]? with
  | none => rw [ht] at hk; cases hk
  | some ty =>
    rw [ht] at hk
    cases Option.some.inj hk
    exact Classical.choose_spec (law_ty hts k) ty ht
theorem whole_start {p : Program} {e : Env} {s : State} {m : MethodId} {below : List Frame} {meth : Method} {c : Code} (l : Launch) (hflags : l.flags = flags0) {b L : Nat} {xs : Nat → Int32} (hL : L ≤ 260) (C0 : lw_At p s m meth c b L xs) : W p l e room_1 s m #[Value.ref b] below meth c s.heap [] 0 0 (lw_Z below #[Value.ref b] s) (entryFrame m ([Value.ref b] : List Value).toArray 3) := by
  obtain ⟨hx, hb, hr, hml, hown, hts, hXX, hbl, hlocks, hgv, htb⟩ := C0
  obtain ⟨E, e1, e2, e3, e4, hK⟩ := law_E (l := l) hts
  have eB : gB E = s.heap.size := congrArg (fun u : State => u.heap.size) e2
  refine W_room (R' := gRm 1400 100000) (by decide) (by decide) (by decide) (by decide) ?_
  have hok : gXok E := ⟨fun x hx => by rw [e4] at hx; exact absurd hx List.not_mem_nil, fun i j x y hi => by rw [e4] at hi; cases hi⟩
  have hE0 : gE0 E := ⟨by rw [e2, e3]; exact hts, by rw [e2, e3]; exact hgv, by rw [e2]; exact hK, by rw [e1]; exact hflags, hok⟩
  have hN : gN E s s.heap := ⟨hE0, by rw [e2]; exact State.WarmedH.refl s, Nat.le_of_eq eB, fun q _ => by rw [e2]⟩
  have K : gK (p, l, e, gRm 1400 100000, s, m, #[Value.ref b], below, meth, c, lw_Z below #[Value.ref b] s) E mL_law 1400 100000 := ⟨hx, hb, hml, hown, hN, hlocks, e1.symm, hr, htb, rfl⟩
  have S : hSc E b L xs := ⟨by rw [e2]; exact hXX, by rw [eB]; exact hbl, hL⟩
  have hd0 := Drawn.sameBut.refl s.drawn lw_cs
  rw [lg_entry_eq]
  have h1' : ∀ v ∈ ([.inl (.ref b)] : List gV), gC1 (some v) = true := by
    intro v hv
    rw [List.mem_singleton] at hv
    subst hv
    rfl
  have hl := lv_entry (([.inl (.ref b)] : List gV).map (gc E)) (n := 3) (Nat.le_trans (Nat.le_of_eq (gSl (E := E) [.inl (.ref b)] h1')) (Nat.le_of_ble_eq_true rfl))
  have h9 := gEntry (E := E) [.inl (.ref b)] 0 2 h1'
  have h10 : ([.inl (.ref b)] : List gV).map some ++ List.replicate 2 none = [some (.inl (.ref b)), none, none] := rfl
  rw [h10] at h9
  rw [← h9] at hl
  have hlv : lv_has (lg_sl (List.map (gc E) [Sum.inl (Value.ref b)]) ++ List.replicate (3 - (lg_sl (List.map (gc E) [Sum.inl (Value.ref b)])).length) Slot.unset).toArray ([some (.inl (.ref b)), none, none] : List (Option gV)).length (gAsc E 0 [some (.inl (.ref b)), none, none]) := hl
  refine lv_aload_n hx hb dL_law_0 rfl (gLd (i := 0) hlv rfl) ?_
  refine x_callD1 (L := [some (.inl (.ref b)), none, none]) (v1 := .inl (.ref b)) K (c_drawn S e4) mtL_drawn msL_drawn lkRL_170 ⟨by decide, by decide, by decide⟩ rfl eB.symm dL_law_1 hlv (fun rv σ' hR => ?_)
  obtain ⟨rfl, Y, pm, P, hI, -⟩ := hR
  refine law_on K S e4 Y hI (fun cells slots L τ hc hs => ?_)
  intro H locs ls hP hS hl
  show W _ _ _ _ _ _ _ _ _ _ _ _ _ _ _ _
  refine va_forget (fun q hq => by have h9 : gB E ≤ q.base := hS.2.2 q hq; rw [eB] at h9; exact h9) ?_
  refine W.widen (show cells ≤ 814347 by omega) (show slots ≤ 6650472 by omega) ?_
  exact lw_retR hd0 hx hb hr hlocks dL_law_81
set_option maxHeartbeats 4000000 in
theorem lw_walk (l : Launch) (hflags : l.flags = flags0) (b : Addr) (xs : List Int32) : MetFree l x (headSpec (Jvm.Cond.code x code maxLocals ret :: tables_1) room_1) (lw_P b xs) (fun _ _ _ _ _ => True) lw_Q := by
  refine MetFree.of_bodyS (code := code) (maxLocals := maxLocals) (ret := ret) (by decide) ?_ ?_
  · intro args s m h hn
    obtain ⟨meth, c, h1, h2, h3, h4, h5, h6, -, -⟩ := Cond.code_spec hn (atoms_spec (ws := Jvm.Cond.code x code maxLocals ret :: tables_1) h _ List.mem_cons_self)
    exact ⟨meth, c, h1, h2, h3, h4, h5, h6⟩
  · intro p e s m args below meth c s₁ B hml0 hP _
    obtain ⟨rfl, hx, hbd, hgv⟩ := hP
    obtain ⟨scr, harrAt, hlist, hof, hsmall⟩ := hx
    obtain ⟨hcb, hkn, -, -⟩ := State.arrayAt?_spec harrAt
    have htb : ∀ z ∈ c.exceptionTable.toList, False := by
      obtain ⟨meth9, c9, h1, h2, -, -, -, -, h7, -⟩ := Cond.code_spec B.named (atoms_spec (ws := Jvm.Cond.code x code maxLocals ret :: tables_1) B.pre _ List.mem_cons_self)
      cases Option.some.inj (h1.symm.trans B.method)
      cases Option.some.inj (h2.symm.trans (Stand.of_body B).code)
      intro z hz
      rw [Array.isEmpty_iff.mp h7] at hz
      cases hz
    have hown : s.vm.findClass R_law = some m.cls := findClass_of_methodNamed B.named
    have hts0 : ∀ c ∈ (Jvm.Cond.code x code maxLocals ret :: tables_1), c.before #[Value.ref b] s = true := atoms_spec (ws := Jvm.Cond.code x code maxLocals ret :: tables_1) B.pre
    have hts : ∀ w ∈ lw_tbl, w.before #[Value.ref b] s = true := k2_hts_sels lw_privs (fun w hw => hts0 w (List.mem_cons_of_mem _ hw)) lw_privs_ok
    have hml : c.maxLocals = 3 := B.maxLocals_eq (hts0 _ List.mem_cons_self)
    have X₀ : Stand p l e room_1 s m #[Value.ref b] below meth c s₁ [] 0 0 := Stand.of_body B
    have hh0 : s₁.heap = s.heap := by rw [B.state]; rfl
    have hsz : scr.slots.size = xs.length := by rw [← Array.length_toList, hlist, List.length_map]
    have hval : ∀ j : Nat, j < xs.length → scr.slots[j]? = some (.int (xs.getD j 0)) := fun j hj => by
      rw [← Array.getElem?_toList, hlist]
      simp [hj]
    have hbl : b < s.heap.size := (Array.getElem?_eq_some_iff.mp hcb).1
    have hX : va_X b xs.length (fun j => xs.getD j 0) s s.heap := ⟨scr, hcb, hof, hkn, hsz, hval⟩
    have K : W p l e room_1 s m #[Value.ref b] below meth c s₁.heap [] 0 0 (lw_Z below #[Value.ref b] s) (entryFrame m ([Value.ref b] : List Value).toArray 3) := by
      rw [hh0]
      exact whole_start l hflags hbd ⟨B.exec, B.bytes, B.returns, hml, hown, hts, hX, hbl, B.notSynchronized, hgv, htb⟩
    obtain ⟨t, a1, o, b1, b2, b3⟩ := K s₁ rfl X₀
    exact ⟨t, o, a1, b1, b2, b3⟩
theorem lw_pre_spec {args : Array Value} {s : State} (h : (Jvm.Cond.and given_1 narrow_1).before args s = true) (hr : rest_1_c.before args s = true) : ∃ (b : Addr) (xs : List Int32), lw_P b xs args s := by
  have hs := flat_of_before _ h
  have hq := flat_of_before _ hr
  have hc : (Cond.count 1).before args s = true := hs _ (by decide +kernel)
  have harr : (Cond.arrayOf (.arg 0) .int).before args s = true := hs _ (by decide +kernel)
  have hle : (Cond.le (.length (.arg 0)) (.int 260)).before args s = true := hs _ (by decide +kernel)
  have hlen : (Cond.isInt (.length (.arg 0))).before args s = true := hq _ (by decide +kernel)
  have hall : (Cond.all (.arg 0) (.isInt (.elem (.arg 0) (.index 0)))).before args s = true := hq _ (by decide +kernel)
  obtain ⟨b, xs, hb, hx⟩ := State.ints_of_pre rfl harr hlen hall
  have hsm : xs.length < 2 ^ 31 := hx.choose_spec.2.2.2
  have hev : (Term.length (.arg 0)).eval args s none [] s = some (.int xs.length.toInt32) := hx.length_eval hb
  have hv := Cond.le_ints hev (show (Term.int 260).eval args s none [] s = some (.int 260) from rfl)
  have hd : xs.length.toInt32 ≤ 260 := by
    simpa [Cond.before, Cond.holds, hv] using hle
  have hN : xs.length ≤ 260 := (Int32.ofNat_le_ofNat hsm (by decide)).mp (show Int32.ofNat xs.length ≤ Int32.ofNat 260 from hd)
  exact ⟨b, xs, Cond.one_arg hc (show args[0]? = some (.ref b) from hb), hx, hN, h⟩
theorem lw_comes (l : Launch) (hflags : l.flags = flags0) : Comes l x (Jvm.Cond.code x code maxLocals ret :: tables_1) room_1 (fun tb e args s => Calls_1 tb e args s ∧ rest_1 tb e args s ∧ Pre_1 tb e args s)
    (fun _ _ args s o t => lw_Q args s o t) := by
  intro p e ha hc hk s m args below hf hfit hheap happ hpre
  obtain ⟨b, xs, hP⟩ := lw_pre_spec hpre.2.2 hpre.2.1
  obtain ⟨k, o, h1, h2, h3, hQ⟩ := lw_walk l hflags b xs p e ha hc hk s m args below hf ((Spec.applies_iff_loose hf).mp happ).1 hP trivial
  exact ⟨k, o, h1, h2, h3, hQ⟩
theorem lw_frame {s t : State} {o : Outcome} {args : Array Value} (h : State.butDraws s t lw_cs (fun t1 => Framed s o t1 [] 814347 6650472)) :
    State.butDraws s t [Jvm.Choice.named "NaN.bits"] (fun t1 => Framed s o t1 (fieldLocs frame_1_writes args s ++ arrayLocs frame_1_arrays args s ++ staticLocs frame_1_statics s) 814347 6650472) := h
theorem lw_limb (L : Cond) (hL : ∀ (args : Array Value) (s t : State), L.after args s (.returned (some (.int 1))) t = true) :
    ArmFor flags0 classFile x code maxLocals ret World_1 tables_1 room_1 Calls_1 rest_1 Pre_1
      (fun tb e a s o t => postC L tb e a s o t ∧ State.butDraws s t [Jvm.Choice.named "NaN.bits"] (fun t1 => Framed s o t1 (fieldLocs frame_1_writes a s ++ arrayLocs frame_1_arrays a s ++ staticLocs frame_1_statics s) 814347 6650472)) := by
  intro l hflags _ _ p e ha hc hk s m args below hf hfit hheap happ hpre
  obtain ⟨k, o, h1, h2, h3, rfl, hF⟩ := lw_comes l hflags p e ha hc hk s m args below hf hfit hheap happ hpre
  exact ⟨k, _, h1, h2, h3, hL args s _, lw_frame hF⟩
theorem i_vc : Claimed_1_1 ∧ Claimed_1_2 := ⟨lw_limb limb_1_1 (fun args s t => by simp [limb_1_1, Cond.after, Cond.holds, Cond.value]), lw_limb limb_1_2 (fun args s t => Cond.after_iff.mpr (by
  first | (rw [show limb_1_2 = Cond.eq .result (.int 1) from rfl, Cond.eq_ints (x := 1) (y := 1) rfl rfl]; simp; done) | (simp [limb_1_2, Cond.value, Term.eval]; done)))⟩

