/-! ===== calls of inherited methods, of the superclass's, on constants ===== -/
section GU
variable {p : Program} {l : Launch} {e : Env} {R : Room} {s : State} {m : MethodId} {args : Array Value} {below : List Frame} {meth : Method} {c : Code} {T : State} {H : Heap} {locs : List Loc} {cells slots : Nat}
theorem gx_callU (X : Stand p l e R s m args below meth c T locs cells slots) (hexec : p.tables.exec = Jvm.exec) {own C owner : String} {index : Nat} {x y : MethodName}
    (hown : s.vm.findClass own = some m.cls) (hlink : (Cond.methodLink own index x).before args s = true) (hsame : (Cond.sameMethod x.cls owner x.name x.desc).before args s = true)
    (hd0 : va_Decl s ⟨owner, x.name, x.desc⟩) (howner : owner ≠ "java/lang/invoke/MethodHandle" ∧ owner ≠ "java/lang/invoke/VarHandle")
    (hsel : (Cond.selects C x y).before args s = true) (hinst : (Cond.instanceMethod y).before args s = true)
    {W9 : Nat} {Pre : Pt → Array Value → Prop} {Post : Pt → Array Value → Option Value → Pt → Prop} {PostX : Pt → Array Value → Addr → Pt → Prop} (hK : vx_Back l R p e below s args y 3 W9 Pre Post PostX)
    {b : Addr} {cellB : Cell} (hcell : T.heap[b]? = some cellB) (hobj : cellB.vm.isStatics = false) (hcls : s.vm.findClass C = some cellB.cls)
    {g : JFrame} (hg : g.method = m) (hsize : g.locals.size = c.maxLocals) {argsL rest : List Value} (hlen : ∀ sig, parseMethodDescriptor x.desc = some sig → argsL.length = sig.parameters.length)
    (hstack : g.stack = argsL.reverse ++ .ref b :: rest) (hW : 2 * g.monitorRoom + (rest.map fun v => v.category).sum ≤ W9) (hdg : decode c.code g.pc = .ok (.invokevirtual index, 3))
    (hpre : ∀ vm₁, s.WarmedH vm₁ → Pre ⟨T.setVm vm₁, locs, cells, slots⟩ (Value.ref b :: argsL).toArray) :
    (∃ (v : Option Value) (vm₁ : Vm) (B : Pt), s.WarmedH vm₁ ∧ Stand p l e R s m args below meth c B.U B.locs B.cells B.slots ∧ Post ⟨T.setVm vm₁, locs, cells, slots⟩ (Value.ref b :: argsL).toArray v B ∧
      ∀ target, Steps p.tables e below (B.U.setTop { g with pc := g.pc + 3, stack := v.toList ++ rest }) target → Steps p.tables e below (T.setTop g) target) ∨
    (∃ (q : Addr) (vm₁ : Vm) (B : Pt), s.WarmedH vm₁ ∧ Stand p l e R s m args below meth c B.U B.locs B.cells B.slots ∧ PostX ⟨T.setVm vm₁, locs, cells, slots⟩ (Value.ref b :: argsL).toArray q B ∧
      Steps p.tables e below (T.setTop g) ((B.U.setTop { g with stack := rest }).pushFrame (.throwing q))) := by
  obtain ⟨r0, r, hn, hrm, hstR, hsigR⟩ := hd0
  obtain ⟨cn, ck, r1, hcn, hck, hni, hf, hn1⟩ := Cond.sameMethod_found hsame
  cases hn.symm.trans hn1
  obtain ⟨mk, methM, hnamed, hmethM, -, habM⟩ := Cond.instanceMethod_spec hinst
  obtain ⟨c2, r2, m2, q1, q2, q3, q4, kP, hkP, hkPi⟩ := Cond.selects_spec hsel
  cases hcls.symm.trans q1
  cases hf.symm.trans q2
  cases hnamed.symm.trans q3
  have hselP : selectMethod e.platform s.vm cellB.cls r0 = .method mk := by rw [Launch.admits_selectMethod X.admits]; exact q4
  obtain ⟨vm₁, X₁, hstep₁⟩ := X.invokevirtualUp hexec hown hlink hsame howner hn hrm hstR (a := b) (cell := cellB) hcell
    (fun z h => by rw [h] at hobj; cases hobj) hselP hmethM habM hkP hkPi (g := g) hg (argsL := argsL) (rest := rest) (hlen _ hsigR) hstack hdg
  rcases hK m meth c ⟨T.setVm vm₁, locs, cells, slots⟩ { g with stack := rest } (.invokevirtual index) mk (Value.ref b :: argsL).toArray X₁ hg hsize hdg hW (X₁.named hnamed) (hpre vm₁ X₁.warmed) with ⟨v, B, X', hpost, hsteps⟩ | ⟨q, B, X', hpost, hsteps⟩
  · exact Or.inl ⟨v, vm₁, B, X₁.warmed, X', hpost, fun target h => hstep₁ _ fun acts => by rw [doInvoke_state]; exact hsteps.trans h⟩
  · exact Or.inr ⟨q, vm₁, B, X₁.warmed, X', hpost, hstep₁ _ fun acts => by rw [doInvoke_state]; exact hsteps⟩
theorem gx_callSU (X : Stand p l e R s m args below meth c T locs cells slots) (hexec : p.tables.exec = Jvm.exec) {own : String} {index : Nat} {y : MethodName} {bytes : ByteArray} {maxL : Nat} {ret : Option FieldType}
    (hown : s.vm.findClass own = some m.cls) (hlink : (Cond.methodLink own index y).before args s = true) (hsame : (Cond.sameMethod y.cls y.cls y.name y.desc).before args s = true) (hsup : (Cond.superclass own y.cls).before args s = true)
    (hinst : (Cond.instanceMethod y).before args s = true) (hcode : (Cond.code y bytes maxL ret).before args s = true) (hno : y.name ≠ "<init>")
    {W9 : Nat} {Pre : Pt → Array Value → Prop} {Post : Pt → Array Value → Option Value → Pt → Prop} {PostX : Pt → Array Value → Addr → Pt → Prop} (hK : vx_Back l R p e below s args y 3 W9 Pre Post PostX)
    {b : Addr} {cellB : Cell} {kB : Class} (hcell : T.heap[b]? = some cellB) (hobj : cellB.vm.isStatics = false) (hkB : s.vm.classes[cellB.cls]? = some kB)
    {g : JFrame} (hg : g.method = m) (hsize : g.locals.size = c.maxLocals) {argsL rest : List Value} (hlen : ∀ sig, parseMethodDescriptor y.desc = some sig → argsL.length = sig.parameters.length)
    (hstack : g.stack = argsL.reverse ++ .ref b :: rest) (hW : 2 * g.monitorRoom + (rest.map fun v => v.category).sum ≤ W9) (hdg : decode c.code g.pc = .ok (.invokespecial index, 3))
    (hpre : ∀ vm₁, s.WarmedH vm₁ → Pre ⟨T.setVm vm₁, locs, cells, slots⟩ (Value.ref b :: argsL).toArray) :
    (∃ (v : Option Value) (vm₁ : Vm) (B : Pt), s.WarmedH vm₁ ∧ Stand p l e R s m args below meth c B.U B.locs B.cells B.slots ∧ Post ⟨T.setVm vm₁, locs, cells, slots⟩ (Value.ref b :: argsL).toArray v B ∧
      ∀ target, Steps p.tables e below (B.U.setTop { g with pc := g.pc + 3, stack := v.toList ++ rest }) target → Steps p.tables e below (T.setTop g) target) ∨
    (∃ (q : Addr) (vm₁ : Vm) (B : Pt), s.WarmedH vm₁ ∧ Stand p l e R s m args below meth c B.U B.locs B.cells B.slots ∧ PostX ⟨T.setVm vm₁, locs, cells, slots⟩ (Value.ref b :: argsL).toArray q B ∧
      Steps p.tables e below (T.setTop g) ((B.U.setTop { g with stack := rest }).pushFrame (.throwing q))) := by
  obtain ⟨mk, methM, hnamed, hmethM, hstM, habM⟩ := Cond.instanceMethod_spec hinst
  obtain ⟨methM', cM, hmethM', -, -, -, -, -, -, hsigM⟩ := Cond.code_spec hnamed hcode
  cases hmethM.symm.trans hmethM'
  obtain ⟨ps, dk, kp, hps, hdk, hkp, hsuper, -, -, hnid⟩ := Cond.superclass_spec hown hsup
  have hn : s.methodNamed? ⟨y.cls, y.name, y.desc⟩ = some mk := hnamed
  have hpm : ps = mk.cls := Option.some.inj (hps.symm.trans (findClass_of_methodNamed hnamed))
  have hsub : s.vm.isSubclass ps mk.cls = true := by rw [hpm]; simp [Vm.isSubclass, Vm.isSubclassAux]
  obtain ⟨vm₁, X₁, hstep₁⟩ := X.invokespecialUp hexec hown hlink hsame hn hmethM hstM habM hno hdk hnid hps hsuper hsub (a := b) (cell := cellB) hcell
    (fun z h => by rw [h] at hobj; cases hobj) hkB (g := g) hg (argsL := argsL) (rest := rest) (hlen _ hsigM) hstack hdg
  rcases hK m meth c ⟨T.setVm vm₁, locs, cells, slots⟩ { g with stack := rest } (.invokespecial index) mk (Value.ref b :: argsL).toArray X₁ hg hsize hdg hW (X₁.named hnamed) (hpre vm₁ X₁.warmed) with ⟨v, B, X', hpost, hsteps⟩ | ⟨q, B, X', hpost, hsteps⟩
  · exact Or.inl ⟨v, vm₁, B, X₁.warmed, X', hpost, fun target h => hstep₁ _ (by rw [doInvoke_state]; exact hsteps.trans h)⟩
  · exact Or.inr ⟨q, vm₁, B, X₁.warmed, X', hpost, hstep₁ _ (by rw [doInvoke_state]; exact hsteps)⟩
/-- from what a call comes to, to its run -/
theorem gx_run {y : MethodName} {mc ms : Nat} {Pc : Array Value → State → Prop} {Qc : Array Value → State → Outcome → State → Prop} {XC : String → State → State → Prop} {free : Addr → Prop} {b : Addr} {As rest : List Value} {g : JFrame} (hT : T.heap = H)
    (h : (∃ (v : Option Value) (vm₁ : Vm) (B : Pt), s.WarmedH vm₁ ∧ Stand p l e R s m args below meth c B.U B.locs B.cells B.slots ∧ PostOf Qc mc ms free ⟨T.setVm vm₁, locs, cells, slots⟩ (Value.ref b :: As).toArray v B ∧
      ∀ target, Steps p.tables e below (B.U.setTop { g with pc := g.pc + 3, stack := v.toList ++ rest }) target → Steps p.tables e below (T.setTop g) target) ∨
    (∃ (q : Addr) (vm₁ : Vm) (B : Pt), s.WarmedH vm₁ ∧ Stand p l e R s m args below meth c B.U B.locs B.cells B.slots ∧ vx_Post XC mc ms free ⟨T.setVm vm₁, locs, cells, slots⟩ (Value.ref b :: As).toArray q B ∧
      Steps p.tables e below (T.setTop g) ((B.U.setTop { g with stack := rest }).pushFrame (.throwing q)))) :
    (∃ (v : Option Value) (st₀ t T' : State) (L : List Loc), st₀.heap = H ∧ Stand p l e R s m args below meth c T' (locs ++ L) (cells + mc) (slots + ms) ∧ (∀ q ∈ L, free q.base) ∧ T'.heap = t.heap ∧ T'.vm = t.vm ∧ Qc (Value.ref b :: As).toArray st₀ (.returned v) t ∧
      Goes p e below T g T' { g with pc := g.pc + 3, stack := v.toList ++ rest }) ∨
    (∃ (q : Addr) (st₀ t T' : State) (L : List Loc) (E : String) (ce : Cell), st₀.heap = H ∧ Stand p l e R s m args below meth c T' (locs ++ L) (cells + mc) (slots + ms) ∧ (∀ z ∈ L, free z.base) ∧ T'.heap = t.heap ∧ T'.vm = t.vm ∧ XC E st₀ t ∧ t.heap[q]? = some ce ∧ ce.vm = .none ∧ s.vm.findClass E = some ce.cls ∧
      Steps p.tables e below (T.setTop g) ((T'.setTop { g with stack := rest }).pushFrame (.throwing q))) := by
  rcases h with ⟨v, vm₁, ⟨U', l2, c2, s2⟩, hW₁, X', ⟨g', mk, t, L, e1, e2, hq, h1, hL, h2, h3⟩, st⟩ | ⟨q, vm₁, ⟨U', l2, c2, s2⟩, hW₁, X', ⟨g', mk, t, L, E, ce, e1, e2, hq, hce, hcv, hcl, h1, hL, h2, h3⟩, st⟩
  · dsimp only [Pt.U, Pt.locs, Pt.cells, Pt.slots] at X' e1 e2 h1 h2 h3 st
    subst h1; subst h2; subst h3
    exact Or.inl ⟨v, (T.setVm vm₁).calling g' mk (Value.ref b :: As).toArray, t, U', L, hT, X', hL, e1, e2, hq, st⟩
  · dsimp only [Pt.U, Pt.locs, Pt.cells, Pt.slots] at X' e1 e2 h1 h2 h3 st hcl
    subst h1; subst h2; subst h3
    exact Or.inr ⟨q, (T.setVm vm₁).calling g' mk (Value.ref b :: As).toArray, t, U', L, E, ce, hT, X', hL, e1, e2, hq, hce, hcv, vx_cls hW₁ hcl, st⟩
end GU
section GV
variable {X : gM} {E : gE} {M : gMt} {D n cells slots pc : Nat} {L : List (Option gV)} {st : List gV} {σ σ' : gS}
/-- a receiver of class C at address b -/
def gRcv (X : gM) (E : gE) (σ : gS) (C : String) (b : Nat) : Prop := ∀ (H : Heap) (locs : List Loc), va_P (gD E) gCl (gW E σ) H → va_S (gA E) X.2.2.2.2.1.heap H locs → ∃ cellB : Cell, H[b]? = some cellB ∧ cellB.vm.isStatics = false ∧ X.2.2.2.2.1.vm.findClass C = some cellB.cls
def gO' (E : gE) (C : String) (a : Nat) : Prop := va_O C a (gA E) (gs0 E) (gs0 E).heap
theorem gRcv_o (K : gK X E M D n) {k i : Nat} {C : String} (hk : gRc k C) (ho : gOk k i) : gRcv X E σ C (gB E + gOff k i) := fun _ _ hP _ => gRec K hk ho hP
theorem gRcv_c (K : gK X E M D n) {a : Nat} {C : String} (h : gO' E C a) : gRcv X E σ C a := fun H locs _ hS => by
  have hN := K.2.2.2.2.1
  obtain ⟨cell, h1, h2, h3, h4⟩ := ((va_O.moved hN.2.1.alike h).kept (fun a ha _ => hN.2.2.2 a ha)).kept hS.2.1
  exact ⟨cell, h1, h2, h3⟩
/-- what a call of an inherited method asks -/
def gMthU (E : gE) (C : String) (x : MethodName) (N : gMt) : Prop := Cond.sameMethod x.cls N.1.cls x.name x.desc ∈ lw_tbl ∧ gNw E (Cond.selects C x N.1) ∧ Cond.instanceMethod N.1 ∈ lw_tbl ∧ N.1 = ⟨N.1.cls, x.name, x.desc⟩
theorem gRunU (K : gK X E M D n) {N : gMt} {d n' idx b : Nat} {x : MethodName} {C : String} {v : gV} {as : List gV} {o : gO} {H : Heap} {locs : List Loc} {ls : Array Slot} (hc : gCt E N d n' (v :: as) σ o σ') (hm : gMth N as.length) (hi : gMthU E C x N) (hv : gc E v = .ref b) (hk : gRcv X E σ C b) (hl : Cond.methodLink M.1.cls idx x ∈ lw_tbl) (hf : gFit D d n cells slots n') (hL : ls.size = M.2.2.1) (hst : gCats st ≤ 8) (hP : va_P (gD E) gCl (gW E σ) H) (hS : va_S (gA E) X.2.2.2.2.1.heap H locs) (dd : decode M.2.1 pc = .ok (.invokevirtual idx, 3)) :
    gRun X E H locs cells slots n' pc ls ((as.map (gc E)).reverse ++ .ref b :: st.map (gc E)) (st.map (gc E)) σ o σ' := by
  have hN := K.2.2.2.2.1
  have hR := K.2.2.2.2.2.2.2.2.2
  have h40 : 8 + (N.2.2.1 + 11) + 64 * d ≤ 64 * D := by have h1 := hm.2.2.2.2; have h2 := hf.1; omega
  unfold gCt at hc
  rw [← K.2.2.2.2.2.2.1, List.map_cons, hv] at hc
  have hW : 2 * (F0 X.2.2.2.2.2.1 pc ls ((as.map (gc E)).reverse ++ .ref b :: st.map (gc E))).monitorRoom + ((st.map (gc E)).map fun v => v.category).sum ≤ 8 := lv_room (Nat.le_trans (gCats_le st) hst)
  have hr : cells + n' ≤ X.2.2.2.1.cells ∧ slots + 6 * n' ≤ X.2.2.2.1.slots := by rw [hR]; exact hf.2
  obtain ⟨cellB, hcB, hoB, hclB⟩ := hk H locs hP hS
  have hxd : x.desc = N.1.desc := by rw [hi.2.2.2]
  intro T hT Z
  refine gx_run (y := N.1) (Pc := va_Pc (.ref b :: as.map (gc E)) (gI E σ)) hT (gx_callU Z K.1 K.2.2.2.1 (gN_word hN hl rfl _) (gN_any hN hi.1 rfl _) (va_Decl.of (args := #[]) (by rw [← hi.2.2.2]; exact gN_word hN hi.2.2.1 rfl _) (by rw [← hi.2.2.2]; exact gN_word hN hm.1 rfl _)) hm.2.2.1 (hi.2.1 _ _ hN _) (gN_word hN hi.2.2.1 rfl _)
    (vx_back (bytes := N.2.1) (maxL := N.2.2.1) (ret := N.2.2.2) hc gPc_blind rfl rfl (by rw [hR]; exact hf.1) (by rw [hR]; exact h40) (gPay K hm) (List.mem_singleton.mpr rfl) (fun a' U hW => word_at hW (Or.inl rfl) (gN_word hN hm.2.1 rfl #[])))
    (by rw [hT]; exact hcB) hoB hclB rfl (hL.trans K.2.2.1.symm) (argsL := as.map (gc E)) (rest := st.map (gc E)) (fun sig h => by rw [List.length_map]; exact gLen hm sig (by rw [← hxd]; exact h)) rfl hW (by rw [K.2.1]; exact dd)
    (fun vm₁ hW₁ => ⟨hr.1, hr.2, gPc_at K hP hS (T.setVm vm₁) hT hW₁⟩))
theorem g_sel_priv {s : State} {args : Array Value} {C : String} {x0 y : MethodName} (hy : y.cls ≠ "java/lang/invoke/MethodHandle" ∧ y.cls ≠ "java/lang/invoke/VarHandle") (hc : y.cls = x0.cls) (h0 : (Cond.selects C x0 x0).before args s = true) (hi0 : (Cond.instanceMethod x0).before args s = true) (hpriv : (Cond.privateMethod y).before args s = true) (hinst : (Cond.instanceMethod y).before args s = true) : (Cond.selects C y y).before args s = true := by
  obtain ⟨c2, r2, m2, q1, q2, q3, q4, kP, hkP, hkPi⟩ := Cond.selects_spec h0
  obtain ⟨mk0, methM0, hnamed0, hmethM0, -, -⟩ := Cond.instanceMethod_spec hi0
  have er : mk0 = m2 := Option.some.inj (hnamed0.symm.trans q3)
  obtain ⟨mk, methM, hnamed, hmethM, -, -⟩ := Cond.instanceMethod_spec hinst
  have hfound : s.methodFound? y.cls y.name y.desc = some mk := State.methodFound?_of_named hnamed hy
  have hcls : mk.cls = m2.cls := by
    have h1 := findClass_of_methodNamed hnamed
    have h2 := findClass_of_methodNamed hnamed0
    rw [hc] at h1
    rw [← er]
    exact Option.some.inj (h1.symm.trans h2)
  have hsel : selectMethod {} s.vm c2 mk = .method mk := selectMethod_private hmethM (Cond.privateMethod_at hpriv mk methM hnamed hmethM)
  simp only [Cond.before, Cond.holds, Cond.value, q1, hfound, hnamed, hsel, hcls]
  have hk2 : s.vm.classes[m2.cls]? = some kP := hkP
  simp [hk2, hkPi]
theorem gNw_w {E : gE} {w : Cond} (hw : w ∈ lw_tbl) (hg : gMv w = true) : gNw E w := fun _ _ h _ => gN_any h hw hg _
theorem gNw_p {E : gE} {C : String} {x0 y : MethodName} (hy : y.cls ≠ "java/lang/invoke/MethodHandle" ∧ y.cls ≠ "java/lang/invoke/VarHandle") (hc : y.cls = x0.cls) (h0 : Cond.selects C x0 x0 ∈ lw_tbl) (hi0 : Cond.instanceMethod x0 ∈ lw_tbl) (hp : Cond.privateMethod y ∈ lw_tbl) (hi : Cond.instanceMethod y ∈ lw_tbl) : gNw E (Cond.selects C y y) :=
  fun _ _ h a => word_at h.2.1 (good_of_word rfl) (g_sel_priv hy hc (h.1.1 _ h0) (h.1.1 _ hi0) (h.1.1 _ hp) (h.1.1 _ hi))
def gMthS (own : String) (N : gMt) : Prop := Cond.sameMethod N.1.cls N.1.cls N.1.name N.1.desc ∈ lw_tbl ∧ Cond.superclass own N.1.cls ∈ lw_tbl ∧ Cond.instanceMethod N.1 ∈ lw_tbl ∧ N.1.name ≠ "<init>"
theorem gRunI (K : gK X E M D n) {N : gMt} {d n' idx b : Nat} {C : String} {v : gV} {as : List gV} {o : gO} {H : Heap} {locs : List Loc} {ls : Array Slot} (hc : gCt E N d n' (v :: as) σ o σ') (hm : gMth N as.length) (hi : gMthS M.1.cls N) (hv : gc E v = .ref b) (hk : gRcv X E σ C b) (hat : ∃ cC, ClassAt X.2.2.2.2.1 C cC) (hl : Cond.methodLink M.1.cls idx N.1 ∈ lw_tbl) (hf : gFit D d n cells slots n') (hL : ls.size = M.2.2.1) (hst : gCats st ≤ 8) (hP : va_P (gD E) gCl (gW E σ) H) (hS : va_S (gA E) X.2.2.2.2.1.heap H locs) (dd : decode M.2.1 pc = .ok (.invokespecial idx, 3)) :
    gRun X E H locs cells slots n' pc ls ((as.map (gc E)).reverse ++ .ref b :: st.map (gc E)) (st.map (gc E)) σ o σ' := by
  have hN := K.2.2.2.2.1
  have hR := K.2.2.2.2.2.2.2.2.2
  have h40 : 8 + (N.2.2.1 + 11) + 64 * d ≤ 64 * D := by have h1 := hm.2.2.2.2; have h2 := hf.1; omega
  unfold gCt at hc
  rw [← K.2.2.2.2.2.2.1, List.map_cons, hv] at hc
  have hW : 2 * (F0 X.2.2.2.2.2.1 pc ls ((as.map (gc E)).reverse ++ .ref b :: st.map (gc E))).monitorRoom + ((st.map (gc E)).map fun v => v.category).sum ≤ 8 := lv_room (Nat.le_trans (gCats_le st) hst)
  have hr : cells + n' ≤ X.2.2.2.1.cells ∧ slots + 6 * n' ≤ X.2.2.2.1.slots := by rw [hR]; exact hf.2
  obtain ⟨cellB, hcB, hoB, hclB⟩ := hk H locs hP hS
  obtain ⟨cC, hfc, kB, hkB, -⟩ := hat
  cases hfc.symm.trans hclB
  intro T hT Z
  refine gx_run (y := N.1) (Pc := va_Pc (.ref b :: as.map (gc E)) (gI E σ)) hT (gx_callSU Z K.1 (bytes := N.2.1) (maxL := N.2.2.1) (ret := N.2.2.2) K.2.2.2.1 (gN_word hN hl rfl _) (gN_any hN hi.1 rfl _) (gN_any hN hi.2.1 rfl _) (gN_word hN hi.2.2.1 rfl _) (gN_word hN hm.1 rfl _) hi.2.2.2
    (vx_back (bytes := N.2.1) (maxL := N.2.2.1) (ret := N.2.2.2) hc gPc_blind rfl rfl (by rw [hR]; exact hf.1) (by rw [hR]; exact h40) (gPay K hm) (List.mem_singleton.mpr rfl) (fun a' U hW => word_at hW (Or.inl rfl) (gN_word hN hm.2.1 rfl #[])))
    (by rw [hT]; exact hcB) hoB hkB rfl (hL.trans K.2.2.1.symm) (argsL := as.map (gc E)) (rest := st.map (gc E)) (fun sig h => by rw [List.length_map]; exact gLen hm sig h) rfl hW (by rw [K.2.1]; exact dd)
    (fun vm₁ hW₁ => ⟨hr.1, hr.2, gPc_at K hP hS (T.setVm vm₁) hT hW₁⟩))
theorem gRunK (K : gK X E M D n) {N : gMt} {d n' idx a : Nat} {as : List gV} {o : gO} {H : Heap} {locs : List Loc} {ls : Array Slot} (hc : gCt E N d n' (.inl (.ref a) :: as) σ o σ') (hm : gMth N as.length) (hi : gMthI N) (hk : gO' E N.1.cls a) (hl : gLk M.1.cls idx N.1) (hf : gFit D d n cells slots n') (hL : ls.size = M.2.2.1) (hst : gCats st ≤ 8) (hP : va_P (gD E) gCl (gW E σ) H) (hS : va_S (gA E) X.2.2.2.2.1.heap H locs) (dd : decode M.2.1 pc = .ok (.invokevirtual idx, 3)) :
    gRun X E H locs cells slots n' pc ls ((as.map (gc E)).reverse ++ .ref a :: st.map (gc E)) (st.map (gc E)) σ o σ' := by
  have hN := K.2.2.2.2.1
  have hR := K.2.2.2.2.2.2.2.2.2
  have h40 : 8 + (N.2.2.1 + 11) + 64 * d ≤ 64 * D := by have h1 := hm.2.2.2.2; have h2 := hf.1; omega
  unfold gCt at hc
  rw [← K.2.2.2.2.2.2.1] at hc
  have S : CallFix X.1 X.2.2.2.2.2.1 X.2.2.2.2.2.2.2.2.2.1 M.2.1 M.2.2.1 X.2.2.2.2.1 X.2.2.2.2.2.2.1 [] M.1.cls := ⟨K.1, K.2.1, K.2.2.1, K.2.2.2.1, fun w h => by cases h⟩
  have hp : PreV X.2.2.2.2.1 H N.1.cls a (va_Pc (List.map (gc E) (.inl (.ref a) :: as)) (gI E σ)) (as.map (gc E)) := ⟨gPc_blind, gRcv_c K hk H locs hP hS, gPc_at K hP hS⟩
  have hW : 2 * (F0 X.2.2.2.2.2.1 pc ls ((as.map (gc E)).reverse ++ .ref a :: st.map (gc E))).monitorRoom + ((st.map (gc E)).map fun v => v.category).sum ≤ 8 := lv_room (Nat.le_trans (gCats_le st) hst)
  have hr : cells + n' ≤ X.2.2.2.1.cells ∧ slots + 6 * n' ≤ X.2.2.2.1.slots := by rw [hR]; exact hf.2
  rcases hl with hl | ⟨host, hl⟩
  · exact vx_runV S hc ⟨⟨rfl, rfl, by rw [hR]; exact hf.1, by rw [hR]; exact h40, gPay K hm, List.mem_singleton.mpr rfl, gN_word hN hm.1 rfl _, gN_word hN hm.2.1 rfl _, hm.2.2.1, gLen hm, gN_word hN hl rfl _⟩, gN_word hN hi.1 rfl _, gN_word hN hi.2 rfl _⟩ hp rfl (by rw [List.length_map]) hL rfl hW dd hr
  · exact vx_runVN S hc ⟨⟨⟨rfl, rfl, by rw [hR]; exact hf.1, by rw [hR]; exact h40, gPay K hm, List.mem_singleton.mpr rfl⟩, gN_word hN hm.1 rfl _, gN_word hN hm.2.1 rfl _, hm.2.2.1, gLen hm, gN_any hN hl rfl _⟩, gN_word hN hi.1 rfl _, gN_word hN hi.2 rfl _⟩ hp rfl (by rw [List.length_map]) hL rfl hW dd hr
theorem gRcAt (K : gK X E M D n) {k : Nat} {C : String} (hk : gRc k C) : ∃ cC, ClassAt X.2.2.2.2.1 C cC := by
  obtain ⟨ci, q, h0, h1, h2, rfl⟩ := hk
  exact ⟨_, ((gN_K K.2.2.2.2.1).1 ci q h2).2⟩
theorem x_callK0 (K : gK X E M D n) {N : gMt} {d n' idx : Nat} {a : Nat} {r : gV} (hc : gCt E N d n' (.inl (.ref a) :: []) σ (.inl (some r)) σ') (hm : gMth N 0) (hi : gMthI N) (hk : gO' E N.1.cls a) (hl : gLk M.1.cls idx N.1) (hf : gFit D d n cells slots n') (hL : L.length = M.2.2.1) (hst : gCats st ≤ 8) (dd : decode M.2.1 pc = .ok (.invokevirtual idx, 3)) (kk : gWX X E (cells + n') (slots + 6 * n') (pc + 3) L (r :: st) σ') : gWX X E cells slots pc L (.inl (.ref a) :: st) σ :=
  fun H locs ls hP hS hlv => gBack (L := L) (st := st) (gRunK K (as := []) hc hm hi hk hl hf (hlv.1.trans hL) hst hP hS dd) hS hlv kk
theorem x_callK0v (K : gK X E M D n) {N : gMt} {d n' idx : Nat} {a : Nat} (hc : gCt E N d n' (.inl (.ref a) :: []) σ (.inl none) σ') (hm : gMth N 0) (hi : gMthI N) (hk : gO' E N.1.cls a) (hl : gLk M.1.cls idx N.1) (hf : gFit D d n cells slots n') (hL : L.length = M.2.2.1) (hst : gCats st ≤ 8) (dd : decode M.2.1 pc = .ok (.invokevirtual idx, 3)) (kk : gWX X E (cells + n') (slots + 6 * n') (pc + 3) L st σ') : gWX X E cells slots pc L (.inl (.ref a) :: st) σ :=
  fun H locs ls hP hS hlv => gBack (L := L) (st := st) (gRunK K (as := []) hc hm hi hk hl hf (hlv.1.trans hL) hst hP hS dd) hS hlv kk
theorem x_callU0 (K : gK X E M D n) {N : gMt} {d n' idx : Nat} {a : Nat} {r : gV} (hc : gCt E N d n' (.inl (.ref a) :: []) σ (.inl (some r)) σ') (hm : gMth N 0) {x : MethodName} {C : String} (hi : gMthU E C x N) (hk : gO' E C a) (hl : Cond.methodLink M.1.cls idx x ∈ lw_tbl) (hf : gFit D d n cells slots n') (hL : L.length = M.2.2.1) (hst : gCats st ≤ 8) (dd : decode M.2.1 pc = .ok (.invokevirtual idx, 3)) (kk : gWX X E (cells + n') (slots + 6 * n') (pc + 3) L (r :: st) σ') : gWX X E cells slots pc L (.inl (.ref a) :: st) σ :=
  fun H locs ls hP hS hlv => gBack (L := L) (st := st) (gRunU K (v := .inl (.ref a)) (as := []) hc hm hi rfl (gRcv_c K hk) hl hf (hlv.1.trans hL) hst hP hS dd) hS hlv kk
theorem x_callU0v (K : gK X E M D n) {N : gMt} {d n' idx : Nat} {a : Nat} (hc : gCt E N d n' (.inl (.ref a) :: []) σ (.inl none) σ') (hm : gMth N 0) {x : MethodName} {C : String} (hi : gMthU E C x N) (hk : gO' E C a) (hl : Cond.methodLink M.1.cls idx x ∈ lw_tbl) (hf : gFit D d n cells slots n') (hL : L.length = M.2.2.1) (hst : gCats st ≤ 8) (dd : decode M.2.1 pc = .ok (.invokevirtual idx, 3)) (kk : gWX X E (cells + n') (slots + 6 * n') (pc + 3) L st σ') : gWX X E cells slots pc L (.inl (.ref a) :: st) σ :=
  fun H locs ls hP hS hlv => gBack (L := L) (st := st) (gRunU K (v := .inl (.ref a)) (as := []) hc hm hi rfl (gRcv_c K hk) hl hf (hlv.1.trans hL) hst hP hS dd) hS hlv kk
theorem x_callW0 (K : gK X E M D n) {N : gMt} {d n' idx : Nat} {k i : Nat} {r : gV} (hc : gCt E N d n' (.inr (k, i) :: []) σ (.inl (some r)) σ') (hm : gMth N 0) {x : MethodName} {C : String} (hi : gMthU E C x N) (hk : gRc k C) (ho : gOk k i) (hl : Cond.methodLink M.1.cls idx x ∈ lw_tbl) (hf : gFit D d n cells slots n') (hL : L.length = M.2.2.1) (hst : gCats st ≤ 8) (dd : decode M.2.1 pc = .ok (.invokevirtual idx, 3)) (kk : gWX X E (cells + n') (slots + 6 * n') (pc + 3) L (r :: st) σ') : gWX X E cells slots pc L (.inr (k, i) :: st) σ :=
  fun H locs ls hP hS hlv => gBack (L := L) (st := st) (gRunU K (v := .inr (k, i)) (as := []) hc hm hi rfl (gRcv_o K hk ho) hl hf (hlv.1.trans hL) hst hP hS dd) hS hlv kk
theorem x_callW0v (K : gK X E M D n) {N : gMt} {d n' idx : Nat} {k i : Nat} (hc : gCt E N d n' (.inr (k, i) :: []) σ (.inl none) σ') (hm : gMth N 0) {x : MethodName} {C : String} (hi : gMthU E C x N) (hk : gRc k C) (ho : gOk k i) (hl : Cond.methodLink M.1.cls idx x ∈ lw_tbl) (hf : gFit D d n cells slots n') (hL : L.length = M.2.2.1) (hst : gCats st ≤ 8) (dd : decode M.2.1 pc = .ok (.invokevirtual idx, 3)) (kk : gWX X E (cells + n') (slots + 6 * n') (pc + 3) L st σ') : gWX X E cells slots pc L (.inr (k, i) :: st) σ :=
  fun H locs ls hP hS hlv => gBack (L := L) (st := st) (gRunU K (v := .inr (k, i)) (as := []) hc hm hi rfl (gRcv_o K hk ho) hl hf (hlv.1.trans hL) hst hP hS dd) hS hlv kk
theorem x_callI0 (K : gK X E M D n) {N : gMt} {d n' idx : Nat} {k i : Nat} {r : gV} (hc : gCt E N d n' (.inr (k, i) :: []) σ (.inl (some r)) σ') (hm : gMth N 0) {C : String} (hi : gMthS M.1.cls N) (hk : gRc k C) (ho : gOk k i) (hl : Cond.methodLink M.1.cls idx N.1 ∈ lw_tbl) (hf : gFit D d n cells slots n') (hL : L.length = M.2.2.1) (hst : gCats st ≤ 8) (dd : decode M.2.1 pc = .ok (.invokespecial idx, 3)) (kk : gWX X E (cells + n') (slots + 6 * n') (pc + 3) L (r :: st) σ') : gWX X E cells slots pc L (.inr (k, i) :: st) σ :=
  fun H locs ls hP hS hlv => gBack (L := L) (st := st) (gRunI K (v := .inr (k, i)) (C := C) (as := []) hc hm hi rfl (gRcv_o K hk ho) (gRcAt K hk) hl hf (hlv.1.trans hL) hst hP hS dd) hS hlv kk
theorem x_callI0v (K : gK X E M D n) {N : gMt} {d n' idx : Nat} {k i : Nat} (hc : gCt E N d n' (.inr (k, i) :: []) σ (.inl none) σ') (hm : gMth N 0) {C : String} (hi : gMthS M.1.cls N) (hk : gRc k C) (ho : gOk k i) (hl : Cond.methodLink M.1.cls idx N.1 ∈ lw_tbl) (hf : gFit D d n cells slots n') (hL : L.length = M.2.2.1) (hst : gCats st ≤ 8) (dd : decode M.2.1 pc = .ok (.invokespecial idx, 3)) (kk : gWX X E (cells + n') (slots + 6 * n') (pc + 3) L st σ') : gWX X E cells slots pc L (.inr (k, i) :: st) σ :=
  fun H locs ls hP hS hlv => gBack (L := L) (st := st) (gRunI K (v := .inr (k, i)) (C := C) (as := []) hc hm hi rfl (gRcv_o K hk ho) (gRcAt K hk) hl hf (hlv.1.trans hL) hst hP hS dd) hS hlv kk
theorem x_callK1 (K : gK X E M D n) {N : gMt} {d n' idx : Nat} {a : Nat} {v1 : gV} {r : gV} (hc : gCt E N d n' (.inl (.ref a) :: [v1]) σ (.inl (some r)) σ') (hm : gMth N 1) (hi : gMthI N) (hk : gO' E N.1.cls a) (hl : gLk M.1.cls idx N.1) (hf : gFit D d n cells slots n') (hL : L.length = M.2.2.1) (hst : gCats st ≤ 8) (dd : decode M.2.1 pc = .ok (.invokevirtual idx, 3)) (kk : gWX X E (cells + n') (slots + 6 * n') (pc + 3) L (r :: st) σ') : gWX X E cells slots pc L (v1 :: .inl (.ref a) :: st) σ :=
  fun H locs ls hP hS hlv => gBack (L := L) (st := st) (gRunK K (as := [v1]) hc hm hi hk hl hf (hlv.1.trans hL) hst hP hS dd) hS hlv kk
theorem x_callK1v (K : gK X E M D n) {N : gMt} {d n' idx : Nat} {a : Nat} {v1 : gV} (hc : gCt E N d n' (.inl (.ref a) :: [v1]) σ (.inl none) σ') (hm : gMth N 1) (hi : gMthI N) (hk : gO' E N.1.cls a) (hl : gLk M.1.cls idx N.1) (hf : gFit D d n cells slots n') (hL : L.length = M.2.2.1) (hst : gCats st ≤ 8) (dd : decode M.2.1 pc = .ok (.invokevirtual idx, 3)) (kk : gWX X E (cells + n') (slots + 6 * n') (pc + 3) L st σ') : gWX X E cells slots pc L (v1 :: .inl (.ref a) :: st) σ :=
  fun H locs ls hP hS hlv => gBack (L := L) (st := st) (gRunK K (as := [v1]) hc hm hi hk hl hf (hlv.1.trans hL) hst hP hS dd) hS hlv kk
theorem x_callU1 (K : gK X E M D n) {N : gMt} {d n' idx : Nat} {a : Nat} {v1 : gV} {r : gV} (hc : gCt E N d n' (.inl (.ref a) :: [v1]) σ (.inl (some r)) σ') (hm : gMth N 1) {x : MethodName} {C : String} (hi : gMthU E C x N) (hk : gO' E C a) (hl : Cond.methodLink M.1.cls idx x ∈ lw_tbl) (hf : gFit D d n cells slots n') (hL : L.length = M.2.2.1) (hst : gCats st ≤ 8) (dd : decode M.2.1 pc = .ok (.invokevirtual idx, 3)) (kk : gWX X E (cells + n') (slots + 6 * n') (pc + 3) L (r :: st) σ') : gWX X E cells slots pc L (v1 :: .inl (.ref a) :: st) σ :=
  fun H locs ls hP hS hlv => gBack (L := L) (st := st) (gRunU K (v := .inl (.ref a)) (as := [v1]) hc hm hi rfl (gRcv_c K hk) hl hf (hlv.1.trans hL) hst hP hS dd) hS hlv kk
theorem x_callU1v (K : gK X E M D n) {N : gMt} {d n' idx : Nat} {a : Nat} {v1 : gV} (hc : gCt E N d n' (.inl (.ref a) :: [v1]) σ (.inl none) σ') (hm : gMth N 1) {x : MethodName} {C : String} (hi : gMthU E C x N) (hk : gO' E C a) (hl : Cond.methodLink M.1.cls idx x ∈ lw_tbl) (hf : gFit D d n cells slots n') (hL : L.length = M.2.2.1) (hst : gCats st ≤ 8) (dd : decode M.2.1 pc = .ok (.invokevirtual idx, 3)) (kk : gWX X E (cells + n') (slots + 6 * n') (pc + 3) L st σ') : gWX X E cells slots pc L (v1 :: .inl (.ref a) :: st) σ :=
  fun H locs ls hP hS hlv => gBack (L := L) (st := st) (gRunU K (v := .inl (.ref a)) (as := [v1]) hc hm hi rfl (gRcv_c K hk) hl hf (hlv.1.trans hL) hst hP hS dd) hS hlv kk
theorem x_callW1 (K : gK X E M D n) {N : gMt} {d n' idx : Nat} {k i : Nat} {v1 : gV} {r : gV} (hc : gCt E N d n' (.inr (k, i) :: [v1]) σ (.inl (some r)) σ') (hm : gMth N 1) {x : MethodName} {C : String} (hi : gMthU E C x N) (hk : gRc k C) (ho : gOk k i) (hl : Cond.methodLink M.1.cls idx x ∈ lw_tbl) (hf : gFit D d n cells slots n') (hL : L.length = M.2.2.1) (hst : gCats st ≤ 8) (dd : decode M.2.1 pc = .ok (.invokevirtual idx, 3)) (kk : gWX X E (cells + n') (slots + 6 * n') (pc + 3) L (r :: st) σ') : gWX X E cells slots pc L (v1 :: .inr (k, i) :: st) σ :=
  fun H locs ls hP hS hlv => gBack (L := L) (st := st) (gRunU K (v := .inr (k, i)) (as := [v1]) hc hm hi rfl (gRcv_o K hk ho) hl hf (hlv.1.trans hL) hst hP hS dd) hS hlv kk
theorem x_callW1v (K : gK X E M D n) {N : gMt} {d n' idx : Nat} {k i : Nat} {v1 : gV} (hc : gCt E N d n' (.inr (k, i) :: [v1]) σ (.inl none) σ') (hm : gMth N 1) {x : MethodName} {C : String} (hi : gMthU E C x N) (hk : gRc k C) (ho : gOk k i) (hl : Cond.methodLink M.1.cls idx x ∈ lw_tbl) (hf : gFit D d n cells slots n') (hL : L.length = M.2.2.1) (hst : gCats st ≤ 8) (dd : decode M.2.1 pc = .ok (.invokevirtual idx, 3)) (kk : gWX X E (cells + n') (slots + 6 * n') (pc + 3) L st σ') : gWX X E cells slots pc L (v1 :: .inr (k, i) :: st) σ :=
  fun H locs ls hP hS hlv => gBack (L := L) (st := st) (gRunU K (v := .inr (k, i)) (as := [v1]) hc hm hi rfl (gRcv_o K hk ho) hl hf (hlv.1.trans hL) hst hP hS dd) hS hlv kk
theorem x_callI1 (K : gK X E M D n) {N : gMt} {d n' idx : Nat} {k i : Nat} {v1 : gV} {r : gV} (hc : gCt E N d n' (.inr (k, i) :: [v1]) σ (.inl (some r)) σ') (hm : gMth N 1) {C : String} (hi : gMthS M.1.cls N) (hk : gRc k C) (ho : gOk k i) (hl : Cond.methodLink M.1.cls idx N.1 ∈ lw_tbl) (hf : gFit D d n cells slots n') (hL : L.length = M.2.2.1) (hst : gCats st ≤ 8) (dd : decode M.2.1 pc = .ok (.invokespecial idx, 3)) (kk : gWX X E (cells + n') (slots + 6 * n') (pc + 3) L (r :: st) σ') : gWX X E cells slots pc L (v1 :: .inr (k, i) :: st) σ :=
  fun H locs ls hP hS hlv => gBack (L := L) (st := st) (gRunI K (v := .inr (k, i)) (C := C) (as := [v1]) hc hm hi rfl (gRcv_o K hk ho) (gRcAt K hk) hl hf (hlv.1.trans hL) hst hP hS dd) hS hlv kk
theorem x_callI1v (K : gK X E M D n) {N : gMt} {d n' idx : Nat} {k i : Nat} {v1 : gV} (hc : gCt E N d n' (.inr (k, i) :: [v1]) σ (.inl none) σ') (hm : gMth N 1) {C : String} (hi : gMthS M.1.cls N) (hk : gRc k C) (ho : gOk k i) (hl : Cond.methodLink M.1.cls idx N.1 ∈ lw_tbl) (hf : gFit D d n cells slots n') (hL : L.length = M.2.2.1) (hst : gCats st ≤ 8) (dd : decode M.2.1 pc = .ok (.invokespecial idx, 3)) (kk : gWX X E (cells + n') (slots + 6 * n') (pc + 3) L st σ') : gWX X E cells slots pc L (v1 :: .inr (k, i) :: st) σ :=
  fun H locs ls hP hS hlv => gBack (L := L) (st := st) (gRunI K (v := .inr (k, i)) (C := C) (as := [v1]) hc hm hi rfl (gRcv_o K hk ho) (gRcAt K hk) hl hf (hlv.1.trans hL) hst hP hS dd) hS hlv kk
theorem x_callK2 (K : gK X E M D n) {N : gMt} {d n' idx : Nat} {a : Nat} {v1 v2 : gV} {r : gV} (hc : gCt E N d n' (.inl (.ref a) :: [v1, v2]) σ (.inl (some r)) σ') (hm : gMth N 2) (hi : gMthI N) (hk : gO' E N.1.cls a) (hl : gLk M.1.cls idx N.1) (hf : gFit D d n cells slots n') (hL : L.length = M.2.2.1) (hst : gCats st ≤ 8) (dd : decode M.2.1 pc = .ok (.invokevirtual idx, 3)) (kk : gWX X E (cells + n') (slots + 6 * n') (pc + 3) L (r :: st) σ') : gWX X E cells slots pc L (v2 :: v1 :: .inl (.ref a) :: st) σ :=
  fun H locs ls hP hS hlv => gBack (L := L) (st := st) (gRunK K (as := [v1, v2]) hc hm hi hk hl hf (hlv.1.trans hL) hst hP hS dd) hS hlv kk
theorem x_callK2v (K : gK X E M D n) {N : gMt} {d n' idx : Nat} {a : Nat} {v1 v2 : gV} (hc : gCt E N d n' (.inl (.ref a) :: [v1, v2]) σ (.inl none) σ') (hm : gMth N 2) (hi : gMthI N) (hk : gO' E N.1.cls a) (hl : gLk M.1.cls idx N.1) (hf : gFit D d n cells slots n') (hL : L.length = M.2.2.1) (hst : gCats st ≤ 8) (dd : decode M.2.1 pc = .ok (.invokevirtual idx, 3)) (kk : gWX X E (cells + n') (slots + 6 * n') (pc + 3) L st σ') : gWX X E cells slots pc L (v2 :: v1 :: .inl (.ref a) :: st) σ :=
  fun H locs ls hP hS hlv => gBack (L := L) (st := st) (gRunK K (as := [v1, v2]) hc hm hi hk hl hf (hlv.1.trans hL) hst hP hS dd) hS hlv kk
theorem x_callU2 (K : gK X E M D n) {N : gMt} {d n' idx : Nat} {a : Nat} {v1 v2 : gV} {r : gV} (hc : gCt E N d n' (.inl (.ref a) :: [v1, v2]) σ (.inl (some r)) σ') (hm : gMth N 2) {x : MethodName} {C : String} (hi : gMthU E C x N) (hk : gO' E C a) (hl : Cond.methodLink M.1.cls idx x ∈ lw_tbl) (hf : gFit D d n cells slots n') (hL : L.length = M.2.2.1) (hst : gCats st ≤ 8) (dd : decode M.2.1 pc = .ok (.invokevirtual idx, 3)) (kk : gWX X E (cells + n') (slots + 6 * n') (pc + 3) L (r :: st) σ') : gWX X E cells slots pc L (v2 :: v1 :: .inl (.ref a) :: st) σ :=
  fun H locs ls hP hS hlv => gBack (L := L) (st := st) (gRunU K (v := .inl (.ref a)) (as := [v1, v2]) hc hm hi rfl (gRcv_c K hk) hl hf (hlv.1.trans hL) hst hP hS dd) hS hlv kk
theorem x_callU2v (K : gK X E M D n) {N : gMt} {d n' idx : Nat} {a : Nat} {v1 v2 : gV} (hc : gCt E N d n' (.inl (.ref a) :: [v1, v2]) σ (.inl none) σ') (hm : gMth N 2) {x : MethodName} {C : String} (hi : gMthU E C x N) (hk : gO' E C a) (hl : Cond.methodLink M.1.cls idx x ∈ lw_tbl) (hf : gFit D d n cells slots n') (hL : L.length = M.2.2.1) (hst : gCats st ≤ 8) (dd : decode M.2.1 pc = .ok (.invokevirtual idx, 3)) (kk : gWX X E (cells + n') (slots + 6 * n') (pc + 3) L st σ') : gWX X E cells slots pc L (v2 :: v1 :: .inl (.ref a) :: st) σ :=
  fun H locs ls hP hS hlv => gBack (L := L) (st := st) (gRunU K (v := .inl (.ref a)) (as := [v1, v2]) hc hm hi rfl (gRcv_c K hk) hl hf (hlv.1.trans hL) hst hP hS dd) hS hlv kk
theorem x_callW2 (K : gK X E M D n) {N : gMt} {d n' idx : Nat} {k i : Nat} {v1 v2 : gV} {r : gV} (hc : gCt E N d n' (.inr (k, i) :: [v1, v2]) σ (.inl (some r)) σ') (hm : gMth N 2) {x : MethodName} {C : String} (hi : gMthU E C x N) (hk : gRc k C) (ho : gOk k i) (hl : Cond.methodLink M.1.cls idx x ∈ lw_tbl) (hf : gFit D d n cells slots n') (hL : L.length = M.2.2.1) (hst : gCats st ≤ 8) (dd : decode M.2.1 pc = .ok (.invokevirtual idx, 3)) (kk : gWX X E (cells + n') (slots + 6 * n') (pc + 3) L (r :: st) σ') : gWX X E cells slots pc L (v2 :: v1 :: .inr (k, i) :: st) σ :=
  fun H locs ls hP hS hlv => gBack (L := L) (st := st) (gRunU K (v := .inr (k, i)) (as := [v1, v2]) hc hm hi rfl (gRcv_o K hk ho) hl hf (hlv.1.trans hL) hst hP hS dd) hS hlv kk
theorem x_callW2v (K : gK X E M D n) {N : gMt} {d n' idx : Nat} {k i : Nat} {v1 v2 : gV} (hc : gCt E N d n' (.inr (k, i) :: [v1, v2]) σ (.inl none) σ') (hm : gMth N 2) {x : MethodName} {C : String} (hi : gMthU E C x N) (hk : gRc k C) (ho : gOk k i) (hl : Cond.methodLink M.1.cls idx x ∈ lw_tbl) (hf : gFit D d n cells slots n') (hL : L.length = M.2.2.1) (hst : gCats st ≤ 8) (dd : decode M.2.1 pc = .ok (.invokevirtual idx, 3)) (kk : gWX X E (cells + n') (slots + 6 * n') (pc + 3) L st σ') : gWX X E cells slots pc L (v2 :: v1 :: .inr (k, i) :: st) σ :=
  fun H locs ls hP hS hlv => gBack (L := L) (st := st) (gRunU K (v := .inr (k, i)) (as := [v1, v2]) hc hm hi rfl (gRcv_o K hk ho) hl hf (hlv.1.trans hL) hst hP hS dd) hS hlv kk
theorem x_callI2 (K : gK X E M D n) {N : gMt} {d n' idx : Nat} {k i : Nat} {v1 v2 : gV} {r : gV} (hc : gCt E N d n' (.inr (k, i) :: [v1, v2]) σ (.inl (some r)) σ') (hm : gMth N 2) {C : String} (hi : gMthS M.1.cls N) (hk : gRc k C) (ho : gOk k i) (hl : Cond.methodLink M.1.cls idx N.1 ∈ lw_tbl) (hf : gFit D d n cells slots n') (hL : L.length = M.2.2.1) (hst : gCats st ≤ 8) (dd : decode M.2.1 pc = .ok (.invokespecial idx, 3)) (kk : gWX X E (cells + n') (slots + 6 * n') (pc + 3) L (r :: st) σ') : gWX X E cells slots pc L (v2 :: v1 :: .inr (k, i) :: st) σ :=
  fun H locs ls hP hS hlv => gBack (L := L) (st := st) (gRunI K (v := .inr (k, i)) (C := C) (as := [v1, v2]) hc hm hi rfl (gRcv_o K hk ho) (gRcAt K hk) hl hf (hlv.1.trans hL) hst hP hS dd) hS hlv kk
theorem x_callI2v (K : gK X E M D n) {N : gMt} {d n' idx : Nat} {k i : Nat} {v1 v2 : gV} (hc : gCt E N d n' (.inr (k, i) :: [v1, v2]) σ (.inl none) σ') (hm : gMth N 2) {C : String} (hi : gMthS M.1.cls N) (hk : gRc k C) (ho : gOk k i) (hl : Cond.methodLink M.1.cls idx N.1 ∈ lw_tbl) (hf : gFit D d n cells slots n') (hL : L.length = M.2.2.1) (hst : gCats st ≤ 8) (dd : decode M.2.1 pc = .ok (.invokespecial idx, 3)) (kk : gWX X E (cells + n') (slots + 6 * n') (pc + 3) L st σ') : gWX X E cells slots pc L (v2 :: v1 :: .inr (k, i) :: st) σ :=
  fun H locs ls hP hS hlv => gBack (L := L) (st := st) (gRunI K (v := .inr (k, i)) (C := C) (as := [v1, v2]) hc hm hi rfl (gRcv_o K hk ho) (gRcAt K hk) hl hf (hlv.1.trans hL) hst hP hS dd) hS hlv kk
end GV
