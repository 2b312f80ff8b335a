/-! CATCHES: a handler's search that resolves, the call of a method that throws, methods with a table -/
def cRw (s : State) (args : Array Value) (own X : String) (pc hpc : Nat) : List ExceptionTableEntry → Prop
  | [] => False
  | x :: t => covers x pc = true ∧ x.catchType ≠ 0 ∧ ∃ name : String, (Cond.classLink own x.catchType name).before args s = true ∧ ((name = X ∧ x.handlerPc = hpc) ∨ (va_Nc X name s ∧ cRw s args own X pc hpc t))
theorem go_catch {e : Env} {s₀ : State} {args : Array Value} {own X : String} {f : JFrame} {a : Addr} {hpc : Nat} (hpl : e.platform.magicAccessors = ({} : Platform).magicAccessors) (hown : s₀.vm.findClass own = some f.method.cls) {cell : Cell} (hX : s₀.vm.findClass X = some cell.cls) (hXX : s₀.vm.assignable cell.cls cell.cls = true) (hobj : ∀ k, cell.vm ≠ .statics k) (hk0 : ∃ k, s₀.vm.classes[cell.cls]? = some k) :
    ∀ (rows : List ExceptionTableEntry) (S : State), s₀.WarmedH S.vm → S.heap[a]? = some cell → cRw s₀ args own X f.pc hpc rows → ∃ vm', s₀.WarmedH vm' ∧ ∀ (Q : Handler → Pre) (E : CtlPost) (d : Bool) (acts : List Action), wp (findHandler.go f a rows) Q E e d acts S ↔ Q (.found hpc) d acts (S.setVm vm') := by
  obtain ⟨k0, hk0⟩ := hk0
  intro rows
  induction rows with
  | nil => intro S _ _ h; exact h.elim
  | cons x t ih =>
    intro S hW hcell hr
    obtain ⟨hx, h0, name, hlk, hcase⟩ := hr
    obtain ⟨c', hc', hcl⟩ := Cond.classLink_spec hown hlk e.platform hpl
    obtain ⟨dk, _, _, kt, hd, _, _, _, _, hkt, _, hopen⟩ := hcl.here
    have hWn := hW.noted hd hopen (State.rightAt_cls hcl)
    obtain ⟨ha, ht⟩ := (resolveClass_links e.toSetting (hW.classLinks hcl)).op (op := VmOp.resolveClass f.method.cls x.catchType) rfl
    have hal := hWn.alike
    obtain ⟨k1, hk1, -⟩ := hal.2.2 _ _ hk0
    obtain ⟨k2, hk2, -⟩ := hal.2.2 _ _ hkt
    simp only [covers] at hx
    rcases hcase with ⟨rfl, hh⟩ | ⟨hno, hrest⟩
    · cases hX.symm.trans hc'
      have hfit : (S.vm.noted f.method.cls x.catchType (.cls cell.cls)).assignable cell.cls cell.cls = true := by rw [hal.assignable]; exact hXX
      refine ⟨_, hWn, fun Q E d acts => ?_⟩
      rw [← hh]
      simp [findHandler.go, hx, h0, ha, ht, hcell, hobj, hk1, hfit, VmOp.dirties, VmOp.acts]
    · obtain ⟨b1, b2, g1, g2, g3⟩ := hno
      cases hX.symm.trans g1
      cases hc'.symm.trans g2
      have hfit : (S.vm.noted f.method.cls x.catchType (.cls c')).assignable cell.cls c' = false := by rw [hal.assignable]; exact g3
      obtain ⟨vm', hW', hq⟩ := ih (S.setVm (S.vm.noted f.method.cls x.catchType (.cls c'))) hWn hcell hrest
      refine ⟨vm', hW', fun Q E d acts => ?_⟩
      refine Iff.trans ?_ (hq Q E d acts)
      simp [findHandler.go, hx, h0, ha, ht, hcell, hobj, hk1, hk2, hfit, VmOp.dirties, VmOp.acts]
theorem classAt_find {s : State} {n : String} {c : ClassId} (h : s.vm.findClass n = some c) : ∃ k, s.vm.classes[c]? = some k := by
  obtain ⟨k, hk, -⟩ := Vm.findClass_spec h
  exact ⟨k, hk⟩
section XH
variable {p : Program} {l : Launch} {e : Env} {R : Room} {s : State} {m : MethodId} {args : Array Value} {below : List Frame} {meth : Method} {c : Code} {T : State} {locs : List Loc} {cells slots : Nat}
theorem caughtV (Y : Stand p l e R s m args below meth c T locs cells slots) {own X : String} (hown : s.vm.findClass own = some m.cls) {a : Addr} {g : JFrame} (hg : g.method = m) {cell : Cell} (hcell : T.heap[a]? = some cell) (hX : s.vm.findClass X = some cell.cls) (hXX : s.vm.assignable cell.cls cell.cls = true) (hobj : cell.vm.isStatics = false) (hk0 : ∃ k, s.vm.classes[cell.cls]? = some k) {hpc : Nat} (hr : cRw s args own X g.pc hpc c.exceptionTable.toList) :
    ∃ vm', Stand p l e R s m args below meth c (T.setVm vm') locs cells slots ∧ ∀ target, Steps p.tables e below ((T.setVm vm').setTop { g with pc := hpc, stack := [.ref a] }) target → Steps p.tables e below ((T.setTop g).pushFrame (.throwing a)) target := by
  subst hg
  have hpl : e.platform.magicAccessors = ({} : Platform).magicAccessors := by rw [Y.admits.platform]
  have hvm : ((T.setTop g).pushFrame (.throwing a)).vm = T.vm := Stand.throwing_vm T g a
  have hhp : ((T.setTop g).pushFrame (.throwing a)).heap = T.heap := Stand.throwing_heap T g a
  obtain ⟨vm', hW', hq⟩ := go_catch (f := g) (a := a) hpl hown hX hXX (VmData.ne_statics_of hobj) hk0 c.exceptionTable.toList ((T.setTop g).pushFrame (.throwing a)) (by rw [hvm]; exact Y.warmed) (by rw [hhp]; exact hcell) hr
  have hfind : ∀ (Q : Handler → Pre) (E : CtlPost) (d : Bool) (acts : List Action), wp (findHandler g a) Q E e d acts ((T.setTop g).pushFrame (.throwing a)) ↔ Q (.found hpc) d acts (((T.setTop g).pushFrame (.throwing a)).setVm vm') := fun Q E d acts => by
    rw [W.findHandler_eq (meth := meth) (code := c) (by rw [hvm]; exact Y.method') Y.code]
    exact hq Q E d acts
  refine ⟨vm', Y.noted hW', fun target hrest => ?_⟩
  have h := Y.here
  obtain ⟨hgo, hw⟩ := h.throwing a
  refine Steps.head hgo hw ?_
  have hstep : (stepThrowing e ((T.setTop g).pushFrame (.throwing a)) a (.java g :: T.frames.tail)).Is ((((T.setTop g).pushFrame (.throwing a)).setVm vm').setFrames (.java { g with pc := hpc, stack := [.ref a] } :: T.frames.tail)) [] := by
    simp only [stepThrowing, searchFrame, vmDo]
    generalize hr' : Sem.go _ e false [] ((T.setTop g).pushFrame (.throwing a)) = res
    obtain ⟨as, rfl, hacts⟩ := Sem.eq_ok_of hr' (a := Handler.found hpc) (s' := ((T.setTop g).pushFrame (.throwing a)).setVm vm') (acts' := []) (by simp [hfind _ _ _ _])
    exact ⟨rfl, hacts⟩
  rw [stepThread_throwing (frames_entered h.top _), hstep.1]
  obtain ⟨g₀, hg0⟩ := Option.isSome_iff_exists.mp h.top
  obtain ⟨r, hr0⟩ := State.topJava?_eq_some.mp hg0
  have hr1 : (T.setVm vm').frames = .java g₀ :: r := hr0
  rw [State.setTop_of_frames _ hr1] at hrest
  have e1 : (((T.setTop g).pushFrame (.throwing a)).setVm vm').setFrames (.java { g with pc := hpc, stack := [.ref a] } :: T.frames.tail) = (T.setVm vm').setFrames (.java { g with pc := hpc, stack := [.ref a] } :: r) := by
    rw [hr0, List.tail_cons, State.pushFrame, State.setTop_of_frames _ hr0]
    show (((T.setVm vm').setFrames _).setFrames _).setFrames _ = _
    rw [State.setFrames_setFrames, State.setFrames_setFrames]
  rw [e1]
  exact hrest
theorem callT (Y : Stand p l e R s m args below meth c T locs cells slots) (hexec : p.tables.exec = Jvm.exec) {own C Xn : String} {index nArg : Nat} {y : MethodName} {bytes : ByteArray} {maxL : Nat} {ret : Option FieldType} {ws : List Cond} {d : Nat} {Pc : Array Value → State → Prop}
    (hM : MetT l y ws { frames := d, cells := 1, slots := 6, locals := 40 * d } Pc Xn) (hblind : FrameBlind Pc) (hown : s.vm.findClass own = some m.cls) (cw : CallW R s args own C index y bytes maxL ret ws { frames := d, cells := 1, slots := 6, locals := 40 * d } 1 6 nArg)
    {b : Addr} {cellB : Cell} (hcell : T.heap[b]? = some cellB) (hobj : cellB.vm.isStatics = false) (hcls : s.vm.findClass C = some cellB.cls)
    {g : JFrame} (hg : g.method = m) (hsize : g.locals.size = c.maxLocals) {argsL rest : List Value} (hlen : argsL.length = nArg) (hstack : g.stack = argsL.reverse ++ .ref b :: rest) (hW : 2 * g.monitorRoom + (rest.map fun v => v.category).sum ≤ 8) (hdg : decode c.code g.pc = .ok (.invokevirtual index, 3)) (hcs : cells + 1 ≤ R.cells ∧ slots + 6 ≤ R.slots)
    (hPc : ∀ vm₁, s.WarmedH vm₁ → Pc (Value.ref b :: argsL).toArray (T.setVm vm₁)) :
    ∃ (x : Addr) (cell : Cell) (T' : State), Stand p l e R s m args below meth c T' locs (cells + 1) (slots + 6) ∧ T'.heap[x]? = some cell ∧ s.vm.findClass Xn = some cell.cls ∧ cell.vm.isStatics = false ∧ T.heap.size ≤ T'.heap.size ∧ (∀ q : Nat, q < T.heap.size → T'.heap[q]? = T.heap[q]?) ∧
      ∀ target, Steps p.tables e below ((T'.setTop { g with stack := rest }).pushFrame (.throwing x)) target → Steps p.tables e below (T.setTop g) target := by
  obtain ⟨⟨-, -, hfr, hlo, hws, hcw, hcode, hini, hy, hln, hlink⟩, hinst, hsel⟩ := cw
  obtain ⟨mk, methM, hnamed, hmethM, hstM, habM⟩ := Cond.instanceMethod_spec hinst
  obtain ⟨methM', cM, hmethM', hcM, -, hlM, -, -, -, hsigM⟩ := Cond.code_spec hnamed hcode
  cases hmethM.symm.trans hmethM'
  obtain ⟨c2, r2, m2, q1, q2, q3, q4, kP, hkP, hkPi⟩ := Cond.selects_spec hsel
  cases hcls.symm.trans q1
  cases (State.methodFound?_of_named hnamed hy).symm.trans q2
  cases hnamed.symm.trans q3
  have hselP : selectMethod e.platform s.vm cellB.cls mk = .method mk := by rw [Launch.admits_selectMethod Y.admits]; exact q4
  obtain ⟨vm₁, X₁, hstep₁⟩ := Y.invokevirtual hexec hown hlink hnamed hmethM hstM hkP hkPi hy (a := b) (cell := cellB) hcell (fun z h => by rw [h] at hobj; cases hobj) hselP hmethM habM hkP hkPi (g := g) hg (argsL := argsL) (rest := rest) (hlen.trans (hln _ hsigM)) hstack hdg
  have hnamed₁ := X₁.named hnamed
  have hcode₁ : (Cond.code y bytes maxL ret).before (Value.ref b :: argsL).toArray (T.setVm vm₁) = true := hws _ hcw _ _ X₁.warmed
  obtain ⟨methY, cY, hmY, hcY, -, hlY, -, -, -, -⟩ := Cond.code_spec hnamed₁ hcode₁
  obtain ⟨kY, hkY, -⟩ := className_of_methodNamed hnamed₁
  have hini₁ : (Cond.initialized y.cls).before (Value.ref b :: argsL).toArray (T.setVm vm₁) = true := word_at (U := T.setVm vm₁) X₁.warmed (Or.inl (by first | rfl | simp [Cond.onTables, Cond.keeps, Cond.steady])) hini
  have hinitY : kY.init = .initialized := Cond.initialized_spec (findClass_of_methodNamed hnamed₁) hkY hini₁
  subst hg
  have hA : At (T.setVm vm₁) g.method c below := X₁.here
  have happ : (headSpec ws { frames := d, cells := 1, slots := 6, locals := 40 * d }).appliesLoose y e.platform ((T.setVm vm₁).calling { g with stack := rest } mk (Value.ref b :: argsL).toArray) = true :=
    Spec.appliesLoose_calling (g := { g with stack := rest }) hA hdg hnamed₁ hkY hinitY
      (X₁.room_calling (g := { g with stack := rest }) (R' := (headSpec ws { frames := d, cells := 1, slots := 6, locals := 40 * d }).room) hsize hmY hcY hfr (by rw [hlY]; have hW' : 2 * ({ g with stack := rest } : JFrame).monitorRoom + (rest.map fun v => v.category).sum ≤ 8 := hW; have hlo' : 8 + (maxL + 11) + 40 * d ≤ R.locals := hlo; show 2 * ({ g with stack := rest } : JFrame).monitorRoom + (rest.map fun v => v.category).sum + (maxL + 11) + 40 * d ≤ R.locals; omega) hcs.1 hcs.2) (atoms_intro fun w hw => hws w hw _ _ X₁.warmed)
  obtain ⟨mid, hmid⟩ := hA.above
  have hfrm : ((T.setVm vm₁).setTop { g with stack := rest }).frames = (.java { g with stack := rest } :: mid) ++ below := by rw [State.frames_setTop' { g with stack := rest } hA.top, hmid]; rfl
  obtain ⟨o, s₂, hsteps, -, hend, hq⟩ := Steps.callFree hM p Y.admits Y.cas Y.clock (acts := []) hfrm happ (hblind _ _ _ _ (hPc vm₁ X₁.warmed)) trivial
  rw [State.frames_setTop' { g with stack := rest } hA.top] at hend
  obtain ⟨⟨x, cell, rfl, hcx, hfx, hox, hsz, hkeep⟩, hW₂, hsame⟩ := hq
  have hend' : Ended s₂ (.java { g with stack := rest } :: below) (.threw x) := by
    have : (T.setVm vm₁).frames.tail = below := X₁.tail
    rw [this] at hend
    exact hend
  obtain ⟨T', X₂, hWT, hsm, ht⟩ := X₁.outOfThrown (g := { g with stack := rest }) rfl hend' hW₂ hsame
  have hheap : T'.heap = s₂.heap := by rw [ht]; exact (Stand.throwing_heap T' _ x).symm
  have hfx' : s.vm.findClass Xn = some cell.cls := by
    have h1 : (T.setVm vm₁).vm.findClass Xn = some cell.cls := hfx
    rw [X₁.warmed.alike.findClass] at h1
    exact h1
  refine ⟨x, cell, T', by rw [List.append_nil] at X₂; exact X₂, by rw [hheap]; exact hcx, hfx', hox, by rw [hheap]; exact hsz, fun q hq => by rw [hheap]; exact hkeep q hq, fun target h => hstep₁ _ fun acts => ?_⟩
  rw [doInvoke_state]
  exact hsteps.trans (by rw [ht]; exact h)
end XH
section XT2
variable {p : Program} {l : Launch} {e : Env} {R : Room} {s : State} {m : MethodId} {args : Array Value} {below : List Frame} {meth : Method} {c : Code} {cells slots : Nat} {Q : State → Prop} {D : va_G} {cl : List vw_C} {A : Nat → Prop} {nL : Nat} {ws : va_W} {vs : List Value} {pc : Nat} {st : List Value} {cc : ByteArray} {own : String} {Ts NW : List Cond} {tys : List (ClassId × FieldType)}
theorem x_callT2 (G : xG p s m args c cc nL own Ts NW D cl tys A) (hTH : xTH s s.heap A) {b : Nat} {C X : String} {y : MethodName} {bytes : ByteArray} {maxL index d : Nat} {ret : Option FieldType} {Tc : List Cond} {a1 a2 : Value} (hM : xCT l D cl tys NW ws y Tc d [.ref b, a1, a2] X) (q0 : Nat) {fs : List Value} {ci : Nat} {T : u_T} {N : Nat} (he : ws[q0]? = some (b, .inr (ci, fs))) (hc : cl[ci]? = some (C, T, N)) (cw : CallW R s args own C index y bytes maxL ret Tc { frames := d, cells := 1, slots := 6, locals := 40 * d } 1 6 2) (hXX : Cond.castable X X ∈ thW) (hpc : Nat) (hr : cRw s args own X pc hpc c.exceptionTable.toList) (dd : decode cc pc = .ok (.invokevirtual index, 3)) (hroom : (st.map fun v => v.category).sum ≤ 8) (hcs : cells + 1 ≤ R.cells ∧ slots + 6 ≤ R.slots) (k : ∀ x : Nat, xJ p l e R s m args below meth c (cells + 1) (slots + 6) Q D cl A nL (va_S A s.heap) (ws) (vs) (hpc) ([.ref x])) : xJ p l e R s m args below meth c cells slots Q D cl A nL (va_S A s.heap) (ws) (vs) (pc) (a2 :: a1 :: .ref b :: st) := by
  intro H locs ls hP hD hS hl T0 hT Y
  have hFc := x_free hD hS G.2.2.2.2.2.2.2
  obtain ⟨cellB, hcB, hoB, hclB⟩ := va_recv G.2.2.2.2.2.1 hP hc he
  obtain ⟨x, cell, T', Y', h1, h2, h3, h4, h5, stp⟩ := callT Y G.1 (hM H.size) (fun a U g mk q => by
      obtain ⟨q0, q1, qP, qK, qN, qD, qT⟩ := q
      exact ⟨q0, q1, qP, va_K.moved (u := U) (U := U.calling g mk a) (Vm.Alike.refl U.vm) qK, fun c hc => ⟨(qN c hc).1, nest_same (s := U) (U := U.calling g mk a) (qN c hc).1 rfl (qN c hc).2⟩, qD, xTH.same (u := U) (U := U.calling g mk a) rfl qT⟩) G.2.2.2.1 cw (by rw [hT]; exact hcB) hoB hclB (g := F0 m pc ls (a2 :: a1 :: .ref b :: st)) rfl (hl.1.trans G.2.2.1.symm) (argsL := [a1, a2]) (rest := st) rfl rfl (lv_room hroom) (by rw [G.2.1]; exact dd) hcs
    (fun vm₁ hW => ⟨rfl, by show T0.heap.size = _; rw [hT], by show va_P D cl ws T0.heap; rw [hT]; exact hP, va_K.moved (U := T0.setVm vm₁) hW.alike G.2.2.2.2.2.1, fun c hc => ⟨(G.2.2.2.2.2.2.1 c hc).1, nest_warm (U := T0.setVm vm₁) (G.2.2.2.2.2.2.1 c hc).1 hW (G.2.2.2.2.2.2.1 c hc).2⟩, hD.weaken (fun _ _ _ _ => trivial), by show xTH (T0.setVm vm₁) T0.heap _; rw [hT]; exact hTH.to (U := T0.setVm vm₁) hW hS hFc⟩)
  have hcast := hTH.1 _ hXX
  obtain ⟨c3, c4, hc3, hc4, hasg⟩ := Cond.castable_spec (args := #[]) (first := s) (o := none) (s := s) (idx := []) hcast
  cases h2.symm.trans hc3
  cases h2.symm.trans hc4
  have hk0 : ∃ k, s.vm.classes[cell.cls]? = some k := classAt_find h2
  obtain ⟨vm', Y2, st2⟩ := caughtV Y' G.2.2.2.1 (g := F0 m pc ls st) rfl h1 h2 hasg h3 hk0 (hpc := hpc) hr
  rw [hT] at h4 h5
  obtain ⟨t, a1, b1⟩ := k x T'.heap locs ls (hP.kept (fun j q hq => h5 q.1 ((hP j q hq).lt))) hD ⟨Nat.le_trans hS.1 h4, fun q g1 g2 => (h5 q (Nat.lt_of_lt_of_le g1 hS.1)).trans (hS.2.1 q g1 g2), hS.2.2⟩ hl (T'.setVm vm') rfl Y2
  exact ⟨t, stp t (st2 t a1), b1⟩
theorem x_callT3 (G : xG p s m args c cc nL own Ts NW D cl tys A) (hTH : xTH s s.heap A) {b : Nat} {C X : String} {y : MethodName} {bytes : ByteArray} {maxL index d : Nat} {ret : Option FieldType} {Tc : List Cond} {a1 a2 a3 : Value} (hM : xCT l D cl tys NW ws y Tc d [.ref b, a1, a2, a3] X) (q0 : Nat) {fs : List Value} {ci : Nat} {T : u_T} {N : Nat} (he : ws[q0]? = some (b, .inr (ci, fs))) (hc : cl[ci]? = some (C, T, N)) (cw : CallW R s args own C index y bytes maxL ret Tc { frames := d, cells := 1, slots := 6, locals := 40 * d } 1 6 3) (hXX : Cond.castable X X ∈ thW) (hpc : Nat) (hr : cRw s args own X pc hpc c.exceptionTable.toList) (dd : decode cc pc = .ok (.invokevirtual index, 3)) (hroom : (st.map fun v => v.category).sum ≤ 8) (hcs : cells + 1 ≤ R.cells ∧ slots + 6 ≤ R.slots) (k : ∀ x : Nat, xJ p l e R s m args below meth c (cells + 1) (slots + 6) Q D cl A nL (va_S A s.heap) (ws) (vs) (hpc) ([.ref x])) : xJ p l e R s m args below meth c cells slots Q D cl A nL (va_S A s.heap) (ws) (vs) (pc) (a3 :: a2 :: a1 :: .ref b :: st) := by
  intro H locs ls hP hD hS hl T0 hT Y
  have hFc := x_free hD hS G.2.2.2.2.2.2.2
  obtain ⟨cellB, hcB, hoB, hclB⟩ := va_recv G.2.2.2.2.2.1 hP hc he
  obtain ⟨x, cell, T', Y', h1, h2, h3, h4, h5, stp⟩ := callT Y G.1 (hM H.size) (fun a U g mk q => by
      obtain ⟨q0, q1, qP, qK, qN, qD, qT⟩ := q
      exact ⟨q0, q1, qP, va_K.moved (u := U) (U := U.calling g mk a) (Vm.Alike.refl U.vm) qK, fun c hc => ⟨(qN c hc).1, nest_same (s := U) (U := U.calling g mk a) (qN c hc).1 rfl (qN c hc).2⟩, qD, xTH.same (u := U) (U := U.calling g mk a) rfl qT⟩) G.2.2.2.1 cw (by rw [hT]; exact hcB) hoB hclB (g := F0 m pc ls (a3 :: a2 :: a1 :: .ref b :: st)) rfl (hl.1.trans G.2.2.1.symm) (argsL := [a1, a2, a3]) (rest := st) rfl rfl (lv_room hroom) (by rw [G.2.1]; exact dd) hcs
    (fun vm₁ hW => ⟨rfl, by show T0.heap.size = _; rw [hT], by show va_P D cl ws T0.heap; rw [hT]; exact hP, va_K.moved (U := T0.setVm vm₁) hW.alike G.2.2.2.2.2.1, fun c hc => ⟨(G.2.2.2.2.2.2.1 c hc).1, nest_warm (U := T0.setVm vm₁) (G.2.2.2.2.2.2.1 c hc).1 hW (G.2.2.2.2.2.2.1 c hc).2⟩, hD.weaken (fun _ _ _ _ => trivial), by show xTH (T0.setVm vm₁) T0.heap _; rw [hT]; exact hTH.to (U := T0.setVm vm₁) hW hS hFc⟩)
  have hcast := hTH.1 _ hXX
  obtain ⟨c3, c4, hc3, hc4, hasg⟩ := Cond.castable_spec (args := #[]) (first := s) (o := none) (s := s) (idx := []) hcast
  cases h2.symm.trans hc3
  cases h2.symm.trans hc4
  have hk0 : ∃ k, s.vm.classes[cell.cls]? = some k := classAt_find h2
  obtain ⟨vm', Y2, st2⟩ := caughtV Y' G.2.2.2.1 (g := F0 m pc ls st) rfl h1 h2 hasg h3 hk0 (hpc := hpc) hr
  rw [hT] at h4 h5
  obtain ⟨t, a1, b1⟩ := k x T'.heap locs ls (hP.kept (fun j q hq => h5 q.1 ((hP j q hq).lt))) hD ⟨Nat.le_trans hS.1 h4, fun q g1 g2 => (h5 q (Nat.lt_of_lt_of_le g1 hS.1)).trans (hS.2.1 q g1 g2), hS.2.2⟩ hl (T'.setVm vm') rfl Y2
  exact ⟨t, stp t (st2 t a1), b1⟩
end XT2
