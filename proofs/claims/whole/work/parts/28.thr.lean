/-! THROWS: what a throw leans on, a method that throws, its call, its catch -/
def zS (O f d : String) (A : Nat → Prop) (U : State) (H : Heap) : Prop := ∃ (c : ClassId) (k : Class) (i : Nat) (fd : Field) (a : Nat) (cell : Cell) (v : Value), U.vm.findClass O = some c ∧ U.fieldFound? O f d = some (c, k, i, fd) ∧ fd.isStatic = true ∧ k.statics = some a ∧ H[a]? = some cell ∧ cell.vm.isStatics = true ∧ cell.cls = c ∧ fd.slot < cell.slots.size ∧ k.staticTypes[fd.slot]? = some fd.type ∧ cell.slots[fd.slot]? = some v ∧ v.isRef = true ∧ ¬ A a
theorem zS.moved {O f d : String} {A : Nat → Prop} {u U : State} {H : Heap} (hvm : u.vm.Alike U.vm) (h : zS O f d A u H) : zS O f d A U H := by
  obtain ⟨c, k, i, fd, a, cell, v, h1, h2, h3, h4, h5, h6, h7, h8, h9, h10⟩ := h
  obtain ⟨k', hi', he⟩ := State.fieldFound?_setVm hvm h2
  exact ⟨c, k', i, fd, a, cell, v, by rw [hvm.findClass]; exact h1, hi', h3, by rw [he]; exact h4, h5, h6, h7, h8, by rw [he]; exact h9, h10⟩
theorem zS.kept {O f d : String} {A : Nat → Prop} {U : State} {H H1 : Heap} (h : zS O f d A U H) (hq : ∀ a : Nat, a < H.size → ¬ A a → H1[a]? = H[a]?) : zS O f d A U H1 := by
  obtain ⟨c, k, i, fd, a, cell, v, h1, h2, h3, h4, h5, h6, h7, h8, h9, h10, h11, h12⟩ := h
  exact ⟨c, k, i, fd, a, cell, v, h1, h2, h3, h4, by rw [hq a (Array.getElem?_eq_some_iff.mp h5).1 h12]; exact h5, h6, h7, h8, h9, h10, h11, h12⟩
theorem zS.narrow {O f d : String} {A B : Nat → Prop} {U : State} {H : Heap} (h : zS O f d A U H) (hAB : ∀ q, B q → A q) : zS O f d B U H := by
  obtain ⟨c, k, i, fd, a, cell, v, h1, h2, h3, h4, h5, h6, h7, h8, h9, h10, h11, h12⟩ := h
  exact ⟨c, k, i, fd, a, cell, v, h1, h2, h3, h4, h5, h6, h7, h8, h9, h10, h11, fun z => h12 (hAB a z)⟩
theorem zS.of {args : Array Value} {s : State} {O f d : String} {A : Nat → Prop} (hl : (Cond.laysStatic O f d).before args s = true) (hr : (Cond.isRef (.static O f d)).before args s = true) (hA : ∀ a : Nat, a < s.heap.size → ¬ A a) : zS O f d A s s.heap := by
  obtain ⟨c, k, i, fd, a, cell, hc, hf, hst, hsta, hcell, hiss, hcls, hlt, hty⟩ := Cond.laysStatic_spec hl
  have hv : cell.slots[fd.slot]? = some cell.slots[fd.slot] := Array.getElem?_eq_getElem hlt
  have he : (Term.static O f d).eval args s none [] s = some cell.slots[fd.slot] := by
    simp [Term.eval, State.fieldNamed?, hf, hst, hsta, hcell, hiss, hv]
  refine ⟨c, k, i, fd, a, cell, cell.slots[fd.slot], hc, hf, hst, hsta, hcell, hiss, hcls, hlt, hty, hv, ?_, hA a (Array.getElem?_eq_some_iff.mp hcell).1⟩
  simp only [Cond.before, Cond.holds, Cond.value, he] at hr
  generalize cell.slots[fd.slot] = w at hr
  cases w <;> simp_all [Value.isRef]
theorem zS.lays {args : Array Value} {U : State} {O f d : String} {A : Nat → Prop} (h : zS O f d A U U.heap) : (Cond.laysStatic O f d).before args U = true := by
  obtain ⟨c, k, i, fd, a, cell, v, h1, h2, h3, h4, h5, h6, h7, h8, h9, h10, h11, h12⟩ := h
  exact Cond.laysStatic_of h1 h2 h3 h4 h5 h6 h7 h8 h9
theorem zS.ref {args : Array Value} {U : State} {O f d : String} {A : Nat → Prop} (h : zS O f d A U U.heap) : (Cond.isRef (.static O f d)).before args U = true := by
  obtain ⟨c, k, i, fd, a, cell, v, h1, h2, h3, h4, h5, h6, h7, h8, h9, h10, h11, h12⟩ := h
  have he : (Term.static O f d).eval args U none [] U = some v := by
    simp [Term.eval, State.fieldNamed?, h2, h3, h4, h5, h6, h10]
  simp only [Cond.before, Cond.holds, Cond.value, he]
  cases v <;> simp_all [Value.isRef]
def isTh : Cond → Bool
  | .castable .. => true
  | .declares .. => true
  | _ => false
def thW : List Cond := lw_tbl.filter isTh
theorem th_same {c : Cond} (h : isTh c = true) {B B' : Array Value} {u U : State} (hv : u.vm = U.vm) (hc : c.before B u = true) : c.before B' U = true := by
  cases c <;> first | exact va_tabs rfl hv hc | (simp [isTh] at h)
theorem th_warm {c : Cond} (h : isTh c = true) {B B' : Array Value} {s U : State} (hW : s.WarmedH U.vm) (hc : c.before B s = true) : c.before B' U = true :=
  th_same h (u := s.setVm U.vm) rfl (Cond.before_warmed hW c (by cases c <;> first | trivial | (simp [isTh] at h)) hc)
def strW : List (Nat × String) := [(57, "moves that can't be"), (68, "no room for one more bay"), (77, "no moves"), (84, "no such crane"), (86, "a rate that can't be"), (105, "no plan"), (110, "no such crane or time"), (118, "no time of a plan, or a crane that is out"), (161, "no such row, or nothing such of it"), (167, "no such bay, or nothing such of it")]
def ncW : List (String × String) := [("java/lang/IllegalStateException", "java/lang/IllegalArgumentException"), ("java/lang/IllegalArgumentException", "java/lang/ArithmeticException"), ("java/lang/IllegalStateException", "java/lang/IndexOutOfBoundsException"), ("java/lang/IllegalArgumentException", "java/lang/IndexOutOfBoundsException"), ("java/lang/IndexOutOfBoundsException", "java/lang/IllegalStateException")]
/-- what a throw leans on: words of the tables, two statics of Throwable, the texts' places -/
def xTH (U : State) (H : Heap) (A : Nat → Prop) : Prop := (∀ w ∈ thW, w.before #[] U = true) ∧ zS Bundle.tN "UNASSIGNED_STACK" Bundle.steD A U H ∧ zS Bundle.tN "SUPPRESSED_SENTINEL" Bundle.listD A U H ∧ (∀ q ∈ strW, ∃ a : Nat, vk_R "CranePlan" q.1 q.2 a U) ∧ ∀ q ∈ ncW, va_Nc q.1 q.2 U
theorem xTH.same {u U : State} {H : Heap} {A : Nat → Prop} (hv : u.vm = U.vm) (h : xTH u H A) : xTH U H A := by
  have ha : u.vm.Alike U.vm := by rw [hv]; exact Vm.Alike.refl _
  exact ⟨fun w hw => th_same (List.mem_filter.mp hw).2 hv (h.1 w hw), h.2.1.moved ha, h.2.2.1.moved ha, fun q hq => by obtain ⟨a, h1⟩ := h.2.2.2.1 q hq; exact ⟨a, vk_R.same hv.symm h1⟩, fun q hq => va_Nc.moved ha (h.2.2.2.2 q hq)⟩
theorem xTH.to {s U : State} {H : Heap} {A B : Nat → Prop} {locs : List Loc} (hW : s.WarmedH U.vm) (hS : va_S A s.heap H locs) (hAB : ∀ q, B q → A q) (h : xTH s s.heap A) : xTH U H B :=
  ⟨fun w hw => th_warm (List.mem_filter.mp hw).2 hW (h.1 w hw), ((h.2.1.moved hW.alike).kept hS.2.1).narrow hAB, ((h.2.2.1.moved hW.alike).kept hS.2.1).narrow hAB, fun q hq => by obtain ⟨a, h1⟩ := h.2.2.2.1 q hq; exact ⟨a, vk_R.warm hW h1⟩, fun q hq => va_Nc.moved hW.alike (h.2.2.2.2 q hq)⟩
def exN : List String := ["java/lang/RuntimeException", "java/lang/Exception"]
def ownB (ic : Nat) (X : String) : Bool := Bundle.fit X && (Bundle.ownAtoms "CranePlan" ic X exN).all (fun w => decide (w ∈ bigW) || decide (w ∈ thW) || decide (w = .laysStatic Bundle.tN "UNASSIGNED_STACK" Bundle.steD) || decide (w = .laysStatic Bundle.tN "SUPPRESSED_SENTINEL" Bundle.listD) || decide (w = .isRef (.static Bundle.tN "UNASSIGNED_STACK" Bundle.steD)) || decide (w = .isRef (.static Bundle.tN "SUPPRESSED_SENTINEL" Bundle.listD)))
theorem own_ok {ic : Nat} {X : String} (hb : ownB ic X = true) {args : Array Value} {s : State} {A : Nat → Prop} (hts : ∀ w ∈ bigW, w.before args s = true) (hTH : xTH s s.heap A) : ∀ w ∈ Bundle.ownAtoms "CranePlan" ic X exN, w.before args s = true := by
  intro w hw
  have h := List.all_eq_true.mp (Bool.and_eq_true _ _ ▸ hb).2 w hw
  simp only [Bool.or_eq_true, decide_eq_true_eq] at h
  rcases h with ((((h | h) | h) | h) | h) | h
  · exact hts w h
  · exact th_same (List.mem_filter.mp h).2 rfl (hTH.1 w h)
  · rw [h]; exact hTH.2.1.lays
  · rw [h]; exact hTH.2.2.1.lays
  · rw [h]; exact hTH.2.1.ref
  · rw [h]; exact hTH.2.2.1.ref
/-- it threw an object of class X; nothing that was there has changed -/
def QT (X : String) : Array Value → State → Outcome → State → Prop := fun _ st oc t => ∃ (a : Addr) (cell : Cell), oc = .threw a ∧ t.heap[a]? = some cell ∧ st.vm.findClass X = some cell.cls ∧ cell.vm.isStatics = false ∧ st.heap.size ≤ t.heap.size ∧ ∀ q : Nat, q < st.heap.size → t.heap[q]? = st.heap[q]?
def QTE (X : String) : Array Value → State → Outcome → State → Prop := fun a st o t => QT X a st o t ∧ st.WarmedH t.vm ∧ st.sameButNew ({ t with vm := st.vm } : State) [] 1 6
def MQT (below : List Frame) (X : String) (a : Array Value) (s : State) : State → Prop := fun t => ∃ o, t.status = .running ∧ Ended t below o ∧ QTE X a s o t
def MetT (l : Launch) (y : MethodName) (ws : List Cond) (rm : Room) (Pc : Array Value → State → Prop) (X : String) : Prop := MetFree l y (headSpec ws rm) Pc (fun _ _ _ _ _ => True) (QTE X)
theorem MetT.ofW {l : Launch} {y : MethodName} {ws ws' : List Cond} {rm : Room} {Pc : Array Value → State → Prop} {X : String} {cc : ByteArray} {maxL : Nat} {ret : Option FieldType} (hy : plainName y.cls = true) (hw : ws = Cond.code y cc maxL ret :: ws')
    (body : ∀ p e s m args below meth c s₁, BodyLoose p l y (headSpec ws rm) cc maxL ret e s m args below meth c s₁ → c.maxLocals = maxL → c.exceptionTable.isEmpty = true → Pc args s →
      W p l e (headSpec ws rm).room s m args below meth c s.heap [] 0 0 (MQT below X args s) (entryFrame m args maxL)) : MetT l y ws rm Pc X := by
  refine MetFree.of_bodyS (code := cc) (maxLocals := maxL) (ret := ret) hy ?_ ?_
  · intro args s m h hn
    obtain ⟨meth, c, h1, h2, h3, h4, h5, h6, -, -⟩ := Cond.code_spec hn (atoms_spec (ws := ws) h _ (by rw [hw]; exact List.mem_cons_self))
    exact ⟨meth, c, h1, h2, h3, h4, h5, h6⟩
  · intro p e s m args below meth c s₁ B hml hP _
    have Y := Stand.of_body B
    obtain ⟨meth', c', q1, q2, -, -, -, -, q7, -⟩ := Cond.code_spec B.named (atoms_spec (ws := ws) B.pre _ (by rw [hw]; exact List.mem_cons_self))
    cases q1.symm.trans B.method
    cases q2.symm.trans Y.code
    have hh0 : s₁.heap = s.heap := by rw [B.state]; rfl
    obtain ⟨t, a1, o, b1, b2, b3⟩ := body p e s m args below meth c s₁ B hml q7 hP s₁ hh0 Y
    exact ⟨t, o, a1, b1, b2, b3⟩
/-- the contract of a method that throws, from this world -/
def xCT (l : Launch) (D : va_G) (cl : List vw_C) (tys : List (ClassId × FieldType)) (NW : List Cond) (ws : va_W) (y : MethodName) (Ts : List Cond) (d : Nat) (as : List Value) (X : String) : Prop := ∀ sz : Nat, MetT l y Ts { frames := d, cells := 1, slots := 6, locals := 40 * d } (va_Pc as (fun U => U.heap.size = sz ∧ va_P D cl ws U.heap ∧ va_K D cl tys U ∧ (∀ c ∈ NW, isNest c = true ∧ va_Nw c U) ∧ va_D (fun _ => True) ws ∧ xTH U U.heap (va_A ws sz))) X
section XT
variable {p : Program} {l : Launch} {e : Env} {R : Room} {s : State} {m : MethodId} {args : Array Value} {below : List Frame} {meth : Method} {c : Code} {cells slots : Nat} {Q : State → Prop} {D : va_G} {cl : List vw_C} {A : Nat → Prop} {nL : Nat} {ws : va_W} {vs : List Value} {pc : Nat} {st : List Value} {cc : ByteArray} {own : String} {Ts NW : List Cond} {tys : List (ClassId × FieldType)} {c0 : Cond}
theorem xCT.of {y : MethodName} {d : Nat} {as : List Value} {X : String} {ret : Option FieldType} {Ts' : List Cond} (hT : Ts = Cond.code y cc nL ret :: Ts') (hy : plainName y.cls = true) (vs : List Value) (hvs : asL vs = lv_args 0 as) (hlen : (lg_sl as).length ≤ nL)
    (body : ∀ (p : Program) (e : Env) (s : State) (m : MethodId) (args : Array Value) (below : List Frame) (meth : Method) (c : Code) (A : Nat → Prop), xG p s m args c cc nL y.cls Ts NW D cl tys A → meth.sig.returnType = ret → meth.locks = false → c.exceptionTable.isEmpty = true → xTH s s.heap A → xJ p l e { frames := d, cells := 1, slots := 6, locals := 40 * d } s m args below meth c 0 0 (MQT below X args s) D cl A nL (fun H locs => H = s.heap ∧ locs = []) ws vs 0 []) : xCT l D cl tys NW ws y Ts d as X := by
  intro sz
  refine MetT.ofW (cc := cc) (maxL := nL) (ret := ret) hy hT ?_
  intro p e s m args below meth c s₁ B hml hex hv
  obtain ⟨rfl, hsz, hP, hK, hN, hD0, hTH⟩ := hv
  subst hsz
  have hD := hD0.self (sz := s.heap.size)
  have hl := lv_entry as (n := nL) hlen
  rw [lg_entry_eq]
  generalize (lg_sl as ++ List.replicate (nL - (lg_sl as).length) Slot.unset).toArray = ls at hl ⊢
  rw [← hvs] at hl
  exact body p e s m _ below meth c (va_A ws s.heap.size) ⟨B.exec, B.bytes, hml, findClass_of_methodNamed B.named, atoms_spec (ws := Ts) B.pre, hK, hN, fun q h => Or.inr h⟩ B.returns B.notSynchronized hex hTH s.heap [] ls hP hD ⟨rfl, rfl⟩ (xLV.of hl)
set_option maxHeartbeats 1000000 in
theorem x_throw (G : xG p s m args c cc nL "CranePlan" (c0 :: bigW) NW D cl tys A) (hTH : xTH s s.heap A) (htr : l.stackTraces = false) (hex : c.exceptionTable.isEmpty = true) (hlk : meth.locks = false) {idx ic si : Nat} {X tx : String} (hb : ownB ic X = true) (h1 : Cond.classLink "CranePlan" idx X ∈ bigW) (h2 : Cond.instantiable X 6 ∈ bigW) (h3 : Cond.initialized X ∈ bigW) (hs : (si, tx) ∈ strW)
    (d0 : decode cc pc = .ok (.new idx, 3)) (d1 : decode cc (pc + 3) = .ok (.dup, 1)) (d2 : decode cc (pc + 3 + 1) = .ok (.ldc si, 2)) (d3 : decode cc (pc + 3 + 1 + 2) = .ok (.invokespecial ic, 3)) (d4 : decode cc (pc + 3 + 1 + 2 + 3) = .ok (.athrow, 1)) (hR : 5 < R.frames ∧ 82 ≤ R.locals ∧ 1 ≤ R.cells ∧ 6 ≤ R.slots) :
    xJ p l e R s m args below meth c 0 0 (MQT below X args s) D cl A nL (fun H locs => H = s.heap ∧ locs = []) ws vs pc [] := by
  intro H locs ls hP hD hS hl
  obtain ⟨rfl, rfl⟩ := hS
  have hts : ∀ w ∈ bigW, w.before args s = true := fun w hw => G.2.2.2.2.1 w (.tail _ hw)
  obtain ⟨cX, kX', hfc, hkX', -⟩ := Cond.instantiable_spec (hts _ h2)
  have hin := h2
  refine W.newcK G.1 G.2.1 G.2.2.2.1 (hts _ h1) (hts _ h2) (hts _ h3) rfl d0 (by omega) (by omega) hfc rfl (fun H' kX hk hc hsz hkeep => ?_)
  refine lv_dup G.1 G.2.1 d1 rfl ?_
  obtain ⟨q, hq⟩ := hTH.2.2.2.1 (si, tx) hs
  refine va_ldcS G.1 G.2.1 G.2.2.2.1 hq d2 ?_
  intro T hT X'
  have hemp : ∀ x ∈ c.exceptionTable.toList, covers x (pc + 3 + 1 + 2 + 3) = false := by
    intro x hx
    have : c.exceptionTable.toList = [] := by simpa using hex
    rw [this] at hx; cases hx
  obtain ⟨U, stp, hrun, hend, hW, hsame, ce, hce, hoc⟩ := X'.ctorThrowS G.1 (by rw [X'.admits.platform]; exact htr) (names := exN) G.2.2.2.1 (Bool.and_eq_true _ _ ▸ hb).1 (by decide +kernel) (own_ok hb hts hTH) (fun x hx => by cases hx) hfc hk (by rw [hT]; exact hc) (Nat.le_refl _) (msg := .ref q) rfl
    (g := F0 m (pc + 3 + 1 + 2) ls [.ref q, .ref s.heap.size, .ref s.heap.size]) rfl (hl.1.trans G.2.2.1.symm) rfl rfl (rest := []) rfl (by rw [G.2.1]; exact d3) (by rw [G.2.1]; exact d4) hemp hR.1 (Nat.le_trans (show _ ≤ 82 from Nat.le_of_ble_eq_true rfl) hR.2.1) hlk
  refine ⟨U, stp, .threw s.heap.size, hrun, hend, ⟨s.heap.size, ce, rfl, hce, hoc.cls, by rw [hoc.vm]; rfl, hsame.2.1, fun z hz => ?_⟩, hW, hsame⟩
  have hc0 : s.heap[z]? = some s.heap[z] := Array.getElem?_eq_getElem hz
  rw [hc0]
  exact State.sameButNew.old_cell hsame hc0
end XT

