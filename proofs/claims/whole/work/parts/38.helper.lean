/-! THE LAW'S OWN CALLS: each returns which exception came, or 0 and the answer in the cell out -/
def xCh (l : Launch) (D : va_G) (cl : List vw_C) (tys : List (ClassId × FieldType)) (NW : List Cond) (wf : xSg → va_W) (y : MethodName) (Ts : List Cond) (d : Nat) (as : List Value) (σ : xSg) (post : Int32 → xSg → Prop) : Prop := ∀ sz : Nat, Met l y Ts { frames := d, cells := 1, slots := 6, locals := 40 * d } (va_Pc as (fun U => U.heap.size = sz ∧ va_P D cl (wf σ) U.heap ∧ va_K D cl tys U ∧ (∀ c ∈ NW, isNest c = true ∧ va_Nw c U) ∧ va_D (fun _ => True) (wf σ) ∧ xTH U U.heap (va_A (wf σ) sz))) (va_Qi post (fun u t => va_P D cl (wf u) t.heap ∧ va_D (va_A (wf σ) sz) (wf u)) (va_A (wf σ) sz)) 1 6 (va_A (wf σ) sz)
theorem xCi0.toW {l : Launch} {D : va_G} {cl : List vw_C} {tys : List (ClassId × FieldType)} {NW : List Cond} {wf : xSg → va_W} {y : MethodName} {Ts : List Cond} {d : Nat} {as : List Value} {σ : xSg} {post : Int32 → Prop} (h : xCi0 l D cl tys NW (wf σ) y Ts d as post) : xCi l D cl tys NW wf y Ts d as σ (fun r u => post r ∧ u = σ) := by
  intro sz
  refine Met.map h (fun a U q => ?_) (fun a st o t q hq => ?_) (fun q hq => hq.elim)
  · obtain ⟨q0, q1, qP, qK, qN, qD⟩ := q
    exact ⟨q0, qP, qK, qN, qD⟩
  · obtain ⟨q0, q1, qP, qK, qN, qD⟩ := q
    obtain ⟨r, e1, e2, e3⟩ := hq
    subst q1
    exact ⟨⟨r, σ, e1, ⟨e2, rfl⟩, by rw [e3]; exact qP, qD.self⟩, by rw [e3]; exact Nat.le_refl _, fun q _ _ => by rw [e3]⟩
theorem xCh.frame {l : Launch} {D : va_G} {cl : List vw_C} {tys ty2 : List (ClassId × FieldType)} {NW : List Cond} {w : xSg → va_W} {L R : va_W} {y : MethodName} {Ts : List Cond} {d : Nat} {as : List Value} {σ : xSg} {post : Int32 → xSg → Prop} (h : xCh l D cl tys NW w y Ts d as σ post) : xCh l D cl (tys ++ ty2) NW (fun u => L ++ (w u ++ R)) y Ts d as σ post := by
  intro sz
  refine (h sz).map (fun a U q => ?_) (fun a st o t q hq => ?_) (fun q hq => fr_A hq)
  · obtain ⟨q0, q1, qP, qK, qN, qD, qT⟩ := q
    obtain ⟨h1, h2⟩ := fr_sub qP qD
    exact ⟨q0, q1, h1, qK.pre, qN, h2, ⟨qT.1, qT.2.1.narrow (fun q h => fr_A h), qT.2.2.1.narrow (fun q h => fr_A h), qT.2.2.2⟩⟩
  · obtain ⟨q0, q1, qP, qK, qN, qD, qT⟩ := q
    obtain ⟨⟨r, u, e1, e2, e3, e4⟩, e5⟩ := hq
    subst q1
    obtain ⟨f1, f2⟩ := fr_put (A := va_A (L ++ (w σ ++ R)) st.heap.size) qP (qD.self (sz := st.heap.size)) e5.2 e3 e4 (fun q h => fr_A h)
    exact ⟨⟨r, u, e1, e2, f1, f2⟩, e5.wide (fun q h => fr_A h)⟩
section XHh
variable {p : Program} {l : Launch} {e : Env} {R : Room} {s : State} {m : MethodId} {args : Array Value} {below : List Frame} {meth : Method} {c : Code} {cells slots : Nat} {Q : State → Prop} {D : va_G} {cl : List vw_C} {A : Nat → Prop} {nL : Nat} {ws : va_W} {vs : List Value} {pc : Nat} {st : List Value} {cc : ByteArray} {own : String} {Ts NW : List Cond} {tys : List (ClassId × FieldType)}
theorem x_reth (G : xG p s m args c cc nL own Ts NW D cl tys A) {wf : xSg → va_W} {σ : xSg} {post : Int32 → xSg → Prop} {v : Int32} (hr : meth.sig.returnType = some .int) (hlk : meth.locks = false) (d : decode cc pc = .ok (.ireturn, 1)) (hp : post v σ) : xJ p l e R s m args below meth c 1 6 (MQ below (va_Qi post (fun u t => va_P D cl (wf u) t.heap ∧ va_D A (wf u)) A) args s 1 6 A) D cl A nL (va_S A s.heap) (wf σ) vs pc [.int v] := fun H locs ls hP hD hS hl => W.zret G.1 G.2.1 hr rfl (fun t ht hW => ⟨⟨v, σ, rfl, hp, by rw [ht]; exact hP, hD⟩, hS.F ht⟩) hS.2.2 d hlk
theorem xCh.of {wf : xSg → va_W} {y : MethodName} {d : Nat} {as : List Value} {σ : xSg} {post : Int32 → xSg → Prop} {ret : Option FieldType} {hh : List (Nat × Nat × Nat × Nat)} {Ts' : List Cond} (hT : Ts = Cond.codeWith y cc nL ret hh :: Ts') (hy : plainName y.cls = true) (vs : List Value) (hvs : asL vs = lv_args 0 as) (hlen : (lg_sl as).length ≤ nL)
    (body : ∀ (p : Program) (e : Env) (s : State) (m : MethodId) (args : Array Value) (below : List Frame) (meth : Method) (c : Code) (A : Nat → Prop), xG p s m args c cc nL y.cls Ts NW D cl tys A → meth.sig.returnType = ret → meth.locks = false → c.exceptionTable.toList = tableOf hh → xTH s s.heap A → xJ p l e { frames := d, cells := 1, slots := 6, locals := 40 * d } s m args below meth c 0 0 (MQ below (va_Qi post (fun u t => va_P D cl (wf u) t.heap ∧ va_D A (wf u)) A) args s 1 6 A) D cl A nL (va_S A s.heap) (wf σ) vs 0 []) : xCh l D cl tys NW wf y Ts d as σ post := by
  intro sz
  refine va_MetW (cc := cc) (maxL := nL) (ret := ret) (hh := hh) hy hT ?_
  intro p e s m args below meth c s₁ B hml hv
  obtain ⟨rfl, hsz, hP, hK, hN, hD0, hTH⟩ := hv
  subst hsz
  have Y := Stand.of_body B
  obtain ⟨m9, meth9, c9, hn9, h1, h2, -, -, h5, -⟩ := Cond.codeWith_spec (atoms_spec (ws := Ts) B.pre _ (by rw [hT]; exact List.mem_cons_self))
  cases hn9.symm.trans B.named
  cases h1.symm.trans B.method
  cases h2.symm.trans Y.code
  have htab : c.exceptionTable.toList = tableOf hh := by rw [← h5, table_eq]
  have hD := hD0.self (sz := s.heap.size)
  have hl := lv_entry as (n := nL) hlen
  rw [lg_entry_eq]
  generalize (lg_sl as ++ List.replicate (nL - (lg_sl as).length) Slot.unset).toArray = ls at hl ⊢
  rw [← hvs] at hl
  exact body p e s m _ below meth c (va_A (wf σ) s.heap.size) ⟨B.exec, B.bytes, hml, findClass_of_methodNamed B.named, atoms_spec (ws := Ts) B.pre, hK, hN, fun q h => Or.inr h⟩ B.returns B.notSynchronized htab hTH s.heap [] ls hP hD va_S.rf (xLV.of hl)
end XHh
section XHc
variable {p : Program} {l : Launch} {e : Env} {R : Room} {s : State} {m : MethodId} {args : Array Value} {below : List Frame} {meth : Method} {c : Code} {H : Heap} {locs : List Loc} {cells slots : Nat}
/-- the words of a static call of a method with a table -/
def cwH (R : Room) (s : State) (args : Array Value) (own : String) (index : Nat) (y : MethodName) (bytes : ByteArray) (maxL : Nat) (ret : Option FieldType) (hh : List (Nat × Nat × Nat × Nat)) (ws : List Cond) (rm : Room) (n : Nat) : Prop :=
  (rm.frames + 1 ≤ R.frames ∧ 8 + (maxL + 11) + rm.locals ≤ R.locals) ∧ (∀ w ∈ ws, ∀ (a' : Array Value) (U : State), s.WarmedH U.vm → w.before a' U = true) ∧ Cond.codeWith y bytes maxL ret hh ∈ ws ∧ (Cond.codeWith y bytes maxL ret hh).before args s = true ∧ (Cond.initialized y.cls).before args s = true ∧ (y.cls ≠ "java/lang/invoke/MethodHandle" ∧ y.cls ≠ "java/lang/invoke/VarHandle") ∧ (∀ sig, parseMethodDescriptor y.desc = some sig → n = sig.parameters.length) ∧ (Cond.methodLink own index y).before args s = true ∧ (Cond.static y).before args s = true
theorem runH {y : MethodName} {bytes cc : ByteArray} {maxL nL n index d : Nat} {ret : Option FieldType} {hh : List (Nat × Nat × Nat × Nat)} {ws Ts : List Cond} {Pc : Array Value → State → Prop} {Qc : Array Value → State → Outcome → State → Prop} {free : Addr → Prop} {own : String} {As rest : List Value} {g : JFrame}
    (S : CallFix p m c cc nL s args Ts own) (hM : Met l y ws { frames := d, cells := 1, slots := 6, locals := 40 * d } Pc Qc 1 6 free) (cw : cwH R s args own index y bytes maxL ret hh ws { frames := d, cells := 1, slots := 6, locals := 40 * d } n) (hp : PreS s H Pc As)
    (hg : g.method = m) (hn : As.length = n) (hsize : g.locals.size = nL) (hstack : g.stack = As.reverse ++ rest) (hW : 2 * g.monitorRoom + (rest.map fun v => v.category).sum ≤ 8) (hdg : decode cc g.pc = .ok (.invokestatic index, 3)) (hf : cells + 1 ≤ R.cells ∧ slots + 6 ≤ R.slots) :
    va_Run p l e R s m args below meth c H locs cells slots 1 6 g rest (Qc As.toArray) (free) := by
  obtain ⟨hR, hws, hcw, hcode, hini, hy, hlen, hl, hstt⟩ := cw
  have hK : Back l R p e below s args y 3 8 (PreOf R 1 6 Pc) (PostOf Qc 1 6 free) := va_backW (hh := hh) (bytes := bytes) (maxL := maxL) (ret := ret) hM hp.1 rfl rfl hR.1 hR.2 hws hcw (fun a' U hW => word_at hW (Or.inl (by first | rfl | simp [Cond.onTables, Cond.keeps, Cond.steady])) hini)
  obtain ⟨hx, hb, hml, ho, -⟩ := S
  intro T hT X
  obtain ⟨mk, methM, cM, hnamed, hmethM, -, -, -, -, -, -, hsigM⟩ := Cond.codeWith_spec hcode
  have hstatic : methM.isStatic = true := Cond.static_spec hnamed hmethM hstt
  obtain ⟨kP, hkP, -⟩ := className_of_methodNamed hnamed
  have hinitP : kP.init = .initialized := Cond.initialized_spec (findClass_of_methodNamed hnamed) hkP hini
  obtain ⟨vm₁, X₁, hstep₁⟩ := X.invokestatic hx ho hl hnamed hmethM hstatic hkP hinitP hy (g := g) hg (argsL := As) (rest := rest) (hn.trans (hlen _ hsigM)) hstack (by rw [hb]; exact hdg)
  obtain ⟨v, ⟨U', l2, c2, s2⟩, X', ⟨g', mk', t, L, e1, e2, hq, h1, hL, h2, h3⟩, hsteps⟩ := hK m meth c ⟨T.setVm vm₁, locs, cells, slots⟩ { g with stack := rest } (.invokestatic index) mk As.toArray X₁ hg (hsize.trans hml.symm) (by rw [hb]; exact hdg) hW (X₁.named hnamed) ⟨hf.1, hf.2, hp.2 (T.setVm vm₁) hT X₁.warmed⟩
  dsimp only [Pt.U, Pt.locs, Pt.cells, Pt.slots] at X' e1 e2 h1 h2 h3 hsteps
  subst h1; subst h2; subst h3
  exact ⟨v, (T.setVm vm₁).calling g' mk' As.toArray, t, U', L, hT, X', hL, e1, e2, hq, fun target h => hstep₁ _ fun acts => by rw [doInvoke_state]; exact hsteps.trans h⟩
end XHc
section XHs
variable {p : Program} {l : Launch} {e : Env} {R : Room} {s : State} {m : MethodId} {args : Array Value} {below : List Frame} {meth : Method} {c : Code} {cells slots : Nat} {Q : State → Prop} {D : va_G} {cl : List vw_C} {A : Nat → Prop} {nL : Nat} {ws : va_W} {vs : List Value} {pc : Nat} {st : List Value} {cc : ByteArray} {own : String} {Ts NW : List Cond} {tys : List (ClassId × FieldType)}
theorem x_callH4 (G : xG p s m args c cc nL own Ts NW D cl tys A) (hTH : xTH s s.heap A) {wf : xSg → va_W} {σ : xSg} {y : MethodName} {bytes : ByteArray} {maxL index d : Nat} {ret : Option FieldType} {hh : List (Nat × Nat × Nat × Nat)} {Tc : List Cond} {a1 a2 a3 a4 : Value} {post : Int32 → xSg → Prop} (hM : xCh l D cl tys NW wf y Tc d [a1, a2, a3, a4] σ post) (cw : cwH R s args own index y bytes maxL ret hh Tc { frames := d, cells := 1, slots := 6, locals := 40 * d } 4) (dd : decode cc pc = .ok (.invokestatic index, 3)) (hroom : (st.map fun v => v.category).sum ≤ 8) (hcs : cells + 1 ≤ R.cells ∧ slots + 6 ≤ R.slots) (k : ∀ (r : Int32) (u : xSg), post r u → xJ p l e R s m args below meth c (cells + 1) (slots + 6) Q D cl A nL (va_S A s.heap) (wf u) (vs) (pc + 3) (.int r :: st)) : xJ p l e R s m args below meth c cells slots Q D cl A nL (va_S A s.heap) (wf σ) (vs) (pc) (a4 :: a3 :: a2 :: a1 :: st) := fun H locs ls hP hD hS hl => by
  have hFc := x_free hD hS G.2.2.2.2.2.2.2
  refine va_calli (runH (As := [a1, a2, a3, a4]) (rest := st) ⟨G.1, G.2.1, G.2.2.1, G.2.2.2.1, G.2.2.2.2.1⟩ (hM H.size) cw ⟨fun a U g mk q => by obtain ⟨q0, q1, qP, qK, qN, qD, qT⟩ := q; exact ⟨q0, q1, qP, va_K.moved (u := U) (U := U.calling g mk a) (Vm.Alike.refl U.vm) qK, fun c hc => ⟨(qN c hc).1, nest_same (s := U) (U := U.calling g mk a) (qN c hc).1 rfl (qN c hc).2⟩, qD, xTH.same (u := U) (U := U.calling g mk a) rfl qT⟩, fun U hU hW => ⟨rfl, by rw [hU], by rw [hU]; exact hP, va_K.moved hW.alike G.2.2.2.2.2.1, fun c hc => ⟨(G.2.2.2.2.2.2.1 c hc).1, nest_warm (G.2.2.2.2.2.2.1 c hc).1 hW (G.2.2.2.2.2.2.1 c hc).2⟩, hD.weaken (fun _ _ _ _ => trivial), by rw [hU]; exact hTH.to hW hS hFc⟩⟩ rfl rfl hl.1 rfl (lv_room hroom) dd hcs) hS (fun q _ h => hFc q h) hFc (fun r u t H1 locs1 ht hvm hw hB hz1 hk1 hS1 => ?_)
  obtain ⟨hP1, hD1⟩ := hB
  rw [ht] at hP1
  exact k r u hw H1 locs1 ls hP1 (hD1.weaken (fun _ q _ h => hFc q.1 h)) hS1 hl
theorem x_callH5 (G : xG p s m args c cc nL own Ts NW D cl tys A) (hTH : xTH s s.heap A) {wf : xSg → va_W} {σ : xSg} {y : MethodName} {bytes : ByteArray} {maxL index d : Nat} {ret : Option FieldType} {hh : List (Nat × Nat × Nat × Nat)} {Tc : List Cond} {a1 a2 a3 a4 a5 : Value} {post : Int32 → xSg → Prop} (hM : xCh l D cl tys NW wf y Tc d [a1, a2, a3, a4, a5] σ post) (cw : cwH R s args own index y bytes maxL ret hh Tc { frames := d, cells := 1, slots := 6, locals := 40 * d } 5) (dd : decode cc pc = .ok (.invokestatic index, 3)) (hroom : (st.map fun v => v.category).sum ≤ 8) (hcs : cells + 1 ≤ R.cells ∧ slots + 6 ≤ R.slots) (k : ∀ (r : Int32) (u : xSg), post r u → xJ p l e R s m args below meth c (cells + 1) (slots + 6) Q D cl A nL (va_S A s.heap) (wf u) (vs) (pc + 3) (.int r :: st)) : xJ p l e R s m args below meth c cells slots Q D cl A nL (va_S A s.heap) (wf σ) (vs) (pc) (a5 :: a4 :: a3 :: a2 :: a1 :: st) := fun H locs ls hP hD hS hl => by
  have hFc := x_free hD hS G.2.2.2.2.2.2.2
  refine va_calli (runH (As := [a1, a2, a3, a4, a5]) (rest := st) ⟨G.1, G.2.1, G.2.2.1, G.2.2.2.1, G.2.2.2.2.1⟩ (hM H.size) cw ⟨fun a U g mk q => by obtain ⟨q0, q1, qP, qK, qN, qD, qT⟩ := q; exact ⟨q0, q1, qP, va_K.moved (u := U) (U := U.calling g mk a) (Vm.Alike.refl U.vm) qK, fun c hc => ⟨(qN c hc).1, nest_same (s := U) (U := U.calling g mk a) (qN c hc).1 rfl (qN c hc).2⟩, qD, xTH.same (u := U) (U := U.calling g mk a) rfl qT⟩, fun U hU hW => ⟨rfl, by rw [hU], by rw [hU]; exact hP, va_K.moved hW.alike G.2.2.2.2.2.1, fun c hc => ⟨(G.2.2.2.2.2.2.1 c hc).1, nest_warm (G.2.2.2.2.2.2.1 c hc).1 hW (G.2.2.2.2.2.2.1 c hc).2⟩, hD.weaken (fun _ _ _ _ => trivial), by rw [hU]; exact hTH.to hW hS hFc⟩⟩ rfl rfl hl.1 rfl (lv_room hroom) dd hcs) hS (fun q _ h => hFc q h) hFc (fun r u t H1 locs1 ht hvm hw hB hz1 hk1 hS1 => ?_)
  obtain ⟨hP1, hD1⟩ := hB
  rw [ht] at hP1
  exact k r u hw H1 locs1 ls hP1 (hD1.weaken (fun _ q _ h => hFc q.1 h)) hS1 hl
end XHs
abbrev tyL (cI cZ cJ cL : ClassId) : List (ClassId × FieldType) := tyC cI cZ cJ ++ [(cL, .long)]
abbrev oE (oa : Nat) (cL : ClassId) (σ : xSg) : Nat × va_E := (oa, .inl (cL, 1, .inr (.inl (fun j => if j = 0 then (σ 25 0).toInt64 else 0))))
/-- the class's world, and the cell for an answer -/
def wH (ad : Nat → Nat) (oa : Nat) (cI cZ cJ cL : ClassId) (σ : xSg) : va_W := wC ad cI cZ cJ σ ++ [oE oa cL σ]
def ow (u : xSg) (r : Int32) : xSg := fun q => if q = 25 then (fun _ => r) else u q
theorem oE_set {a b : Int64} : vp_updL (fun j => if j = 0 then a else 0) 0 b = (fun j => if j = 0 then b else 0) := by
  funext j
  unfold vp_updL
  by_cases h : j = 0
  · simp [h]
  · simp [h]
theorem wH_set {ad : Nat → Nat} {oa : Nat} {cI cZ cJ cL : ClassId} {σ u : xSg} {r : Int32} : ([] ++ (wC ad cI cZ cJ u ++ [oE oa cL σ])).set 25 (oa, .inl (cL, 1, .inr (.inl (vp_updL (fun j => if j = 0 then (σ 25 0).toInt64 else 0) (0 : Int32).toNatClampNeg r.toInt64)))) = wH ad oa cI cZ cJ cL (ow u r) := by
  rw [show (0 : Int32).toNatClampNeg = 0 by decide, oE_set]
  rfl
theorem cast_Arg : Cond.castable "java/lang/IllegalArgumentException" "java/lang/IllegalArgumentException" ∈ thW := by decide +kernel
theorem cast_Sta : Cond.castable "java/lang/IllegalStateException" "java/lang/IllegalStateException" ∈ thW := by decide +kernel
theorem cast_Arith : Cond.castable "java/lang/ArithmeticException" "java/lang/ArithmeticException" ∈ thW := by decide +kernel
theorem cast_Index : Cond.castable "java/lang/IndexOutOfBoundsException" "java/lang/IndexOutOfBoundsException" ∈ thW := by decide +kernel
theorem cVt {R : Room} {s : State} {args : Array Value} {own C : String} {idx n d N : Nat} {y : MethodName} {b : ByteArray} {ret : Option FieldType} {c0 : Cond} (hts : ∀ w ∈ (c0 :: bigW), w.before args s = true) (h1 : Cond.methodLink own idx y ∈ bigW) (h2 : Cond.instanceMethod y ∈ bigW) (h3 : Cond.selects C y y ∈ bigW) (h4 : Cond.initialized C ∈ bigW) (h5 : Cond.code y b n ret ∈ bigW)
    (hd : y.cls = C ∧ y.cls ≠ "java/lang/invoke/MethodHandle" ∧ y.cls ≠ "java/lang/invoke/VarHandle" ∧ (parseMethodDescriptor y.desc).map (fun d => d.parameters.length) = some N) (hR : d + 1 ≤ R.frames ∧ 8 + (n + 11) + 40 * d ≤ R.locals) :
    CallW R s args own C idx y b n ret (Cond.code y b n ret :: bigW) { frames := d, cells := 1, slots := 6, locals := 40 * d } 1 6 N :=
  cwV N hts (by unfold wsV; exact good_app (fun w hw => by simp only [List.mem_cons, List.not_mem_nil, or_false] at hw; rcases hw with rfl | rfl | rfl | rfl <;> assumption) h5) rfl rfl rfl hd hR
set_option maxHeartbeats 4000000 in
set_option maxRecDepth 100000 in
theorem hL_bay {l : Launch} {D : va_G} {cI cZ cJ cL : ClassId} {ad : Nat → Nat} {oa : Nat} {σ : xSg} {t1 t2 : Int32} {dd : Nat} (hdd : dd ≤ 6) {Pst : Int32 → xSg → Prop} (hM : xCi l D vCl (tyC cI cZ cJ) nwW (wC ad cI cZ cJ) yP_bay (.code yP_bay bP_bay 3 (some .int) :: bigW) dd [.ref (ad 0), .int t1, .int t2] σ Pst) : xCh l D vCl (tyL cI cZ cJ cL) nwW (wH ad oa cI cZ cJ cL) yL_bay (.codeWith yL_bay bL_bay 5 (some .int) [((0 : Nat), (10 : Nat), (13 : Nat), (13 : Nat)), ((0 : Nat), (10 : Nat), (17 : Nat), (15 : Nat))] :: bigW) 7 [.ref (ad 0), .int t1, .int t2, .ref oa] σ (fun k u' => k = 0 ∧ ∃ r u, Pst r u ∧ u' = ow u r) := by
  refine xCh.of (wf := wH ad oa cI cZ cJ cL) (cc := bL_bay) (nL := 5) (ret := some .int) (hh := [((0 : Nat), (10 : Nat), (13 : Nat), (13 : Nat)), ((0 : Nat), (10 : Nat), (17 : Nat), (15 : Nat))]) rfl (by decide) [.ref (ad 0), .int t1, .int t2, .ref oa, .null] rfl (Nat.le_of_ble_eq_true rfl) ?_
  intro pp ee ss mm aa bb me cde AA G hr hlk htab hTH
  refine x_aload_n G 3 dL_bay_0 rfl rfl ?_
  refine x_iconst G (0) dL_bay_1 (by decide) ?_
  refine x_aload_n G 0 dL_bay_2 rfl rfl ?_
  refine x_iload_n G 1 dL_bay_3 rfl rfl ?_
  refine x_iload_n G 2 dL_bay_4 rfl rfl ?_
  refine x_callV2i G (wf := fun u => [] ++ (wC ad cI cZ cJ u ++ [oE oa cL σ])) (xCi.frame (L := []) (R := [oE oa cL σ]) (ty2 := [(cL, .long)]) hM) 0 rfl rfl (cV G.2.2.2.2.1 wd_372 wd_373 wd_374 wd_48 wd_375 (by decide +kernel) ⟨by show dd + 1 ≤ 7; omega, by show 8 + (3 + 11) + 40 * dd ≤ 40 * 7; omega⟩) dL_bay_5 (Nat.le_of_ble_eq_true rfl) ⟨Nat.zero_le _, Nat.zero_le _⟩ (fun r u hu => ?_)
  refine x_i2l G dL_bay_8 ?_
  refine x_last G 25 3 rfl rfl (wH_set (r := r)) (vp_in_nI (n := 0) (N := 1) (by decide) (by decide)) dL_bay_9 ?_
  refine x_goto G 21 dL_bay_10 (by decide) ?_
  refine x_iconst G (0) dL_bay_21 (by decide) ?_
  refine x_widen (k := 1) (n := 6) (by decide) (by decide) ?_
  exact x_reth G hr hlk dL_bay_22 ⟨rfl, r, u, hu, rfl⟩
set_option maxHeartbeats 4000000 in
set_option maxRecDepth 100000 in
theorem hT_bay1 {l : Launch} {D : va_G} {cI cZ cJ cL : ClassId} {ad : Nat → Nat} {oa : Nat} {σ : xSg} {t1 t2 : Int32} (hM : xCT l D vCl (tyC cI cZ cJ) nwW (wC ad cI cZ cJ σ) yP_bay (.code yP_bay bP_bay 3 (some .int) :: bigW) 6 [.ref (ad 0), .int t1, .int t2] "java/lang/IllegalArgumentException") : xCh l D vCl (tyL cI cZ cJ cL) nwW (wH ad oa cI cZ cJ cL) yL_bay (.codeWith yL_bay bL_bay 5 (some .int) [((0 : Nat), (10 : Nat), (13 : Nat), (13 : Nat)), ((0 : Nat), (10 : Nat), (17 : Nat), (15 : Nat))] :: bigW) 7 [.ref (ad 0), .int t1, .int t2, .ref oa] σ (fun k u => k = 1 ∧ u = σ) := by
  refine xCh.of (wf := wH ad oa cI cZ cJ cL) (cc := bL_bay) (nL := 5) (ret := some .int) (hh := [((0 : Nat), (10 : Nat), (13 : Nat), (13 : Nat)), ((0 : Nat), (10 : Nat), (17 : Nat), (15 : Nat))]) rfl (by decide) [.ref (ad 0), .int t1, .int t2, .ref oa, .null] rfl (Nat.le_of_ble_eq_true rfl) ?_
  intro pp ee ss mm aa bb me cde AA G hr hlk htab hTH
  refine x_aload_n G 3 dL_bay_0 rfl rfl ?_
  refine x_iconst G (0) dL_bay_1 (by decide) ?_
  refine x_aload_n G 0 dL_bay_2 rfl rfl ?_
  refine x_iload_n G 1 dL_bay_3 rfl rfl ?_
  refine x_iload_n G 2 dL_bay_4 rfl rfl ?_
  refine x_callT2 G hTH (xCT.frame (L := []) (R := [oE oa cL σ]) (ty2 := [(cL, .long)]) hM) 0 rfl rfl (cVt G.2.2.2.2.1 wd_372 wd_373 wd_374 wd_48 wd_375 (by decide +kernel) ⟨(Nat.le_of_ble_eq_true rfl), (Nat.le_of_ble_eq_true rfl)⟩) cast_Arg 13 (by rw [htab]; exact ⟨rfl, by decide, "java/lang/IllegalArgumentException", (G.2.2.2.2.1 _ (.tail _ wd_370)), Or.inl ⟨rfl, rfl⟩⟩) dL_bay_5 (Nat.le_of_ble_eq_true rfl) ⟨(Nat.le_of_ble_eq_true rfl), (Nat.le_of_ble_eq_true rfl)⟩ (fun x => ?_)
  refine x_astore G dL_bay_13 (by decide) ?_
  refine x_iconst G (1) dL_bay_15 (by decide) ?_
  exact x_reth G hr hlk dL_bay_16 ⟨rfl, rfl⟩
set_option maxHeartbeats 4000000 in
set_option maxRecDepth 100000 in
theorem hT_bay2 {l : Launch} {D : va_G} {cI cZ cJ cL : ClassId} {ad : Nat → Nat} {oa : Nat} {σ : xSg} {t1 t2 : Int32} (hM : xCT l D vCl (tyC cI cZ cJ) nwW (wC ad cI cZ cJ σ) yP_bay (.code yP_bay bP_bay 3 (some .int) :: bigW) 6 [.ref (ad 0), .int t1, .int t2] "java/lang/IllegalStateException") : xCh l D vCl (tyL cI cZ cJ cL) nwW (wH ad oa cI cZ cJ cL) yL_bay (.codeWith yL_bay bL_bay 5 (some .int) [((0 : Nat), (10 : Nat), (13 : Nat), (13 : Nat)), ((0 : Nat), (10 : Nat), (17 : Nat), (15 : Nat))] :: bigW) 7 [.ref (ad 0), .int t1, .int t2, .ref oa] σ (fun k u => k = 2 ∧ u = σ) := by
  refine xCh.of (wf := wH ad oa cI cZ cJ cL) (cc := bL_bay) (nL := 5) (ret := some .int) (hh := [((0 : Nat), (10 : Nat), (13 : Nat), (13 : Nat)), ((0 : Nat), (10 : Nat), (17 : Nat), (15 : Nat))]) rfl (by decide) [.ref (ad 0), .int t1, .int t2, .ref oa, .null] rfl (Nat.le_of_ble_eq_true rfl) ?_
  intro pp ee ss mm aa bb me cde AA G hr hlk htab hTH
  refine x_aload_n G 3 dL_bay_0 rfl rfl ?_
  refine x_iconst G (0) dL_bay_1 (by decide) ?_
  refine x_aload_n G 0 dL_bay_2 rfl rfl ?_
  refine x_iload_n G 1 dL_bay_3 rfl rfl ?_
  refine x_iload_n G 2 dL_bay_4 rfl rfl ?_
  refine x_callT2 G hTH (xCT.frame (L := []) (R := [oE oa cL σ]) (ty2 := [(cL, .long)]) hM) 0 rfl rfl (cVt G.2.2.2.2.1 wd_372 wd_373 wd_374 wd_48 wd_375 (by decide +kernel) ⟨(Nat.le_of_ble_eq_true rfl), (Nat.le_of_ble_eq_true rfl)⟩) cast_Sta 17 (by rw [htab]; exact ⟨rfl, by decide, "java/lang/IllegalArgumentException", (G.2.2.2.2.1 _ (.tail _ wd_370)), Or.inr ⟨hTH.2.2.2.2 ("java/lang/IllegalStateException", "java/lang/IllegalArgumentException") (by decide), ⟨rfl, by decide, "java/lang/IllegalStateException", (G.2.2.2.2.1 _ (.tail _ wd_371)), Or.inl ⟨rfl, rfl⟩⟩⟩⟩) dL_bay_5 (Nat.le_of_ble_eq_true rfl) ⟨(Nat.le_of_ble_eq_true rfl), (Nat.le_of_ble_eq_true rfl)⟩ (fun x => ?_)
  refine x_astore G dL_bay_17 (by decide) ?_
  refine x_iconst G (2) dL_bay_19 (by decide) ?_
  exact x_reth G hr hlk dL_bay_20 ⟨rfl, rfl⟩
set_option maxHeartbeats 4000000 in
set_option maxRecDepth 100000 in
theorem hL_rate {l : Launch} {D : va_G} {cI cZ cJ cL : ClassId} {ad : Nat → Nat} {oa : Nat} {σ : xSg} {t1 t2 t3 : Int32} {dd : Nat} (hdd : dd ≤ 6) {Pst : Int32 → xSg → Prop} (hM : xCi l D vCl (tyC cI cZ cJ) nwW (wC ad cI cZ cJ) yP_rate (.code yP_rate bP_rate 4 (some .boolean) :: bigW) dd [.ref (ad 0), .int t1, .int t2, .int t3] σ Pst) : xCh l D vCl (tyL cI cZ cJ cL) nwW (wH ad oa cI cZ cJ cL) yL_rate (.codeWith yL_rate bL_rate 6 (some .int) [((0 : Nat), (19 : Nat), (22 : Nat), (21 : Nat)), ((0 : Nat), (19 : Nat), (26 : Nat), (13 : Nat))] :: bigW) 7 [.ref (ad 0), .int t1, .int t2, .int t3, .ref oa] σ (fun k u' => k = 0 ∧ ∃ r u, Pst r u ∧ u' = ow u (if r = 0 then 0 else 1)) := by
  refine xCh.of (wf := wH ad oa cI cZ cJ cL) (cc := bL_rate) (nL := 6) (ret := some .int) (hh := [((0 : Nat), (19 : Nat), (22 : Nat), (21 : Nat)), ((0 : Nat), (19 : Nat), (26 : Nat), (13 : Nat))]) rfl (by decide) [.ref (ad 0), .int t1, .int t2, .int t3, .ref oa, .null] rfl (Nat.le_of_ble_eq_true rfl) ?_
  intro pp ee ss mm aa bb me cde AA G hr hlk htab hTH
  refine x_aload G dL_rate_0 rfl ?_
  refine x_iconst G (0) dL_rate_2 (by decide) ?_
  refine x_aload_n G 0 dL_rate_3 rfl rfl ?_
  refine x_iload_n G 1 dL_rate_4 rfl rfl ?_
  refine x_iload_n G 2 dL_rate_5 rfl rfl ?_
  refine x_iload_n G 3 dL_rate_6 rfl rfl ?_
  refine x_callV3i G (wf := fun u => [] ++ (wC ad cI cZ cJ u ++ [oE oa cL σ])) (xCi.frame (L := []) (R := [oE oa cL σ]) (ty2 := [(cL, .long)]) hM) 0 rfl rfl (cV G.2.2.2.2.1 wd_474 wd_475 wd_476 wd_48 wd_477 (by decide +kernel) ⟨by show dd + 1 ≤ 7; omega, by show 8 + (4 + 11) + 40 * dd ≤ 40 * 7; omega⟩) dL_rate_7 (Nat.le_of_ble_eq_true rfl) ⟨Nat.zero_le _, Nat.zero_le _⟩ (fun r u hu => ?_)
  refine x_if_eq G 17 dL_rate_10 (by decide) (fun h10 => ?_) (fun h10 => ?_)
  · refine x_lconst G 0 dL_rate_17 (by decide) ?_
    refine x_topl (z := (0 : Int32).toInt64) (by decide) ?_
    refine x_last G 25 3 rfl rfl (wH_set (r := 0)) (vp_in_nI (n := 0) (N := 1) (by decide) (by decide)) dL_rate_18 ?_
    refine x_goto G 30 dL_rate_19 (by decide) ?_
    refine x_iconst G (0) dL_rate_30 (by decide) ?_
    refine x_widen (k := 1) (n := 6) (by decide) (by decide) ?_
    exact x_reth G hr hlk dL_rate_31 ⟨rfl, r, u, hu, (by rw [if_pos h10])⟩
  · refine x_lconst G 1 dL_rate_13 (by decide) ?_
    refine x_goto G 18 dL_rate_14 (by decide) ?_
    refine x_topl (z := (1 : Int32).toInt64) (by decide) ?_
    refine x_last G 25 3 rfl rfl (wH_set (r := 1)) (vp_in_nI (n := 0) (N := 1) (by decide) (by decide)) dL_rate_18 ?_
    refine x_goto G 30 dL_rate_19 (by decide) ?_
    refine x_iconst G (0) dL_rate_30 (by decide) ?_
    refine x_widen (k := 1) (n := 6) (by decide) (by decide) ?_
    exact x_reth G hr hlk dL_rate_31 ⟨rfl, r, u, hu, (by rw [if_neg h10])⟩
set_option maxHeartbeats 4000000 in
set_option maxRecDepth 100000 in
theorem hT_rate1 {l : Launch} {D : va_G} {cI cZ cJ cL : ClassId} {ad : Nat → Nat} {oa : Nat} {σ : xSg} {t1 t2 t3 : Int32} (hM : xCT l D vCl (tyC cI cZ cJ) nwW (wC ad cI cZ cJ σ) yP_rate (.code yP_rate bP_rate 4 (some .boolean) :: bigW) 6 [.ref (ad 0), .int t1, .int t2, .int t3] "java/lang/ArithmeticException") : xCh l D vCl (tyL cI cZ cJ cL) nwW (wH ad oa cI cZ cJ cL) yL_rate (.codeWith yL_rate bL_rate 6 (some .int) [((0 : Nat), (19 : Nat), (22 : Nat), (21 : Nat)), ((0 : Nat), (19 : Nat), (26 : Nat), (13 : Nat))] :: bigW) 7 [.ref (ad 0), .int t1, .int t2, .int t3, .ref oa] σ (fun k u => k = 1 ∧ u = σ) := by
  refine xCh.of (wf := wH ad oa cI cZ cJ cL) (cc := bL_rate) (nL := 6) (ret := some .int) (hh := [((0 : Nat), (19 : Nat), (22 : Nat), (21 : Nat)), ((0 : Nat), (19 : Nat), (26 : Nat), (13 : Nat))]) rfl (by decide) [.ref (ad 0), .int t1, .int t2, .int t3, .ref oa, .null] rfl (Nat.le_of_ble_eq_true rfl) ?_
  intro pp ee ss mm aa bb me cde AA G hr hlk htab hTH
  refine x_aload G dL_rate_0 rfl ?_
  refine x_iconst G (0) dL_rate_2 (by decide) ?_
  refine x_aload_n G 0 dL_rate_3 rfl rfl ?_
  refine x_iload_n G 1 dL_rate_4 rfl rfl ?_
  refine x_iload_n G 2 dL_rate_5 rfl rfl ?_
  refine x_iload_n G 3 dL_rate_6 rfl rfl ?_
  refine x_callT3 G hTH (xCT.frame (L := []) (R := [oE oa cL σ]) (ty2 := [(cL, .long)]) hM) 0 rfl rfl (cVt G.2.2.2.2.1 wd_474 wd_475 wd_476 wd_48 wd_477 (by decide +kernel) ⟨(Nat.le_of_ble_eq_true rfl), (Nat.le_of_ble_eq_true rfl)⟩) cast_Arith 22 (by rw [htab]; exact ⟨rfl, by decide, "java/lang/ArithmeticException", (G.2.2.2.2.1 _ (.tail _ wd_473)), Or.inl ⟨rfl, rfl⟩⟩) dL_rate_7 (Nat.le_of_ble_eq_true rfl) ⟨(Nat.le_of_ble_eq_true rfl), (Nat.le_of_ble_eq_true rfl)⟩ (fun x => ?_)
  refine x_astore G dL_rate_22 (by decide) ?_
  refine x_iconst G (1) dL_rate_24 (by decide) ?_
  exact x_reth G hr hlk dL_rate_25 ⟨rfl, rfl⟩
set_option maxHeartbeats 4000000 in
set_option maxRecDepth 100000 in
theorem hT_rate2 {l : Launch} {D : va_G} {cI cZ cJ cL : ClassId} {ad : Nat → Nat} {oa : Nat} {σ : xSg} {t1 t2 t3 : Int32} (hM : xCT l D vCl (tyC cI cZ cJ) nwW (wC ad cI cZ cJ σ) yP_rate (.code yP_rate bP_rate 4 (some .boolean) :: bigW) 6 [.ref (ad 0), .int t1, .int t2, .int t3] "java/lang/IllegalArgumentException") : xCh l D vCl (tyL cI cZ cJ cL) nwW (wH ad oa cI cZ cJ cL) yL_rate (.codeWith yL_rate bL_rate 6 (some .int) [((0 : Nat), (19 : Nat), (22 : Nat), (21 : Nat)), ((0 : Nat), (19 : Nat), (26 : Nat), (13 : Nat))] :: bigW) 7 [.ref (ad 0), .int t1, .int t2, .int t3, .ref oa] σ (fun k u => k = 2 ∧ u = σ) := by
  refine xCh.of (wf := wH ad oa cI cZ cJ cL) (cc := bL_rate) (nL := 6) (ret := some .int) (hh := [((0 : Nat), (19 : Nat), (22 : Nat), (21 : Nat)), ((0 : Nat), (19 : Nat), (26 : Nat), (13 : Nat))]) rfl (by decide) [.ref (ad 0), .int t1, .int t2, .int t3, .ref oa, .null] rfl (Nat.le_of_ble_eq_true rfl) ?_
  intro pp ee ss mm aa bb me cde AA G hr hlk htab hTH
  refine x_aload G dL_rate_0 rfl ?_
  refine x_iconst G (0) dL_rate_2 (by decide) ?_
  refine x_aload_n G 0 dL_rate_3 rfl rfl ?_
  refine x_iload_n G 1 dL_rate_4 rfl rfl ?_
  refine x_iload_n G 2 dL_rate_5 rfl rfl ?_
  refine x_iload_n G 3 dL_rate_6 rfl rfl ?_
  refine x_callT3 G hTH (xCT.frame (L := []) (R := [oE oa cL σ]) (ty2 := [(cL, .long)]) hM) 0 rfl rfl (cVt G.2.2.2.2.1 wd_474 wd_475 wd_476 wd_48 wd_477 (by decide +kernel) ⟨(Nat.le_of_ble_eq_true rfl), (Nat.le_of_ble_eq_true rfl)⟩) cast_Arg 26 (by rw [htab]; exact ⟨rfl, by decide, "java/lang/ArithmeticException", (G.2.2.2.2.1 _ (.tail _ wd_473)), Or.inr ⟨hTH.2.2.2.2 ("java/lang/IllegalArgumentException", "java/lang/ArithmeticException") (by decide), ⟨rfl, by decide, "java/lang/IllegalArgumentException", (G.2.2.2.2.1 _ (.tail _ wd_370)), Or.inl ⟨rfl, rfl⟩⟩⟩⟩) dL_rate_7 (Nat.le_of_ble_eq_true rfl) ⟨(Nat.le_of_ble_eq_true rfl), (Nat.le_of_ble_eq_true rfl)⟩ (fun x => ?_)
  refine x_astore G dL_rate_26 (by decide) ?_
  refine x_iconst G (2) dL_rate_28 (by decide) ?_
  exact x_reth G hr hlk dL_rate_29 ⟨rfl, rfl⟩
set_option maxHeartbeats 4000000 in
set_option maxRecDepth 100000 in
theorem hL_works {l : Launch} {D : va_G} {cI cZ cJ cL : ClassId} {ad : Nat → Nat} {oa : Nat} {σ : xSg} {t1 t2 : Int32} {dd : Nat} (hdd : dd ≤ 6) {Pst : Int32 → xSg → Prop} (hM : xCi l D vCl (tyC cI cZ cJ) nwW (wC ad cI cZ cJ) yP_works (.code yP_works bP_works 3 (some .int) :: bigW) dd [.ref (ad 0), .int t1, .int t2] σ Pst) : xCh l D vCl (tyL cI cZ cJ cL) nwW (wH ad oa cI cZ cJ cL) yL_works (.codeWith yL_works bL_works 5 (some .int) [((0 : Nat), (10 : Nat), (13 : Nat), (26 : Nat)), ((0 : Nat), (10 : Nat), (17 : Nat), (15 : Nat))] :: bigW) 7 [.ref (ad 0), .int t1, .int t2, .ref oa] σ (fun k u' => k = 0 ∧ ∃ r u, Pst r u ∧ u' = ow u r) := by
  refine xCh.of (wf := wH ad oa cI cZ cJ cL) (cc := bL_works) (nL := 5) (ret := some .int) (hh := [((0 : Nat), (10 : Nat), (13 : Nat), (26 : Nat)), ((0 : Nat), (10 : Nat), (17 : Nat), (15 : Nat))]) rfl (by decide) [.ref (ad 0), .int t1, .int t2, .ref oa, .null] rfl (Nat.le_of_ble_eq_true rfl) ?_
  intro pp ee ss mm aa bb me cde AA G hr hlk htab hTH
  refine x_aload_n G 3 dL_works_0 rfl rfl ?_
  refine x_iconst G (0) dL_works_1 (by decide) ?_
  refine x_aload_n G 0 dL_works_2 rfl rfl ?_
  refine x_iload_n G 1 dL_works_3 rfl rfl ?_
  refine x_iload_n G 2 dL_works_4 rfl rfl ?_
  refine x_callV2i G (wf := fun u => [] ++ (wC ad cI cZ cJ u ++ [oE oa cL σ])) (xCi.frame (L := []) (R := [oE oa cL σ]) (ty2 := [(cL, .long)]) hM) 0 rfl rfl (cV G.2.2.2.2.1 wd_505 wd_506 wd_507 wd_48 wd_508 (by decide +kernel) ⟨by show dd + 1 ≤ 7; omega, by show 8 + (3 + 11) + 40 * dd ≤ 40 * 7; omega⟩) dL_works_5 (Nat.le_of_ble_eq_true rfl) ⟨Nat.zero_le _, Nat.zero_le _⟩ (fun r u hu => ?_)
  refine x_i2l G dL_works_8 ?_
  refine x_last G 25 3 rfl rfl (wH_set (r := r)) (vp_in_nI (n := 0) (N := 1) (by decide) (by decide)) dL_works_9 ?_
  refine x_goto G 21 dL_works_10 (by decide) ?_
  refine x_iconst G (0) dL_works_21 (by decide) ?_
  refine x_widen (k := 1) (n := 6) (by decide) (by decide) ?_
  exact x_reth G hr hlk dL_works_22 ⟨rfl, r, u, hu, rfl⟩
set_option maxHeartbeats 4000000 in
set_option maxRecDepth 100000 in
theorem hT_works1 {l : Launch} {D : va_G} {cI cZ cJ cL : ClassId} {ad : Nat → Nat} {oa : Nat} {σ : xSg} {t1 t2 : Int32} (hM : xCT l D vCl (tyC cI cZ cJ) nwW (wC ad cI cZ cJ σ) yP_works (.code yP_works bP_works 3 (some .int) :: bigW) 6 [.ref (ad 0), .int t1, .int t2] "java/lang/IndexOutOfBoundsException") : xCh l D vCl (tyL cI cZ cJ cL) nwW (wH ad oa cI cZ cJ cL) yL_works (.codeWith yL_works bL_works 5 (some .int) [((0 : Nat), (10 : Nat), (13 : Nat), (26 : Nat)), ((0 : Nat), (10 : Nat), (17 : Nat), (15 : Nat))] :: bigW) 7 [.ref (ad 0), .int t1, .int t2, .ref oa] σ (fun k u => k = 1 ∧ u = σ) := by
  refine xCh.of (wf := wH ad oa cI cZ cJ cL) (cc := bL_works) (nL := 5) (ret := some .int) (hh := [((0 : Nat), (10 : Nat), (13 : Nat), (26 : Nat)), ((0 : Nat), (10 : Nat), (17 : Nat), (15 : Nat))]) rfl (by decide) [.ref (ad 0), .int t1, .int t2, .ref oa, .null] rfl (Nat.le_of_ble_eq_true rfl) ?_
  intro pp ee ss mm aa bb me cde AA G hr hlk htab hTH
  refine x_aload_n G 3 dL_works_0 rfl rfl ?_
  refine x_iconst G (0) dL_works_1 (by decide) ?_
  refine x_aload_n G 0 dL_works_2 rfl rfl ?_
  refine x_iload_n G 1 dL_works_3 rfl rfl ?_
  refine x_iload_n G 2 dL_works_4 rfl rfl ?_
  refine x_callT2 G hTH (xCT.frame (L := []) (R := [oE oa cL σ]) (ty2 := [(cL, .long)]) hM) 0 rfl rfl (cVt G.2.2.2.2.1 wd_505 wd_506 wd_507 wd_48 wd_508 (by decide +kernel) ⟨(Nat.le_of_ble_eq_true rfl), (Nat.le_of_ble_eq_true rfl)⟩) cast_Index 13 (by rw [htab]; exact ⟨rfl, by decide, "java/lang/IndexOutOfBoundsException", (G.2.2.2.2.1 _ (.tail _ wd_504)), Or.inl ⟨rfl, rfl⟩⟩) dL_works_5 (Nat.le_of_ble_eq_true rfl) ⟨(Nat.le_of_ble_eq_true rfl), (Nat.le_of_ble_eq_true rfl)⟩ (fun x => ?_)
  refine x_astore G dL_works_13 (by decide) ?_
  refine x_iconst G (1) dL_works_15 (by decide) ?_
  exact x_reth G hr hlk dL_works_16 ⟨rfl, rfl⟩
set_option maxHeartbeats 4000000 in
set_option maxRecDepth 100000 in
theorem hT_works2 {l : Launch} {D : va_G} {cI cZ cJ cL : ClassId} {ad : Nat → Nat} {oa : Nat} {σ : xSg} {t1 t2 : Int32} (hM : xCT l D vCl (tyC cI cZ cJ) nwW (wC ad cI cZ cJ σ) yP_works (.code yP_works bP_works 3 (some .int) :: bigW) 6 [.ref (ad 0), .int t1, .int t2] "java/lang/IllegalStateException") : xCh l D vCl (tyL cI cZ cJ cL) nwW (wH ad oa cI cZ cJ cL) yL_works (.codeWith yL_works bL_works 5 (some .int) [((0 : Nat), (10 : Nat), (13 : Nat), (26 : Nat)), ((0 : Nat), (10 : Nat), (17 : Nat), (15 : Nat))] :: bigW) 7 [.ref (ad 0), .int t1, .int t2, .ref oa] σ (fun k u => k = 2 ∧ u = σ) := by
  refine xCh.of (wf := wH ad oa cI cZ cJ cL) (cc := bL_works) (nL := 5) (ret := some .int) (hh := [((0 : Nat), (10 : Nat), (13 : Nat), (26 : Nat)), ((0 : Nat), (10 : Nat), (17 : Nat), (15 : Nat))]) rfl (by decide) [.ref (ad 0), .int t1, .int t2, .ref oa, .null] rfl (Nat.le_of_ble_eq_true rfl) ?_
  intro pp ee ss mm aa bb me cde AA G hr hlk htab hTH
  refine x_aload_n G 3 dL_works_0 rfl rfl ?_
  refine x_iconst G (0) dL_works_1 (by decide) ?_
  refine x_aload_n G 0 dL_works_2 rfl rfl ?_
  refine x_iload_n G 1 dL_works_3 rfl rfl ?_
  refine x_iload_n G 2 dL_works_4 rfl rfl ?_
  refine x_callT2 G hTH (xCT.frame (L := []) (R := [oE oa cL σ]) (ty2 := [(cL, .long)]) hM) 0 rfl rfl (cVt G.2.2.2.2.1 wd_505 wd_506 wd_507 wd_48 wd_508 (by decide +kernel) ⟨(Nat.le_of_ble_eq_true rfl), (Nat.le_of_ble_eq_true rfl)⟩) cast_Sta 17 (by rw [htab]; exact ⟨rfl, by decide, "java/lang/IndexOutOfBoundsException", (G.2.2.2.2.1 _ (.tail _ wd_504)), Or.inr ⟨hTH.2.2.2.2 ("java/lang/IllegalStateException", "java/lang/IndexOutOfBoundsException") (by decide), ⟨rfl, by decide, "java/lang/IllegalStateException", (G.2.2.2.2.1 _ (.tail _ wd_371)), Or.inl ⟨rfl, rfl⟩⟩⟩⟩) dL_works_5 (Nat.le_of_ble_eq_true rfl) ⟨(Nat.le_of_ble_eq_true rfl), (Nat.le_of_ble_eq_true rfl)⟩ (fun x => ?_)
  refine x_astore G dL_works_17 (by decide) ?_
  refine x_iconst G (2) dL_works_19 (by decide) ?_
  exact x_reth G hr hlk dL_works_20 ⟨rfl, rfl⟩
set_option maxHeartbeats 4000000 in
set_option maxRecDepth 100000 in
theorem hL_where {l : Launch} {D : va_G} {cI cZ cJ cL : ClassId} {ad : Nat → Nat} {oa : Nat} {σ : xSg} {t1 t2 : Int32} {dd : Nat} (hdd : dd ≤ 6) {Pst : Int32 → xSg → Prop} (hM : xCi l D vCl (tyC cI cZ cJ) nwW (wC ad cI cZ cJ) yP_where (.code yP_where bP_where 3 (some .int) :: bigW) dd [.ref (ad 0), .int t1, .int t2] σ Pst) : xCh l D vCl (tyL cI cZ cJ cL) nwW (wH ad oa cI cZ cJ cL) yL_where (.codeWith yL_where bL_where 5 (some .int) [((0 : Nat), (10 : Nat), (13 : Nat), (26 : Nat)), ((0 : Nat), (10 : Nat), (17 : Nat), (15 : Nat))] :: bigW) 7 [.ref (ad 0), .int t1, .int t2, .ref oa] σ (fun k u' => k = 0 ∧ ∃ r u, Pst r u ∧ u' = ow u r) := by
  refine xCh.of (wf := wH ad oa cI cZ cJ cL) (cc := bL_where) (nL := 5) (ret := some .int) (hh := [((0 : Nat), (10 : Nat), (13 : Nat), (26 : Nat)), ((0 : Nat), (10 : Nat), (17 : Nat), (15 : Nat))]) rfl (by decide) [.ref (ad 0), .int t1, .int t2, .ref oa, .null] rfl (Nat.le_of_ble_eq_true rfl) ?_
  intro pp ee ss mm aa bb me cde AA G hr hlk htab hTH
  refine x_aload_n G 3 dL_where_0 rfl rfl ?_
  refine x_iconst G (0) dL_where_1 (by decide) ?_
  refine x_aload_n G 0 dL_where_2 rfl rfl ?_
  refine x_iload_n G 1 dL_where_3 rfl rfl ?_
  refine x_iload_n G 2 dL_where_4 rfl rfl ?_
  refine x_callV2i G (wf := fun u => [] ++ (wC ad cI cZ cJ u ++ [oE oa cL σ])) (xCi.frame (L := []) (R := [oE oa cL σ]) (ty2 := [(cL, .long)]) hM) 0 rfl rfl (cV G.2.2.2.2.1 wd_532 wd_533 wd_534 wd_48 wd_535 (by decide +kernel) ⟨by show dd + 1 ≤ 7; omega, by show 8 + (3 + 11) + 40 * dd ≤ 40 * 7; omega⟩) dL_where_5 (Nat.le_of_ble_eq_true rfl) ⟨Nat.zero_le _, Nat.zero_le _⟩ (fun r u hu => ?_)
  refine x_i2l G dL_where_8 ?_
  refine x_last G 25 3 rfl rfl (wH_set (r := r)) (vp_in_nI (n := 0) (N := 1) (by decide) (by decide)) dL_where_9 ?_
  refine x_goto G 21 dL_where_10 (by decide) ?_
  refine x_iconst G (0) dL_where_21 (by decide) ?_
  refine x_widen (k := 1) (n := 6) (by decide) (by decide) ?_
  exact x_reth G hr hlk dL_where_22 ⟨rfl, r, u, hu, rfl⟩
set_option maxHeartbeats 4000000 in
set_option maxRecDepth 100000 in
theorem hT_where1 {l : Launch} {D : va_G} {cI cZ cJ cL : ClassId} {ad : Nat → Nat} {oa : Nat} {σ : xSg} {t1 t2 : Int32} (hM : xCT l D vCl (tyC cI cZ cJ) nwW (wC ad cI cZ cJ σ) yP_where (.code yP_where bP_where 3 (some .int) :: bigW) 6 [.ref (ad 0), .int t1, .int t2] "java/lang/IndexOutOfBoundsException") : xCh l D vCl (tyL cI cZ cJ cL) nwW (wH ad oa cI cZ cJ cL) yL_where (.codeWith yL_where bL_where 5 (some .int) [((0 : Nat), (10 : Nat), (13 : Nat), (26 : Nat)), ((0 : Nat), (10 : Nat), (17 : Nat), (15 : Nat))] :: bigW) 7 [.ref (ad 0), .int t1, .int t2, .ref oa] σ (fun k u => k = 1 ∧ u = σ) := by
  refine xCh.of (wf := wH ad oa cI cZ cJ cL) (cc := bL_where) (nL := 5) (ret := some .int) (hh := [((0 : Nat), (10 : Nat), (13 : Nat), (26 : Nat)), ((0 : Nat), (10 : Nat), (17 : Nat), (15 : Nat))]) rfl (by decide) [.ref (ad 0), .int t1, .int t2, .ref oa, .null] rfl (Nat.le_of_ble_eq_true rfl) ?_
  intro pp ee ss mm aa bb me cde AA G hr hlk htab hTH
  refine x_aload_n G 3 dL_where_0 rfl rfl ?_
  refine x_iconst G (0) dL_where_1 (by decide) ?_
  refine x_aload_n G 0 dL_where_2 rfl rfl ?_
  refine x_iload_n G 1 dL_where_3 rfl rfl ?_
  refine x_iload_n G 2 dL_where_4 rfl rfl ?_
  refine x_callT2 G hTH (xCT.frame (L := []) (R := [oE oa cL σ]) (ty2 := [(cL, .long)]) hM) 0 rfl rfl (cVt G.2.2.2.2.1 wd_532 wd_533 wd_534 wd_48 wd_535 (by decide +kernel) ⟨(Nat.le_of_ble_eq_true rfl), (Nat.le_of_ble_eq_true rfl)⟩) cast_Index 13 (by rw [htab]; exact ⟨rfl, by decide, "java/lang/IndexOutOfBoundsException", (G.2.2.2.2.1 _ (.tail _ wd_504)), Or.inl ⟨rfl, rfl⟩⟩) dL_where_5 (Nat.le_of_ble_eq_true rfl) ⟨(Nat.le_of_ble_eq_true rfl), (Nat.le_of_ble_eq_true rfl)⟩ (fun x => ?_)
  refine x_astore G dL_where_13 (by decide) ?_
  refine x_iconst G (1) dL_where_15 (by decide) ?_
  exact x_reth G hr hlk dL_where_16 ⟨rfl, rfl⟩
set_option maxHeartbeats 4000000 in
set_option maxRecDepth 100000 in
theorem hT_where2 {l : Launch} {D : va_G} {cI cZ cJ cL : ClassId} {ad : Nat → Nat} {oa : Nat} {σ : xSg} {t1 t2 : Int32} (hM : xCT l D vCl (tyC cI cZ cJ) nwW (wC ad cI cZ cJ σ) yP_where (.code yP_where bP_where 3 (some .int) :: bigW) 6 [.ref (ad 0), .int t1, .int t2] "java/lang/IllegalStateException") : xCh l D vCl (tyL cI cZ cJ cL) nwW (wH ad oa cI cZ cJ cL) yL_where (.codeWith yL_where bL_where 5 (some .int) [((0 : Nat), (10 : Nat), (13 : Nat), (26 : Nat)), ((0 : Nat), (10 : Nat), (17 : Nat), (15 : Nat))] :: bigW) 7 [.ref (ad 0), .int t1, .int t2, .ref oa] σ (fun k u => k = 2 ∧ u = σ) := by
  refine xCh.of (wf := wH ad oa cI cZ cJ cL) (cc := bL_where) (nL := 5) (ret := some .int) (hh := [((0 : Nat), (10 : Nat), (13 : Nat), (26 : Nat)), ((0 : Nat), (10 : Nat), (17 : Nat), (15 : Nat))]) rfl (by decide) [.ref (ad 0), .int t1, .int t2, .ref oa, .null] rfl (Nat.le_of_ble_eq_true rfl) ?_
  intro pp ee ss mm aa bb me cde AA G hr hlk htab hTH
  refine x_aload_n G 3 dL_where_0 rfl rfl ?_
  refine x_iconst G (0) dL_where_1 (by decide) ?_
  refine x_aload_n G 0 dL_where_2 rfl rfl ?_
  refine x_iload_n G 1 dL_where_3 rfl rfl ?_
  refine x_iload_n G 2 dL_where_4 rfl rfl ?_
  refine x_callT2 G hTH (xCT.frame (L := []) (R := [oE oa cL σ]) (ty2 := [(cL, .long)]) hM) 0 rfl rfl (cVt G.2.2.2.2.1 wd_532 wd_533 wd_534 wd_48 wd_535 (by decide +kernel) ⟨(Nat.le_of_ble_eq_true rfl), (Nat.le_of_ble_eq_true rfl)⟩) cast_Sta 17 (by rw [htab]; exact ⟨rfl, by decide, "java/lang/IndexOutOfBoundsException", (G.2.2.2.2.1 _ (.tail _ wd_504)), Or.inr ⟨hTH.2.2.2.2 ("java/lang/IllegalStateException", "java/lang/IndexOutOfBoundsException") (by decide), ⟨rfl, by decide, "java/lang/IllegalStateException", (G.2.2.2.2.1 _ (.tail _ wd_371)), Or.inl ⟨rfl, rfl⟩⟩⟩⟩) dL_where_5 (Nat.le_of_ble_eq_true rfl) ⟨(Nat.le_of_ble_eq_true rfl), (Nat.le_of_ble_eq_true rfl)⟩ (fun x => ?_)
  refine x_astore G dL_where_17 (by decide) ?_
  refine x_iconst G (2) dL_where_19 (by decide) ?_
  exact x_reth G hr hlk dL_where_20 ⟨rfl, rfl⟩
set_option maxHeartbeats 4000000 in
set_option maxRecDepth 100000 in
theorem hL_fails {l : Launch} {D : va_G} {cI cZ cJ cL : ClassId} {ad : Nat → Nat} {oa : Nat} {σ : xSg} {t1 t2 : Int32} {dd : Nat} (hdd : dd ≤ 6) {Pst : Int32 → xSg → Prop} (hM : xCi l D vCl (tyC cI cZ cJ) nwW (wC ad cI cZ cJ) yP_fails (.code yP_fails bP_fails 4 (some .int) :: bigW) dd [.ref (ad 0), .int t1, .int t2] σ Pst) : xCh l D vCl (tyL cI cZ cJ cL) nwW (wH ad oa cI cZ cJ cL) yL_fails (.codeWith yL_fails bL_fails 5 (some .int) [((0 : Nat), (10 : Nat), (13 : Nat), (26 : Nat)), ((0 : Nat), (10 : Nat), (17 : Nat), (13 : Nat)), ((0 : Nat), (10 : Nat), (21 : Nat), (15 : Nat))] :: bigW) 7 [.ref (ad 0), .int t1, .int t2, .ref oa] σ (fun k u' => k = 0 ∧ ∃ r u, Pst r u ∧ u' = ow u r) := by
  refine xCh.of (wf := wH ad oa cI cZ cJ cL) (cc := bL_fails) (nL := 5) (ret := some .int) (hh := [((0 : Nat), (10 : Nat), (13 : Nat), (26 : Nat)), ((0 : Nat), (10 : Nat), (17 : Nat), (13 : Nat)), ((0 : Nat), (10 : Nat), (21 : Nat), (15 : Nat))]) rfl (by decide) [.ref (ad 0), .int t1, .int t2, .ref oa, .null] rfl (Nat.le_of_ble_eq_true rfl) ?_
  intro pp ee ss mm aa bb me cde AA G hr hlk htab hTH
  refine x_aload_n G 3 dL_fails_0 rfl rfl ?_
  refine x_iconst G (0) dL_fails_1 (by decide) ?_
  refine x_aload_n G 0 dL_fails_2 rfl rfl ?_
  refine x_iload_n G 1 dL_fails_3 rfl rfl ?_
  refine x_iload_n G 2 dL_fails_4 rfl rfl ?_
  refine x_callV2i G (wf := fun u => [] ++ (wC ad cI cZ cJ u ++ [oE oa cL σ])) (xCi.frame (L := []) (R := [oE oa cL σ]) (ty2 := [(cL, .long)]) hM) 0 rfl rfl (cV G.2.2.2.2.1 wd_544 wd_545 wd_546 wd_48 wd_547 (by decide +kernel) ⟨by show dd + 1 ≤ 7; omega, by show 8 + (4 + 11) + 40 * dd ≤ 40 * 7; omega⟩) dL_fails_5 (Nat.le_of_ble_eq_true rfl) ⟨Nat.zero_le _, Nat.zero_le _⟩ (fun r u hu => ?_)
  refine x_i2l G dL_fails_8 ?_
  refine x_last G 25 3 rfl rfl (wH_set (r := r)) (vp_in_nI (n := 0) (N := 1) (by decide) (by decide)) dL_fails_9 ?_
  refine x_goto G 25 dL_fails_10 (by decide) ?_
  refine x_iconst G (0) dL_fails_25 (by decide) ?_
  refine x_widen (k := 1) (n := 6) (by decide) (by decide) ?_
  exact x_reth G hr hlk dL_fails_26 ⟨rfl, r, u, hu, rfl⟩
set_option maxHeartbeats 4000000 in
set_option maxRecDepth 100000 in
theorem hT_fails1 {l : Launch} {D : va_G} {cI cZ cJ cL : ClassId} {ad : Nat → Nat} {oa : Nat} {σ : xSg} {t1 t2 : Int32} (hM : xCT l D vCl (tyC cI cZ cJ) nwW (wC ad cI cZ cJ σ) yP_fails (.code yP_fails bP_fails 4 (some .int) :: bigW) 6 [.ref (ad 0), .int t1, .int t2] "java/lang/IndexOutOfBoundsException") : xCh l D vCl (tyL cI cZ cJ cL) nwW (wH ad oa cI cZ cJ cL) yL_fails (.codeWith yL_fails bL_fails 5 (some .int) [((0 : Nat), (10 : Nat), (13 : Nat), (26 : Nat)), ((0 : Nat), (10 : Nat), (17 : Nat), (13 : Nat)), ((0 : Nat), (10 : Nat), (21 : Nat), (15 : Nat))] :: bigW) 7 [.ref (ad 0), .int t1, .int t2, .ref oa] σ (fun k u => k = 1 ∧ u = σ) := by
  refine xCh.of (wf := wH ad oa cI cZ cJ cL) (cc := bL_fails) (nL := 5) (ret := some .int) (hh := [((0 : Nat), (10 : Nat), (13 : Nat), (26 : Nat)), ((0 : Nat), (10 : Nat), (17 : Nat), (13 : Nat)), ((0 : Nat), (10 : Nat), (21 : Nat), (15 : Nat))]) rfl (by decide) [.ref (ad 0), .int t1, .int t2, .ref oa, .null] rfl (Nat.le_of_ble_eq_true rfl) ?_
  intro pp ee ss mm aa bb me cde AA G hr hlk htab hTH
  refine x_aload_n G 3 dL_fails_0 rfl rfl ?_
  refine x_iconst G (0) dL_fails_1 (by decide) ?_
  refine x_aload_n G 0 dL_fails_2 rfl rfl ?_
  refine x_iload_n G 1 dL_fails_3 rfl rfl ?_
  refine x_iload_n G 2 dL_fails_4 rfl rfl ?_
  refine x_callT2 G hTH (xCT.frame (L := []) (R := [oE oa cL σ]) (ty2 := [(cL, .long)]) hM) 0 rfl rfl (cVt G.2.2.2.2.1 wd_544 wd_545 wd_546 wd_48 wd_547 (by decide +kernel) ⟨(Nat.le_of_ble_eq_true rfl), (Nat.le_of_ble_eq_true rfl)⟩) cast_Index 13 (by rw [htab]; exact ⟨rfl, by decide, "java/lang/IndexOutOfBoundsException", (G.2.2.2.2.1 _ (.tail _ wd_504)), Or.inl ⟨rfl, rfl⟩⟩) dL_fails_5 (Nat.le_of_ble_eq_true rfl) ⟨(Nat.le_of_ble_eq_true rfl), (Nat.le_of_ble_eq_true rfl)⟩ (fun x => ?_)
  refine x_astore G dL_fails_13 (by decide) ?_
  refine x_iconst G (1) dL_fails_15 (by decide) ?_
  exact x_reth G hr hlk dL_fails_16 ⟨rfl, rfl⟩
set_option maxHeartbeats 4000000 in
set_option maxRecDepth 100000 in
theorem hT_fails2 {l : Launch} {D : va_G} {cI cZ cJ cL : ClassId} {ad : Nat → Nat} {oa : Nat} {σ : xSg} {t1 t2 : Int32} (hM : xCT l D vCl (tyC cI cZ cJ) nwW (wC ad cI cZ cJ σ) yP_fails (.code yP_fails bP_fails 4 (some .int) :: bigW) 6 [.ref (ad 0), .int t1, .int t2] "java/lang/IllegalArgumentException") : xCh l D vCl (tyL cI cZ cJ cL) nwW (wH ad oa cI cZ cJ cL) yL_fails (.codeWith yL_fails bL_fails 5 (some .int) [((0 : Nat), (10 : Nat), (13 : Nat), (26 : Nat)), ((0 : Nat), (10 : Nat), (17 : Nat), (13 : Nat)), ((0 : Nat), (10 : Nat), (21 : Nat), (15 : Nat))] :: bigW) 7 [.ref (ad 0), .int t1, .int t2, .ref oa] σ (fun k u => k = 2 ∧ u = σ) := by
  refine xCh.of (wf := wH ad oa cI cZ cJ cL) (cc := bL_fails) (nL := 5) (ret := some .int) (hh := [((0 : Nat), (10 : Nat), (13 : Nat), (26 : Nat)), ((0 : Nat), (10 : Nat), (17 : Nat), (13 : Nat)), ((0 : Nat), (10 : Nat), (21 : Nat), (15 : Nat))]) rfl (by decide) [.ref (ad 0), .int t1, .int t2, .ref oa, .null] rfl (Nat.le_of_ble_eq_true rfl) ?_
  intro pp ee ss mm aa bb me cde AA G hr hlk htab hTH
  refine x_aload_n G 3 dL_fails_0 rfl rfl ?_
  refine x_iconst G (0) dL_fails_1 (by decide) ?_
  refine x_aload_n G 0 dL_fails_2 rfl rfl ?_
  refine x_iload_n G 1 dL_fails_3 rfl rfl ?_
  refine x_iload_n G 2 dL_fails_4 rfl rfl ?_
  refine x_callT2 G hTH (xCT.frame (L := []) (R := [oE oa cL σ]) (ty2 := [(cL, .long)]) hM) 0 rfl rfl (cVt G.2.2.2.2.1 wd_544 wd_545 wd_546 wd_48 wd_547 (by decide +kernel) ⟨(Nat.le_of_ble_eq_true rfl), (Nat.le_of_ble_eq_true rfl)⟩) cast_Arg 17 (by rw [htab]; exact ⟨rfl, by decide, "java/lang/IndexOutOfBoundsException", (G.2.2.2.2.1 _ (.tail _ wd_504)), Or.inr ⟨hTH.2.2.2.2 ("java/lang/IllegalArgumentException", "java/lang/IndexOutOfBoundsException") (by decide), ⟨rfl, by decide, "java/lang/IllegalArgumentException", (G.2.2.2.2.1 _ (.tail _ wd_370)), Or.inl ⟨rfl, rfl⟩⟩⟩⟩) dL_fails_5 (Nat.le_of_ble_eq_true rfl) ⟨(Nat.le_of_ble_eq_true rfl), (Nat.le_of_ble_eq_true rfl)⟩ (fun x => ?_)
  refine x_astore G dL_fails_17 (by decide) ?_
  refine x_iconst G (2) dL_fails_19 (by decide) ?_
  exact x_reth G hr hlk dL_fails_20 ⟨rfl, rfl⟩
set_option maxHeartbeats 4000000 in
set_option maxRecDepth 100000 in
theorem hT_fails3 {l : Launch} {D : va_G} {cI cZ cJ cL : ClassId} {ad : Nat → Nat} {oa : Nat} {σ : xSg} {t1 t2 : Int32} (hM : xCT l D vCl (tyC cI cZ cJ) nwW (wC ad cI cZ cJ σ) yP_fails (.code yP_fails bP_fails 4 (some .int) :: bigW) 6 [.ref (ad 0), .int t1, .int t2] "java/lang/IllegalStateException") : xCh l D vCl (tyL cI cZ cJ cL) nwW (wH ad oa cI cZ cJ cL) yL_fails (.codeWith yL_fails bL_fails 5 (some .int) [((0 : Nat), (10 : Nat), (13 : Nat), (26 : Nat)), ((0 : Nat), (10 : Nat), (17 : Nat), (13 : Nat)), ((0 : Nat), (10 : Nat), (21 : Nat), (15 : Nat))] :: bigW) 7 [.ref (ad 0), .int t1, .int t2, .ref oa] σ (fun k u => k = 3 ∧ u = σ) := by
  refine xCh.of (wf := wH ad oa cI cZ cJ cL) (cc := bL_fails) (nL := 5) (ret := some .int) (hh := [((0 : Nat), (10 : Nat), (13 : Nat), (26 : Nat)), ((0 : Nat), (10 : Nat), (17 : Nat), (13 : Nat)), ((0 : Nat), (10 : Nat), (21 : Nat), (15 : Nat))]) rfl (by decide) [.ref (ad 0), .int t1, .int t2, .ref oa, .null] rfl (Nat.le_of_ble_eq_true rfl) ?_
  intro pp ee ss mm aa bb me cde AA G hr hlk htab hTH
  refine x_aload_n G 3 dL_fails_0 rfl rfl ?_
  refine x_iconst G (0) dL_fails_1 (by decide) ?_
  refine x_aload_n G 0 dL_fails_2 rfl rfl ?_
  refine x_iload_n G 1 dL_fails_3 rfl rfl ?_
  refine x_iload_n G 2 dL_fails_4 rfl rfl ?_
  refine x_callT2 G hTH (xCT.frame (L := []) (R := [oE oa cL σ]) (ty2 := [(cL, .long)]) hM) 0 rfl rfl (cVt G.2.2.2.2.1 wd_544 wd_545 wd_546 wd_48 wd_547 (by decide +kernel) ⟨(Nat.le_of_ble_eq_true rfl), (Nat.le_of_ble_eq_true rfl)⟩) cast_Sta 21 (by rw [htab]; exact ⟨rfl, by decide, "java/lang/IndexOutOfBoundsException", (G.2.2.2.2.1 _ (.tail _ wd_504)), Or.inr ⟨hTH.2.2.2.2 ("java/lang/IllegalStateException", "java/lang/IndexOutOfBoundsException") (by decide), ⟨rfl, by decide, "java/lang/IllegalArgumentException", (G.2.2.2.2.1 _ (.tail _ wd_370)), Or.inr ⟨hTH.2.2.2.2 ("java/lang/IllegalStateException", "java/lang/IllegalArgumentException") (by decide), ⟨rfl, by decide, "java/lang/IllegalStateException", (G.2.2.2.2.1 _ (.tail _ wd_371)), Or.inl ⟨rfl, rfl⟩⟩⟩⟩⟩⟩) dL_fails_5 (Nat.le_of_ble_eq_true rfl) ⟨(Nat.le_of_ble_eq_true rfl), (Nat.le_of_ble_eq_true rfl)⟩ (fun x => ?_)
  refine x_astore G dL_fails_21 (by decide) ?_
  refine x_iconst G (3) dL_fails_23 (by decide) ?_
  exact x_reth G hr hlk dL_fails_24 ⟨rfl, rfl⟩
set_option maxHeartbeats 4000000 in
set_option maxRecDepth 100000 in
theorem hL_row {l : Launch} {D : va_G} {cI cZ cJ cL : ClassId} {ad : Nat → Nat} {oa : Nat} {σ : xSg} {t1 t2 : Int32} {dd : Nat} (hdd : dd ≤ 6) {Pst : Int32 → xSg → Prop} (hM : xCi l D vCl (tyC cI cZ cJ) nwW (wC ad cI cZ cJ) yP_row (.code yP_row bP_row 3 (some .int) :: bigW) dd [.ref (ad 0), .int t1, .int t2] σ Pst) : xCh l D vCl (tyL cI cZ cJ cL) nwW (wH ad oa cI cZ cJ cL) yL_row (.codeWith yL_row bL_row 5 (some .int) [((0 : Nat), (10 : Nat), (13 : Nat), (15 : Nat)), ((0 : Nat), (10 : Nat), (17 : Nat), (26 : Nat))] :: bigW) 7 [.ref (ad 0), .int t1, .int t2, .ref oa] σ (fun k u' => k = 0 ∧ ∃ r u, Pst r u ∧ u' = ow u r) := by
  refine xCh.of (wf := wH ad oa cI cZ cJ cL) (cc := bL_row) (nL := 5) (ret := some .int) (hh := [((0 : Nat), (10 : Nat), (13 : Nat), (15 : Nat)), ((0 : Nat), (10 : Nat), (17 : Nat), (26 : Nat))]) rfl (by decide) [.ref (ad 0), .int t1, .int t2, .ref oa, .null] rfl (Nat.le_of_ble_eq_true rfl) ?_
  intro pp ee ss mm aa bb me cde AA G hr hlk htab hTH
  refine x_aload_n G 3 dL_row_0 rfl rfl ?_
  refine x_iconst G (0) dL_row_1 (by decide) ?_
  refine x_aload_n G 0 dL_row_2 rfl rfl ?_
  refine x_iload_n G 1 dL_row_3 rfl rfl ?_
  refine x_iload_n G 2 dL_row_4 rfl rfl ?_
  refine x_callV2i G (wf := fun u => [] ++ (wC ad cI cZ cJ u ++ [oE oa cL σ])) (xCi.frame (L := []) (R := [oE oa cL σ]) (ty2 := [(cL, .long)]) hM) 0 rfl rfl (cV G.2.2.2.2.1 wd_571 wd_572 wd_573 wd_48 wd_574 (by decide +kernel) ⟨by show dd + 1 ≤ 7; omega, by show 8 + (3 + 11) + 40 * dd ≤ 40 * 7; omega⟩) dL_row_5 (Nat.le_of_ble_eq_true rfl) ⟨Nat.zero_le _, Nat.zero_le _⟩ (fun r u hu => ?_)
  refine x_i2l G dL_row_8 ?_
  refine x_last G 25 3 rfl rfl (wH_set (r := r)) (vp_in_nI (n := 0) (N := 1) (by decide) (by decide)) dL_row_9 ?_
  refine x_goto G 21 dL_row_10 (by decide) ?_
  refine x_iconst G (0) dL_row_21 (by decide) ?_
  refine x_widen (k := 1) (n := 6) (by decide) (by decide) ?_
  exact x_reth G hr hlk dL_row_22 ⟨rfl, r, u, hu, rfl⟩
set_option maxHeartbeats 4000000 in
set_option maxRecDepth 100000 in
theorem hT_row1 {l : Launch} {D : va_G} {cI cZ cJ cL : ClassId} {ad : Nat → Nat} {oa : Nat} {σ : xSg} {t1 t2 : Int32} (hM : xCT l D vCl (tyC cI cZ cJ) nwW (wC ad cI cZ cJ σ) yP_row (.code yP_row bP_row 3 (some .int) :: bigW) 6 [.ref (ad 0), .int t1, .int t2] "java/lang/IllegalStateException") : xCh l D vCl (tyL cI cZ cJ cL) nwW (wH ad oa cI cZ cJ cL) yL_row (.codeWith yL_row bL_row 5 (some .int) [((0 : Nat), (10 : Nat), (13 : Nat), (15 : Nat)), ((0 : Nat), (10 : Nat), (17 : Nat), (26 : Nat))] :: bigW) 7 [.ref (ad 0), .int t1, .int t2, .ref oa] σ (fun k u => k = 1 ∧ u = σ) := by
  refine xCh.of (wf := wH ad oa cI cZ cJ cL) (cc := bL_row) (nL := 5) (ret := some .int) (hh := [((0 : Nat), (10 : Nat), (13 : Nat), (15 : Nat)), ((0 : Nat), (10 : Nat), (17 : Nat), (26 : Nat))]) rfl (by decide) [.ref (ad 0), .int t1, .int t2, .ref oa, .null] rfl (Nat.le_of_ble_eq_true rfl) ?_
  intro pp ee ss mm aa bb me cde AA G hr hlk htab hTH
  refine x_aload_n G 3 dL_row_0 rfl rfl ?_
  refine x_iconst G (0) dL_row_1 (by decide) ?_
  refine x_aload_n G 0 dL_row_2 rfl rfl ?_
  refine x_iload_n G 1 dL_row_3 rfl rfl ?_
  refine x_iload_n G 2 dL_row_4 rfl rfl ?_
  refine x_callT2 G hTH (xCT.frame (L := []) (R := [oE oa cL σ]) (ty2 := [(cL, .long)]) hM) 0 rfl rfl (cVt G.2.2.2.2.1 wd_571 wd_572 wd_573 wd_48 wd_574 (by decide +kernel) ⟨(Nat.le_of_ble_eq_true rfl), (Nat.le_of_ble_eq_true rfl)⟩) cast_Sta 13 (by rw [htab]; exact ⟨rfl, by decide, "java/lang/IllegalStateException", (G.2.2.2.2.1 _ (.tail _ wd_371)), Or.inl ⟨rfl, rfl⟩⟩) dL_row_5 (Nat.le_of_ble_eq_true rfl) ⟨(Nat.le_of_ble_eq_true rfl), (Nat.le_of_ble_eq_true rfl)⟩ (fun x => ?_)
  refine x_astore G dL_row_13 (by decide) ?_
  refine x_iconst G (1) dL_row_15 (by decide) ?_
  exact x_reth G hr hlk dL_row_16 ⟨rfl, rfl⟩
set_option maxHeartbeats 4000000 in
set_option maxRecDepth 100000 in
theorem hT_row2 {l : Launch} {D : va_G} {cI cZ cJ cL : ClassId} {ad : Nat → Nat} {oa : Nat} {σ : xSg} {t1 t2 : Int32} (hM : xCT l D vCl (tyC cI cZ cJ) nwW (wC ad cI cZ cJ σ) yP_row (.code yP_row bP_row 3 (some .int) :: bigW) 6 [.ref (ad 0), .int t1, .int t2] "java/lang/IndexOutOfBoundsException") : xCh l D vCl (tyL cI cZ cJ cL) nwW (wH ad oa cI cZ cJ cL) yL_row (.codeWith yL_row bL_row 5 (some .int) [((0 : Nat), (10 : Nat), (13 : Nat), (15 : Nat)), ((0 : Nat), (10 : Nat), (17 : Nat), (26 : Nat))] :: bigW) 7 [.ref (ad 0), .int t1, .int t2, .ref oa] σ (fun k u => k = 2 ∧ u = σ) := by
  refine xCh.of (wf := wH ad oa cI cZ cJ cL) (cc := bL_row) (nL := 5) (ret := some .int) (hh := [((0 : Nat), (10 : Nat), (13 : Nat), (15 : Nat)), ((0 : Nat), (10 : Nat), (17 : Nat), (26 : Nat))]) rfl (by decide) [.ref (ad 0), .int t1, .int t2, .ref oa, .null] rfl (Nat.le_of_ble_eq_true rfl) ?_
  intro pp ee ss mm aa bb me cde AA G hr hlk htab hTH
  refine x_aload_n G 3 dL_row_0 rfl rfl ?_
  refine x_iconst G (0) dL_row_1 (by decide) ?_
  refine x_aload_n G 0 dL_row_2 rfl rfl ?_
  refine x_iload_n G 1 dL_row_3 rfl rfl ?_
  refine x_iload_n G 2 dL_row_4 rfl rfl ?_
  refine x_callT2 G hTH (xCT.frame (L := []) (R := [oE oa cL σ]) (ty2 := [(cL, .long)]) hM) 0 rfl rfl (cVt G.2.2.2.2.1 wd_571 wd_572 wd_573 wd_48 wd_574 (by decide +kernel) ⟨(Nat.le_of_ble_eq_true rfl), (Nat.le_of_ble_eq_true rfl)⟩) cast_Index 17 (by rw [htab]; exact ⟨rfl, by decide, "java/lang/IllegalStateException", (G.2.2.2.2.1 _ (.tail _ wd_371)), Or.inr ⟨hTH.2.2.2.2 ("java/lang/IndexOutOfBoundsException", "java/lang/IllegalStateException") (by decide), ⟨rfl, by decide, "java/lang/IndexOutOfBoundsException", (G.2.2.2.2.1 _ (.tail _ wd_504)), Or.inl ⟨rfl, rfl⟩⟩⟩⟩) dL_row_5 (Nat.le_of_ble_eq_true rfl) ⟨(Nat.le_of_ble_eq_true rfl), (Nat.le_of_ble_eq_true rfl)⟩ (fun x => ?_)
  refine x_astore G dL_row_17 (by decide) ?_
  refine x_iconst G (2) dL_row_19 (by decide) ?_
  exact x_reth G hr hlk dL_row_20 ⟨rfl, rfl⟩
set_option maxHeartbeats 4000000 in
set_option maxRecDepth 100000 in
theorem hL_look {l : Launch} {D : va_G} {cI cZ cJ cL : ClassId} {ad : Nat → Nat} {oa : Nat} {σ : xSg} {t1 t2 : Int32} {dd : Nat} (hdd : dd ≤ 6) {Pst : Int32 → xSg → Prop} (hM : xCi l D vCl (tyC cI cZ cJ) nwW (wC ad cI cZ cJ) yP_look (.code yP_look bP_look 3 (some .int) :: bigW) dd [.ref (ad 0), .int t1, .int t2] σ Pst) : xCh l D vCl (tyL cI cZ cJ cL) nwW (wH ad oa cI cZ cJ cL) yL_look (.codeWith yL_look bL_look 5 (some .int) [((0 : Nat), (10 : Nat), (13 : Nat), (26 : Nat))] :: bigW) 7 [.ref (ad 0), .int t1, .int t2, .ref oa] σ (fun k u' => k = 0 ∧ ∃ r u, Pst r u ∧ u' = ow u r) := by
  refine xCh.of (wf := wH ad oa cI cZ cJ cL) (cc := bL_look) (nL := 5) (ret := some .int) (hh := [((0 : Nat), (10 : Nat), (13 : Nat), (26 : Nat))]) rfl (by decide) [.ref (ad 0), .int t1, .int t2, .ref oa, .null] rfl (Nat.le_of_ble_eq_true rfl) ?_
  intro pp ee ss mm aa bb me cde AA G hr hlk htab hTH
  refine x_aload_n G 3 dL_look_0 rfl rfl ?_
  refine x_iconst G (0) dL_look_1 (by decide) ?_
  refine x_aload_n G 0 dL_look_2 rfl rfl ?_
  refine x_iload_n G 1 dL_look_3 rfl rfl ?_
  refine x_iload_n G 2 dL_look_4 rfl rfl ?_
  refine x_callV2i G (wf := fun u => [] ++ (wC ad cI cZ cJ u ++ [oE oa cL σ])) (xCi.frame (L := []) (R := [oE oa cL σ]) (ty2 := [(cL, .long)]) hM) 0 rfl rfl (cV G.2.2.2.2.1 wd_583 wd_584 wd_585 wd_48 wd_586 (by decide +kernel) ⟨by show dd + 1 ≤ 7; omega, by show 8 + (3 + 11) + 40 * dd ≤ 40 * 7; omega⟩) dL_look_5 (Nat.le_of_ble_eq_true rfl) ⟨Nat.zero_le _, Nat.zero_le _⟩ (fun r u hu => ?_)
  refine x_i2l G dL_look_8 ?_
  refine x_last G 25 3 rfl rfl (wH_set (r := r)) (vp_in_nI (n := 0) (N := 1) (by decide) (by decide)) dL_look_9 ?_
  refine x_goto G 17 dL_look_10 (by decide) ?_
  refine x_iconst G (0) dL_look_17 (by decide) ?_
  refine x_widen (k := 1) (n := 6) (by decide) (by decide) ?_
  exact x_reth G hr hlk dL_look_18 ⟨rfl, r, u, hu, rfl⟩
set_option maxHeartbeats 4000000 in
set_option maxRecDepth 100000 in
theorem hT_look1 {l : Launch} {D : va_G} {cI cZ cJ cL : ClassId} {ad : Nat → Nat} {oa : Nat} {σ : xSg} {t1 t2 : Int32} (hM : xCT l D vCl (tyC cI cZ cJ) nwW (wC ad cI cZ cJ σ) yP_look (.code yP_look bP_look 3 (some .int) :: bigW) 6 [.ref (ad 0), .int t1, .int t2] "java/lang/IndexOutOfBoundsException") : xCh l D vCl (tyL cI cZ cJ cL) nwW (wH ad oa cI cZ cJ cL) yL_look (.codeWith yL_look bL_look 5 (some .int) [((0 : Nat), (10 : Nat), (13 : Nat), (26 : Nat))] :: bigW) 7 [.ref (ad 0), .int t1, .int t2, .ref oa] σ (fun k u => k = 1 ∧ u = σ) := by
  refine xCh.of (wf := wH ad oa cI cZ cJ cL) (cc := bL_look) (nL := 5) (ret := some .int) (hh := [((0 : Nat), (10 : Nat), (13 : Nat), (26 : Nat))]) rfl (by decide) [.ref (ad 0), .int t1, .int t2, .ref oa, .null] rfl (Nat.le_of_ble_eq_true rfl) ?_
  intro pp ee ss mm aa bb me cde AA G hr hlk htab hTH
  refine x_aload_n G 3 dL_look_0 rfl rfl ?_
  refine x_iconst G (0) dL_look_1 (by decide) ?_
  refine x_aload_n G 0 dL_look_2 rfl rfl ?_
  refine x_iload_n G 1 dL_look_3 rfl rfl ?_
  refine x_iload_n G 2 dL_look_4 rfl rfl ?_
  refine x_callT2 G hTH (xCT.frame (L := []) (R := [oE oa cL σ]) (ty2 := [(cL, .long)]) hM) 0 rfl rfl (cVt G.2.2.2.2.1 wd_583 wd_584 wd_585 wd_48 wd_586 (by decide +kernel) ⟨(Nat.le_of_ble_eq_true rfl), (Nat.le_of_ble_eq_true rfl)⟩) cast_Index 13 (by rw [htab]; exact ⟨rfl, by decide, "java/lang/IndexOutOfBoundsException", (G.2.2.2.2.1 _ (.tail _ wd_504)), Or.inl ⟨rfl, rfl⟩⟩) dL_look_5 (Nat.le_of_ble_eq_true rfl) ⟨(Nat.le_of_ble_eq_true rfl), (Nat.le_of_ble_eq_true rfl)⟩ (fun x => ?_)
  refine x_astore G dL_look_13 (by decide) ?_
  refine x_iconst G (1) dL_look_15 (by decide) ?_
  exact x_reth G hr hlk dL_look_16 ⟨rfl, rfl⟩
