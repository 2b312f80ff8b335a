/-! MAKING: objects, arrays, constructors -/
theorem ra_eq {U : State} {a b : ClassId} {ty : FieldType} (h : ∀ C, ty ≠ .object C) (h1 : va_RA U a ty) (h2 : va_RA U b ty) : a = b := by
  cases ty with
  | object C => exact absurd rfl (h C)
  | _ => exact Option.some.inj (h1.symm.trans h2)
theorem out4 (c : ClassId) (h : Nat) : Jvm.Free.Multi.outerC c 4 h 4 = vp_cell c (4, .inr (.inr (.inr (.inr (fun i => if i < 4 then some (h + 1 + i) else none))))) := rfl
theorem inn8 (c : ClassId) : Jvm.Free.Multi.innerC c 8 (.int 0) = vp_cell c (8, .inl (fun _ => 0)) := arrV_new c 8 (.int 0)
/-- a constructor's contract: from its object as it was made, to the world that it leaves -/
def xCc {S : Type} (l : Launch) (D : va_G) (cl : List vw_C) (tys : List (ClassId × FieldType)) (NW : List Cond) (w0 : va_W) (wf : S → va_W) (y : MethodName) (Ts : List Cond) (d mc ms : Nat) (as : List Value) (post : S → Prop) : Prop := ∀ sz : Nat, Met l y Ts { frames := d, cells := mc, slots := ms, locals := 40 * d } (va_Pc as (fun U => U.heap.size = sz ∧ va_P D cl w0 U.heap ∧ va_K D cl tys U ∧ (∀ c ∈ NW, isNest c = true ∧ va_Nw c U) ∧ va_D (fun _ => True) w0 ∧ (Cond.arrayOver (.array .int)).before #[] U = true)) (va_Qv post (fun u t => va_P D cl (wf u) t.heap ∧ va_D (va_A w0 sz) (wf u)) (va_A w0 sz)) mc ms (va_A w0 sz)
theorem ao_same {u U : State} (hv : u.vm = U.vm) {B B' : Array Value} (h : (Cond.arrayOver (.array .int)).before B u = true) : (Cond.arrayOver (.array .int)).before B' U = true := by
  simp only [Cond.before, Cond.holds, Cond.value] at h ⊢
  rw [hv] at h
  exact h
theorem aoA_spec {B : Array Value} {s : State} (h : (Cond.arrayOver (.array .int)).before B s = true) : ∃ (comp c : ClassId) (k : Class), s.vm.findClass (FieldType.array .int).toString = some comp ∧ (s.vm.classes.findIdx? fun (x : Class) => match x.kind with | .array component _ => component == comp | _ => false) = some c ∧ s.vm.classes[c]? = some k ∧ k.kind = .array comp (.array .int) ∧ s.vm.findClass ("[" ++ (FieldType.array .int).toString) = some c := by
  unfold Cond.before Cond.holds at h
  simp only [Cond.value] at h
  cases hc : s.vm.findClass (FieldType.array .int).toString with
  | none => rw [hc] at h; simp at h
  | some comp =>
    rw [hc, Option.bind_some] at h
    cases hi : (s.vm.classes.findIdx? fun (x : Class) => match x.kind with | .array component _ => component == comp | _ => false) with
    | none =>
      have h' := (congrArg (fun o : Option Nat => (o.bind (fun c => (s.vm.classes[c]?).map fun (k : Class) => match k.kind with | .array _ ty => decide (ty = FieldType.array .int) && decide (s.vm.findClass ("[" ++ (FieldType.array .int).toString) = some c) | _ => false) == some true)) hi).symm.trans h
      simp at h'
    | some c =>
      have h' := (congrArg (fun o : Option Nat => (o.bind (fun c => (s.vm.classes[c]?).map fun (k : Class) => match k.kind with | .array _ ty => decide (ty = FieldType.array .int) && decide (s.vm.findClass ("[" ++ (FieldType.array .int).toString) = some c) | _ => false) == some true)) hi).symm.trans h
      rw [Option.bind_some] at h'
      obtain ⟨hlt, hp, -⟩ := Array.findIdx?_eq_some_iff_getElem.mp hi
      have hk : s.vm.classes[c]? = some s.vm.classes[c] := Array.getElem?_eq_getElem hlt
      rw [hk] at h'
      refine ⟨comp, c, s.vm.classes[c], rfl, hi, hk, ?_, ?_⟩
      · cases hkk : s.vm.classes[c].kind with
        | array co ty =>
          rw [hkk] at hp
          simp [hkk] at h'
          have hp : (co == comp) = true := hp
          rw [eq_of_beq hp, h'.1]
        | _ => simp [hkk] at h'
      · cases hkk : s.vm.classes[c].kind with
        | array co ty => simp [hkk] at h'; exact h'.2
        | _ => simp [hkk] at h'
theorem ao_warm {s U : State} (hW : s.WarmedH U.vm) {B B' : Array Value} (h : (Cond.arrayOver (.array .int)).before B s = true) : (Cond.arrayOver (.array .int)).before B' U = true := by
  have ha := hW.alike
  obtain ⟨comp, c, k, h1, h2, h3, h4, h5⟩ := aoA_spec h
  obtain ⟨k', hk', he⟩ := ha.2.2 _ _ h3
  have hi : (U.vm.classes.findIdx? fun (x : Class) => match x.kind with | .array component _ => component == comp | _ => false) = some c := by
    have e1 := va_idx_bare U.vm comp
    have e2 := va_idx_bare s.vm comp
    rw [ha.bare_eq] at e1
    exact (e1.symm.trans e2).trans h2
  have hkind : k'.kind = .array comp (.array .int) := by rw [he]; exact h4
  have f1 : U.vm.findClass (FieldType.array .int).toString = some comp := by rw [ha.findClass]; exact h1
  have f2 : U.vm.findClass ("[" ++ (FieldType.array .int).toString) = some c := by rw [ha.findClass]; exact h5
  unfold Cond.before Cond.holds
  simp only [Cond.value]
  rw [f1, Option.bind_some]
  refine (congrArg (fun o : Option Nat => (o.bind (fun c => (U.vm.classes[c]?).map fun (k : Class) => match k.kind with | .array _ ty => decide (ty = FieldType.array .int) && decide (U.vm.findClass ("[" ++ (FieldType.array .int).toString) = some c) | _ => false) == some true)) hi).trans ?_
  simp [hk', hkind, f2]
section XM
variable {p : Program} {l : Launch} {e : Env} {R : Room} {s : State} {m : MethodId} {args : Array Value} {below : List Frame} {meth : Method} {c : Code} {cells slots : Nat} {Q : State → Prop} {D : va_G} {cl : List vw_C} {A : Nat → Prop} {nL : Nat} {ws : va_W} {vs : List Value} {pc : Nat} {st : List Value} {cc : ByteArray} {own : String} {Ts NW : List Cond} {tys : List (ClassId × FieldType)}
theorem x_new (G : xG p s m args c cc nL own Ts NW D cl tys A) {C : String} {T : u_T} {N ci index : Nat} (hin : ∀ w ∈ u_ws C T N, w ∈ Ts) {ty : Nat → FieldType} (hty : ∀ k, k < N → parseFieldDescriptor (T k).2.2.1 = some (ty k)) (h1 : Cond.classLink own index C ∈ Ts) (h2 : Cond.instantiable C N ∈ Ts) (h3 : Cond.initialized C ∈ Ts) (hc : cl[ci]? = some (C, T, N)) {fs : List Value} (hfs : ∀ j, j < N → defaultValue (ty j) = vp_V fs j) (hcells : cells + 1 ≤ R.cells) (hslots : slots + N ≤ R.slots) (d : decode cc pc = .ok (.new index, 3)) (k : ∀ q : Nat, xJ p l e R s m args below meth c (cells + 1) (slots + N) Q D cl A nL (va_S A s.heap) (ws ++ [(q, .inr (ci, fs))]) (vs) (pc + 3) (.ref q :: st)) : xJ p l e R s m args below meth c cells slots Q D cl A nL (va_S A s.heap) (ws) (vs) (pc) (st) := fun H locs ls hP hD hS hl => va_new G.1 G.2.1 G.2.2.2.2.1 hin ty hty G.2.2.2.1 (G.2.2.2.2.1 _ h1) (G.2.2.2.2.1 _ h2) (G.2.2.2.2.1 _ h3) G.2.2.2.2.2.1 hP hD hS G.2.2.2.2.2.2.2 hc hfs hcells hslots d (fun q H1 hP1 hD1 hS1 => k q H1 locs ls hP1 hD1 hS1 hl)
theorem x_newa (G : xG p s m args c cc nL own Ts NW D cl tys A) {atype : ArrayType} {ty : FieldType} (t0 : Nat) {cA : ClassId} (ht : tys[t0]? = some (cA, ty)) (hob : ∀ C, ty ≠ .object C) (harr : Cond.arrayClass (newarray.typeOf atype) ∈ Ts) (hty : newarray.typeOf atype = ty) {n : Int32} (N' : Nat) {a0 : vp_A} (ha : ∀ cA : ClassId, vp_cell cA a0 = arrV cA N' (fun _ => defaultValue ty)) (hn : ¬ n < 0) (hN : n.toNatClampNeg = N') (hbytes : N' * componentBytes ty ≤ 536870912) (hcells : cells + 1 ≤ R.cells) (hslots : slots + N' ≤ R.slots) (d : decode cc pc = .ok (.newarray atype, 2)) (k : ∀ q : Nat, xJ p l e R s m args below meth c (cells + 1) (slots + N') Q D cl A nL (va_S A s.heap) (ws ++ [(q, .inl (cA, a0))]) (vs) (pc + 2) (.ref q :: st)) : xJ p l e R s m args below meth c cells slots Q D cl A nL (va_S A s.heap) (ws) (vs) (pc) (.int n :: st) := fun H locs ls hP hD hS hl => va_newa G.1 G.2.1 (G.2.2.2.2.1 _ harr) hty G.2.2.2.2.2.1 hP hD hS G.2.2.2.2.2.2.2 ha hn hN hbytes hcells hslots d (fun q cB H1 hK1 hP1 hD1 hS1 => by
  have e1 := (hK1.2 tys.length (cB, ty) (by simp)).2
  have e2 := (G.2.2.2.2.2.1.2 t0 (cA, ty) ht).2
  cases ra_eq hob e1 e2
  exact k q H1 locs ls hP1 hD1 hS1 hl)
theorem x_putF (G : xG p s m args c cc nL own Ts NW D cl tys A) (hname : meth.name = "<init>") {ref C : String} {T : u_T} {N ci index : Nat} {a : Nat} {ty0 : Nat → FieldType} (q0 : Nat) {fs : List Value} {v : Value} {ty : FieldType} {ws' : va_W} (he : ws[q0]? = some (a, .inr (ci, fs))) (hc : cl[ci]? = some (C, T, N)) (kf : Nat) (hk : kf < N) (hl0 : kf < fs.length) (hw : ws.set q0 (a, .inr (ci, fs.set kf v)) = ws') (hin : ∀ w ∈ u_ws C T N, w ∈ Ts) (hty : ∀ k, k < N → parseFieldDescriptor (T k).2.2.1 = some (ty0 k)) (hnm : ∀ a, a < N → ∀ b, b < N → a ≠ b → (T a).2.1 ≠ (T b).2.1) (hlink : Cond.fieldLink own index ref (T kf).2.1 (T kf).2.2.1 ∈ Ts) (hsame : ref = (T kf).1) (hfin : (T kf).2.2.2 = true) (hdecl : (T kf).1 = own) (hd : parseFieldDescriptor (T kf).2.2.1 = some ty) (hn : narrow ty v = v) (hfit : fits ty v = true) (d : decode cc pc = .ok (.putfield index, 3)) (k : xJ p l e R s m args below meth c cells slots Q D cl A nL (va_S A s.heap) (ws') (vs) (pc + 3) (st)) : xJ p l e R s m args below meth c cells slots Q D cl A nL (va_S A s.heap) (ws) (vs) (pc) (v :: .ref a :: st) := fun H locs ls hP hD hS hl => va_putF G.1 G.2.1 G.2.2.2.2.1 hin ty0 hty hnm G.2.2.2.1 G.2.2.2.2.2.1 hP hD hS q0 he hc kf hk (G.2.2.2.2.1 _ hlink) (fun _ h => by rw [hsame]; exact h) hfin hname hdecl hd hn hfit hl0 d (fun H1 locs1 hP hD hS => k H1 locs1 ls (hw ▸ hP) (hw ▸ hD) hS hl)
theorem x_objInit (G : xG p s m args c cc nL own Ts NW D cl tys A) {idx a : Nat} (h1 : Cond.methodLink own idx Lib.objectInit ∈ Ts) (h2 : Cond.instanceMethod Lib.objectInit ∈ Ts) (h3 : Cond.code Lib.objectInit ⟨#[0xb1]⟩ 1 none ∈ Ts) (hR : 1 ≤ R.frames ∧ (st.map fun v => v.category).sum + 12 ≤ R.locals) (d : decode cc pc = .ok (.invokespecial idx, 3)) (k : xJ p l e R s m args below meth c cells slots Q D cl A nL (va_S A s.heap) (ws) (vs) (pc + 3) (st)) : xJ p l e R s m args below meth c cells slots Q D cl A nL (va_S A s.heap) (ws) (vs) (pc) (.ref a :: st) := fun H locs ls hP hD hS hl => W.objInit G.1 G.2.1 G.2.2.2.1 (G.2.2.2.2.1 _ h1) (G.2.2.2.2.1 _ h2) (G.2.2.2.2.1 _ h3) rfl (hl.1.trans G.2.2.1.symm) rfl d hR.1 (by have h0 : (F0 m pc ls (.ref a :: st)).monitorRoom = 0 := rfl; rw [h0]; have := hR.2; omega) (k H locs ls hP hD hS hl)
theorem x_pick (is : List Nat) {ws2 : va_W} (hn : va_nd is = true) (h1 : is.filterMap (fun i => ws[i]?) = ws2) (h2 : is.map (fun i => ws[i]?) = ws2.map some) (k : xJ p l e R s m args below meth c cells slots Q D cl A nL (va_S A s.heap) (ws2) (vs) (pc) (st)) : xJ p l e R s m args below meth c cells slots Q D cl A nL (va_S A s.heap) (ws) (vs) (pc) (st) := fun H locs ls hP hD hS hl => k H locs ls (hP.sub is h1) (hD.sub is hn h2) hS hl
theorem x_widen {k n : Nat} (h1 : cells ≤ k) (h2 : slots ≤ n) (kk : xJ p l e R s m args below meth c (k) (n) Q D cl A nL (va_S A s.heap) (ws) (vs) (pc) (st)) : xJ p l e R s m args below meth c cells slots Q D cl A nL (va_S A s.heap) (ws) (vs) (pc) (st) := fun H locs ls hP hD hS hl T hT X => kk H locs ls hP hD hS hl T hT (stand_widen X h1 h2)
set_option maxHeartbeats 1000000 in
theorem x_mna (G : xG p s m args c cc nL own Ts NW D cl tys A) (hao : (Cond.arrayOver (.array .int)).before #[] s = true) {index : Nat} (tI tJ : Nat) {cI cJ : ClassId} (hI : tys[tI]? = some (cI, .int)) (hJ : tys[tJ]? = some (cJ, .array .int)) (h1 : Cond.classLink own index "[[I" ∈ Ts) (h2 : Cond.arrayClass .int ∈ Ts) (hcells : cells + 5 ≤ R.cells) (hslots : slots + 36 ≤ R.slots) (d : decode cc pc = .ok (.multianewarray index 2, 4)) (k : ∀ (q : Nat) (r : Nat → Nat), xJ p l e R s m args below meth c (cells + 1 + 4) (slots + 4 + 32) Q D cl A nL (va_S A s.heap) (ws ++ [(q, .inl (cJ, 4, .inr (.inr (.inr (.inr (fun i => if i < 4 then some (r i) else none)))))), (r 0, .inl (cI, 8, .inl (fun _ => 0))), (r 1, .inl (cI, 8, .inl (fun _ => 0))), (r 2, .inl (cI, 8, .inl (fun _ => 0))), (r 3, .inl (cI, 8, .inl (fun _ => 0)))]) (vs) (pc + 4) (.ref q :: st)) : xJ p l e R s m args below meth c cells slots Q D cl A nL (va_S A s.heap) (ws) (vs) (pc) (.int 8 :: .int 4 :: st) := by
  intro H locs ls hP hD hS hl T hT X
  have e4 : (4 : Int32).toNatClampNeg = 4 := by decide
  have e8 : (8 : Int32).toNatClampNeg = 8 := by decide
  obtain ⟨vm₁, cA, comp, -, fA, fC, -, -, X', step⟩ := X.multianewarray2F (ty := .int) G.1 G.2.2.2.1 (G.2.2.2.2.1 _ h1) (ao_same rfl hao) (G.2.2.2.2.1 _ h2) (g := F0 m pc ls (.int 8 :: .int 4 :: st)) rfl (by rw [G.2.1]; exact d) rfl (by decide) (by decide) (by decide) (by decide) (by decide) rfl rfl (by rw [e4]; omega) (by rw [e4, e8]; omega)
  rw [e4, e8] at X' step
  have eA : cA = cJ := Option.some.inj (fA.symm.trans (G.2.2.2.2.2.1.2 tJ _ hJ).2)
  have eC : comp = cI := Option.some.inj (fC.symm.trans (G.2.2.2.2.2.1.2 tI _ hI).2)
  subst eA; subst eC
  have hTh : (T.setVm vm₁).heap = H := hT
  obtain ⟨f1, f2, -, -⟩ := Jvm.Free.Multi.fill_facts (T.setVm vm₁) cA comp 4 8 (defaultValue .int) 4
  have hold : ∀ x : Nat, x < H.size → (Jvm.Free.Multi.fill (T.setVm vm₁) cA comp 4 8 (defaultValue .int) 4).heap[x]? = H[x]? := fun x hx => by
    have := Jvm.Free.Multi.fill_old (T.setVm vm₁) cA comp 4 8 (defaultValue .int) (a := x) (by rw [hTh]; exact hx) 4
    rw [hTh] at this
    exact this
  have hrow : ∀ j : Nat, j < 4 → (Jvm.Free.Multi.fill (T.setVm vm₁) cA comp 4 8 (defaultValue .int) 4).heap[H.size + 1 + j]? = some (vp_cell comp (8, .inl (fun _ => 0))) := fun j hj => by
    have := Jvm.Free.Multi.fill_inner (T.setVm vm₁) cA comp 4 8 (defaultValue .int) 4 j hj
    rw [hTh] at this
    rw [this]
    exact congrArg some (inn8 comp)
  rw [hTh] at f1 f2
  generalize hF : Jvm.Free.Multi.fill (T.setVm vm₁) cA comp 4 8 (defaultValue .int) 4 = F at X' step f1 f2 hold hrow
  rw [out4] at f2
  have hlt : ∀ q ∈ ws, q.1 < H.size := fun q hq => (wP_iff.mp hP q hq).lt
  have hPn : va_P D cl (ws ++ [(H.size, .inl (cA, 4, .inr (.inr (.inr (.inr (fun i => if i < 4 then some (H.size + 1 + i) else none)))))), (H.size + 1 + 0, .inl (comp, 8, .inl (fun _ => 0))), (H.size + 1 + 1, .inl (comp, 8, .inl (fun _ => 0))), (H.size + 1 + 2, .inl (comp, 8, .inl (fun _ => 0))), (H.size + 1 + 3, .inl (comp, 8, .inl (fun _ => 0)))]) F.heap := by
    rw [wP_iff]
    intro q hq
    rcases List.mem_append.mp hq with h | h
    · exact (wP_iff.mp hP q h).keep (hold q.1 (hlt q h))
    · simp only [List.mem_cons, List.not_mem_nil, or_false] at h
      rcases h with rfl | rfl | rfl | rfl | rfl
      · exact f2
      · exact hrow 0 (by omega)
      · exact hrow 1 (by omega)
      · exact hrow 2 (by omega)
      · exact hrow 3 (by omega)
  have hDn : va_D A (ws ++ [(H.size, .inl (cA, 4, .inr (.inr (.inr (.inr (fun i => if i < 4 then some (H.size + 1 + i) else none)))))), (H.size + 1 + 0, .inl (comp, 8, .inl (fun _ => 0))), (H.size + 1 + 1, .inl (comp, 8, .inl (fun _ => 0))), (H.size + 1 + 2, .inl (comp, 8, .inl (fun _ => 0))), (H.size + 1 + 3, .inl (comp, 8, .inl (fun _ => 0)))]) := by
    rw [wD_iff] at hD ⊢
    have hS1 := hS.1
    refine ⟨?_, fun q hq => ?_⟩
    · rw [List.map_append, List.nodup_append]
      refine ⟨hD.1, ?_, fun a ha b hb he => ?_⟩
      · simp only [List.map_cons, List.map_nil, List.nodup_cons, List.mem_cons, List.not_mem_nil, or_false]
        refine ⟨by omega, by omega, by omega, by omega, by simp, List.nodup_nil⟩
      · obtain ⟨x, hx, rfl⟩ := List.mem_map.mp ha
        have := hlt x hx
        simp only [List.map_cons, List.map_nil, List.mem_cons, List.not_mem_nil, or_false] at hb
        omega
    · rcases List.mem_append.mp hq with h | h
      · exact hD.2 q h
      · simp only [List.mem_cons, List.not_mem_nil, or_false] at h
        rcases h with rfl | rfl | rfl | rfl | rfl <;> exact G.2.2.2.2.2.2.2 _ (by show s.heap.size ≤ _; omega)
  obtain ⟨t, a1, b1⟩ := k H.size (fun i => H.size + 1 + i) F.heap locs ls hPn hDn ⟨by have := hS.1; omega, fun x g1 g2 => (hold x (Nat.lt_of_lt_of_le g1 hS.1)).trans (hS.2.1 x g1 g2), hS.2.2⟩ hl F rfl X'
  refine ⟨t, step t ?_, b1⟩
  rw [hT]
  exact a1
theorem x_retc (G : xG p s m args c cc nL own Ts NW D cl tys A) {S : Type} {wf : S → va_W} {w0 : va_W} {post : S → Prop} (u : S) (hr : meth.sig.returnType = none) (hlk : meth.locks = false) (hw : ws = wf u) (hp : post u) (hA : A = va_A w0 s.heap.size) (d : decode cc pc = .ok (.return_, 1)) : xJ p l e R s m args below meth c cells slots (MQ below (va_Qv post (fun u t => va_P D cl (wf u) t.heap ∧ va_D (va_A w0 s.heap.size) (wf u)) (va_A w0 s.heap.size)) args s cells slots (va_A w0 s.heap.size)) D cl A nL (va_S A s.heap) ws vs pc [] := by
  subst hw; subst hA
  exact fun H locs ls hP hD hS hl => W.vret G.1 G.2.1 hr (fun t ht hW => ⟨⟨u, rfl, hp, by rw [ht]; exact hP, hD⟩, hS.F ht⟩) hS.2.2 d hlk
theorem xCc.of {S : Type} {w0 : va_W} {wf : S → va_W} {y : MethodName} {d mc ms : Nat} {as : List Value} {post : S → Prop} {ret : Option FieldType} {Ts' : List Cond} (hT : Ts = Cond.code y cc nL ret :: Ts') (hy : plainName y.cls = true) (hyn : y.name = "<init>") (vs : List Value) (hvs : asL vs = lv_args 0 as) (hlen : (lg_sl as).length ≤ nL)
    (body : ∀ (p : Program) (e : Env) (s : State) (m : MethodId) (args : Array Value) (below : List Frame) (meth : Method) (c : Code) (A : Nat → Prop), xG p s m args c cc nL y.cls Ts NW D cl tys A → meth.sig.returnType = ret → meth.locks = false → meth.name = "<init>" → (Cond.arrayOver (.array .int)).before #[] s = true → A = va_A w0 s.heap.size → xJ p l e { frames := d, cells := mc, slots := ms, locals := 40 * d } s m args below meth c 0 0 (MQ below (va_Qv post (fun u t => va_P D cl (wf u) t.heap ∧ va_D (va_A w0 s.heap.size) (wf u)) (va_A w0 s.heap.size)) args s mc ms (va_A w0 s.heap.size)) D cl A nL (va_S A s.heap) w0 vs 0 []) : xCc l D cl tys NW w0 wf y Ts d mc ms as post := by
  intro sz
  refine Met.ofW (cc := cc) (maxL := nL) (ret := ret) hy hT ?_
  intro p e s m args below meth c s₁ B hml hv
  obtain ⟨rfl, hsz, hP, hK, hN, hD0, hao⟩ := hv
  subst hsz
  have hD := hD0.self (sz := s.heap.size)
  have hl := lv_entry as (n := nL) hlen
  rw [lg_entry_eq]
  generalize (lg_sl as ++ List.replicate (nL - (lg_sl as).length) Slot.unset).toArray = ls at hl ⊢
  rw [← hvs] at hl
  exact body p e s m _ below meth c (va_A w0 s.heap.size) ⟨B.exec, B.bytes, hml, findClass_of_methodNamed B.named, atoms_spec (ws := Ts) B.pre, hK, hN, fun q h => Or.inr h⟩ B.returns B.notSynchronized ((name_of_methodNamed B.named B.method).1.trans hyn) hao rfl s.heap [] ls hP hD va_S.rf (xLV.of hl)
theorem x_callI0 (G : xG p s m args c cc nL own Ts NW D cl tys A) (hao : (Cond.arrayOver (.array .int)).before #[] s = true) {S : Type} {wf : S → va_W} {w0 : va_W} (L0 R0 : va_W) {b : Nat} {y : MethodName} {bytes : ByteArray} {maxL index d mc ms : Nat} {Tc : List Cond} {post : S → Prop} (hM : xCc l D cl tys NW w0 wf y Tc d mc ms [.ref b] post) (hw : ws = L0 ++ (w0 ++ R0)) (cw : CallB R s args own index y bytes maxL none Tc { frames := d, cells := mc, slots := ms, locals := 40 * d } mc ms 0 ∧ y.name = "<init>" ∧ (Cond.instanceMethod y).before args s = true) (dd : decode cc pc = .ok (.invokespecial index, 3)) (hroom : (st.map fun v => v.category).sum ≤ 8) (hcs : cells + mc ≤ R.cells ∧ slots + ms ≤ R.slots) (k : ∀ u : S, post u → xJ p l e R s m args below meth c (cells + mc) (slots + ms) Q D cl A nL (va_S A s.heap) (L0 ++ (wf u ++ R0)) (vs) (pc + 3) (st)) : xJ p l e R s m args below meth c cells slots Q D cl A nL (va_S A s.heap) (ws) (vs) (pc) (.ref b :: st) := fun H locs ls hP hD hS hl => by
  subst hw
  obtain ⟨hPc, hDc⟩ := fr_sub hP hD
  have hFc := x_free hDc hS G.2.2.2.2.2.2.2
  refine va_callv (va_runI (As := []) (rest := st) ⟨G.1, G.2.1, G.2.2.1, G.2.2.2.1, G.2.2.2.2.1⟩ (hM H.size) cw ⟨fun a U g mk q => by obtain ⟨q0, q1, qP, qK, qN, qD, qA⟩ := q; exact ⟨q0, q1, qP, va_K.moved (u := U) (U := U.calling g mk a) (Vm.Alike.refl U.vm) qK, fun c hc => ⟨(qN c hc).1, nest_same (s := U) (U := U.calling g mk a) (qN c hc).1 rfl (qN c hc).2⟩, qD, ao_same (u := U) (U := U.calling g mk a) rfl qA⟩, fun U hU hW => ⟨rfl, by rw [hU], by rw [hU]; exact hPc, va_K.moved hW.alike G.2.2.2.2.2.1, fun c hc => ⟨(G.2.2.2.2.2.2.1 c hc).1, nest_warm (G.2.2.2.2.2.2.1 c hc).1 hW (G.2.2.2.2.2.2.1 c hc).2⟩, hDc.weaken (fun _ _ _ _ => trivial), ao_warm hW hao⟩⟩ rfl rfl hl.1 rfl (lv_room hroom) dd hcs) hS (fun q _ h => hFc q h) hFc (fun u t H1 locs1 ht hvm hw hB hz1 hk1 hS1 => ?_)
  obtain ⟨hP1, hD1⟩ := hB
  rw [ht] at hP1
  obtain ⟨f1, f2⟩ := fr_put hP hD hk1 hP1 hD1 hFc
  exact k u hw H1 locs1 ls f1 f2 hS1 hl
theorem x_callI1 (G : xG p s m args c cc nL own Ts NW D cl tys A) (hao : (Cond.arrayOver (.array .int)).before #[] s = true) {S : Type} {wf : S → va_W} {w0 : va_W} (L0 R0 : va_W) {b : Nat} {y : MethodName} {bytes : ByteArray} {maxL index d mc ms : Nat} {Tc : List Cond} {a1 : Value} {post : S → Prop} (hM : xCc l D cl tys NW w0 wf y Tc d mc ms [.ref b, a1] post) (hw : ws = L0 ++ (w0 ++ R0)) (cw : CallB R s args own index y bytes maxL none Tc { frames := d, cells := mc, slots := ms, locals := 40 * d } mc ms 1 ∧ y.name = "<init>" ∧ (Cond.instanceMethod y).before args s = true) (dd : decode cc pc = .ok (.invokespecial index, 3)) (hroom : (st.map fun v => v.category).sum ≤ 8) (hcs : cells + mc ≤ R.cells ∧ slots + ms ≤ R.slots) (k : ∀ u : S, post u → xJ p l e R s m args below meth c (cells + mc) (slots + ms) Q D cl A nL (va_S A s.heap) (L0 ++ (wf u ++ R0)) (vs) (pc + 3) (st)) : xJ p l e R s m args below meth c cells slots Q D cl A nL (va_S A s.heap) (ws) (vs) (pc) (a1 :: .ref b :: st) := fun H locs ls hP hD hS hl => by
  subst hw
  obtain ⟨hPc, hDc⟩ := fr_sub hP hD
  have hFc := x_free hDc hS G.2.2.2.2.2.2.2
  refine va_callv (va_runI (As := [a1]) (rest := st) ⟨G.1, G.2.1, G.2.2.1, G.2.2.2.1, G.2.2.2.2.1⟩ (hM H.size) cw ⟨fun a U g mk q => by obtain ⟨q0, q1, qP, qK, qN, qD, qA⟩ := q; exact ⟨q0, q1, qP, va_K.moved (u := U) (U := U.calling g mk a) (Vm.Alike.refl U.vm) qK, fun c hc => ⟨(qN c hc).1, nest_same (s := U) (U := U.calling g mk a) (qN c hc).1 rfl (qN c hc).2⟩, qD, ao_same (u := U) (U := U.calling g mk a) rfl qA⟩, fun U hU hW => ⟨rfl, by rw [hU], by rw [hU]; exact hPc, va_K.moved hW.alike G.2.2.2.2.2.1, fun c hc => ⟨(G.2.2.2.2.2.2.1 c hc).1, nest_warm (G.2.2.2.2.2.2.1 c hc).1 hW (G.2.2.2.2.2.2.1 c hc).2⟩, hDc.weaken (fun _ _ _ _ => trivial), ao_warm hW hao⟩⟩ rfl rfl hl.1 rfl (lv_room hroom) dd hcs) hS (fun q _ h => hFc q h) hFc (fun u t H1 locs1 ht hvm hw hB hz1 hk1 hS1 => ?_)
  obtain ⟨hP1, hD1⟩ := hB
  rw [ht] at hP1
  obtain ⟨f1, f2⟩ := fr_put hP hD hk1 hP1 hD1 hFc
  exact k u hw H1 locs1 ls f1 f2 hS1 hl
theorem x_callI2 (G : xG p s m args c cc nL own Ts NW D cl tys A) (hao : (Cond.arrayOver (.array .int)).before #[] s = true) {S : Type} {wf : S → va_W} {w0 : va_W} (L0 R0 : va_W) {b : Nat} {y : MethodName} {bytes : ByteArray} {maxL index d mc ms : Nat} {Tc : List Cond} {a1 a2 : Value} {post : S → Prop} (hM : xCc l D cl tys NW w0 wf y Tc d mc ms [.ref b, a1, a2] post) (hw : ws = L0 ++ (w0 ++ R0)) (cw : CallB R s args own index y bytes maxL none Tc { frames := d, cells := mc, slots := ms, locals := 40 * d } mc ms 2 ∧ y.name = "<init>" ∧ (Cond.instanceMethod y).before args s = true) (dd : decode cc pc = .ok (.invokespecial index, 3)) (hroom : (st.map fun v => v.category).sum ≤ 8) (hcs : cells + mc ≤ R.cells ∧ slots + ms ≤ R.slots) (k : ∀ u : S, post u → xJ p l e R s m args below meth c (cells + mc) (slots + ms) Q D cl A nL (va_S A s.heap) (L0 ++ (wf u ++ R0)) (vs) (pc + 3) (st)) : xJ p l e R s m args below meth c cells slots Q D cl A nL (va_S A s.heap) (ws) (vs) (pc) (a2 :: a1 :: .ref b :: st) := fun H locs ls hP hD hS hl => by
  subst hw
  obtain ⟨hPc, hDc⟩ := fr_sub hP hD
  have hFc := x_free hDc hS G.2.2.2.2.2.2.2
  refine va_callv (va_runI (As := [a1, a2]) (rest := st) ⟨G.1, G.2.1, G.2.2.1, G.2.2.2.1, G.2.2.2.2.1⟩ (hM H.size) cw ⟨fun a U g mk q => by obtain ⟨q0, q1, qP, qK, qN, qD, qA⟩ := q; exact ⟨q0, q1, qP, va_K.moved (u := U) (U := U.calling g mk a) (Vm.Alike.refl U.vm) qK, fun c hc => ⟨(qN c hc).1, nest_same (s := U) (U := U.calling g mk a) (qN c hc).1 rfl (qN c hc).2⟩, qD, ao_same (u := U) (U := U.calling g mk a) rfl qA⟩, fun U hU hW => ⟨rfl, by rw [hU], by rw [hU]; exact hPc, va_K.moved hW.alike G.2.2.2.2.2.1, fun c hc => ⟨(G.2.2.2.2.2.2.1 c hc).1, nest_warm (G.2.2.2.2.2.2.1 c hc).1 hW (G.2.2.2.2.2.2.1 c hc).2⟩, hDc.weaken (fun _ _ _ _ => trivial), ao_warm hW hao⟩⟩ rfl rfl hl.1 rfl (lv_room hroom) dd hcs) hS (fun q _ h => hFc q h) hFc (fun u t H1 locs1 ht hvm hw hB hz1 hk1 hS1 => ?_)
  obtain ⟨hP1, hD1⟩ := hB
  rw [ht] at hP1
  obtain ⟨f1, f2⟩ := fr_put hP hD hk1 hP1 hD1 hFc
  exact k u hw H1 locs1 ls f1 f2 hS1 hl
theorem x_callI3 (G : xG p s m args c cc nL own Ts NW D cl tys A) (hao : (Cond.arrayOver (.array .int)).before #[] s = true) {S : Type} {wf : S → va_W} {w0 : va_W} (L0 R0 : va_W) {b : Nat} {y : MethodName} {bytes : ByteArray} {maxL index d mc ms : Nat} {Tc : List Cond} {a1 a2 a3 : Value} {post : S → Prop} (hM : xCc l D cl tys NW w0 wf y Tc d mc ms [.ref b, a1, a2, a3] post) (hw : ws = L0 ++ (w0 ++ R0)) (cw : CallB R s args own index y bytes maxL none Tc { frames := d, cells := mc, slots := ms, locals := 40 * d } mc ms 3 ∧ y.name = "<init>" ∧ (Cond.instanceMethod y).before args s = true) (dd : decode cc pc = .ok (.invokespecial index, 3)) (hroom : (st.map fun v => v.category).sum ≤ 8) (hcs : cells + mc ≤ R.cells ∧ slots + ms ≤ R.slots) (k : ∀ u : S, post u → xJ p l e R s m args below meth c (cells + mc) (slots + ms) Q D cl A nL (va_S A s.heap) (L0 ++ (wf u ++ R0)) (vs) (pc + 3) (st)) : xJ p l e R s m args below meth c cells slots Q D cl A nL (va_S A s.heap) (ws) (vs) (pc) (a3 :: a2 :: a1 :: .ref b :: st) := fun H locs ls hP hD hS hl => by
  subst hw
  obtain ⟨hPc, hDc⟩ := fr_sub hP hD
  have hFc := x_free hDc hS G.2.2.2.2.2.2.2
  refine va_callv (va_runI (As := [a1, a2, a3]) (rest := st) ⟨G.1, G.2.1, G.2.2.1, G.2.2.2.1, G.2.2.2.2.1⟩ (hM H.size) cw ⟨fun a U g mk q => by obtain ⟨q0, q1, qP, qK, qN, qD, qA⟩ := q; exact ⟨q0, q1, qP, va_K.moved (u := U) (U := U.calling g mk a) (Vm.Alike.refl U.vm) qK, fun c hc => ⟨(qN c hc).1, nest_same (s := U) (U := U.calling g mk a) (qN c hc).1 rfl (qN c hc).2⟩, qD, ao_same (u := U) (U := U.calling g mk a) rfl qA⟩, fun U hU hW => ⟨rfl, by rw [hU], by rw [hU]; exact hPc, va_K.moved hW.alike G.2.2.2.2.2.1, fun c hc => ⟨(G.2.2.2.2.2.2.1 c hc).1, nest_warm (G.2.2.2.2.2.2.1 c hc).1 hW (G.2.2.2.2.2.2.1 c hc).2⟩, hDc.weaken (fun _ _ _ _ => trivial), ao_warm hW hao⟩⟩ rfl rfl hl.1 rfl (lv_room hroom) dd hcs) hS (fun q _ h => hFc q h) hFc (fun u t H1 locs1 ht hvm hw hB hz1 hk1 hS1 => ?_)
  obtain ⟨hP1, hD1⟩ := hB
  rw [ht] at hP1
  obtain ⟨f1, f2⟩ := fr_put hP hD hk1 hP1 hD1 hFc
  exact k u hw H1 locs1 ls f1 f2 hS1 hl
theorem x_callIN0 (G : xG p s m args c cc nL own Ts NW D cl tys A) (hao : (Cond.arrayOver (.array .int)).before #[] s = true) {S : Type} {wf : S → va_W} {w0 : va_W} (L0 R0 : va_W) {b : Nat} {y : MethodName} {bytes : ByteArray} {maxL index d mc ms : Nat} {Tc : List Cond} {post : S → Prop} (hM : xCc l D cl tys NW w0 wf y Tc d mc ms [.ref b] post) (hw : ws = L0 ++ (w0 ++ R0)) {host : String} (cw : va_CN R s args own index y host bytes maxL none Tc { frames := d, cells := mc, slots := ms, locals := 40 * d } mc ms 0 ∧ y.name = "<init>" ∧ (Cond.instanceMethod y).before args s = true) (dd : decode cc pc = .ok (.invokespecial index, 3)) (hroom : (st.map fun v => v.category).sum ≤ 8) (hcs : cells + mc ≤ R.cells ∧ slots + ms ≤ R.slots) (k : ∀ u : S, post u → xJ p l e R s m args below meth c (cells + mc) (slots + ms) Q D cl A nL (va_S A s.heap) (L0 ++ (wf u ++ R0)) (vs) (pc + 3) (st)) : xJ p l e R s m args below meth c cells slots Q D cl A nL (va_S A s.heap) (ws) (vs) (pc) (.ref b :: st) := fun H locs ls hP hD hS hl => by
  subst hw
  obtain ⟨hPc, hDc⟩ := fr_sub hP hD
  have hFc := x_free hDc hS G.2.2.2.2.2.2.2
  refine va_callv (va_runIN (As := []) (rest := st) ⟨G.1, G.2.1, G.2.2.1, G.2.2.2.1, G.2.2.2.2.1⟩ (hM H.size) cw ⟨fun a U g mk q => by obtain ⟨q0, q1, qP, qK, qN, qD, qA⟩ := q; exact ⟨q0, q1, qP, va_K.moved (u := U) (U := U.calling g mk a) (Vm.Alike.refl U.vm) qK, fun c hc => ⟨(qN c hc).1, nest_same (s := U) (U := U.calling g mk a) (qN c hc).1 rfl (qN c hc).2⟩, qD, ao_same (u := U) (U := U.calling g mk a) rfl qA⟩, fun U hU hW => ⟨rfl, by rw [hU], by rw [hU]; exact hPc, va_K.moved hW.alike G.2.2.2.2.2.1, fun c hc => ⟨(G.2.2.2.2.2.2.1 c hc).1, nest_warm (G.2.2.2.2.2.2.1 c hc).1 hW (G.2.2.2.2.2.2.1 c hc).2⟩, hDc.weaken (fun _ _ _ _ => trivial), ao_warm hW hao⟩⟩ rfl rfl hl.1 rfl (lv_room hroom) dd hcs) hS (fun q _ h => hFc q h) hFc (fun u t H1 locs1 ht hvm hw hB hz1 hk1 hS1 => ?_)
  obtain ⟨hP1, hD1⟩ := hB
  rw [ht] at hP1
  obtain ⟨f1, f2⟩ := fr_put hP hD hk1 hP1 hD1 hFc
  exact k u hw H1 locs1 ls f1 f2 hS1 hl
theorem x_callIN1 (G : xG p s m args c cc nL own Ts NW D cl tys A) (hao : (Cond.arrayOver (.array .int)).before #[] s = true) {S : Type} {wf : S → va_W} {w0 : va_W} (L0 R0 : va_W) {b : Nat} {y : MethodName} {bytes : ByteArray} {maxL index d mc ms : Nat} {Tc : List Cond} {a1 : Value} {post : S → Prop} (hM : xCc l D cl tys NW w0 wf y Tc d mc ms [.ref b, a1] post) (hw : ws = L0 ++ (w0 ++ R0)) {host : String} (cw : va_CN R s args own index y host bytes maxL none Tc { frames := d, cells := mc, slots := ms, locals := 40 * d } mc ms 1 ∧ y.name = "<init>" ∧ (Cond.instanceMethod y).before args s = true) (dd : decode cc pc = .ok (.invokespecial index, 3)) (hroom : (st.map fun v => v.category).sum ≤ 8) (hcs : cells + mc ≤ R.cells ∧ slots + ms ≤ R.slots) (k : ∀ u : S, post u → xJ p l e R s m args below meth c (cells + mc) (slots + ms) Q D cl A nL (va_S A s.heap) (L0 ++ (wf u ++ R0)) (vs) (pc + 3) (st)) : xJ p l e R s m args below meth c cells slots Q D cl A nL (va_S A s.heap) (ws) (vs) (pc) (a1 :: .ref b :: st) := fun H locs ls hP hD hS hl => by
  subst hw
  obtain ⟨hPc, hDc⟩ := fr_sub hP hD
  have hFc := x_free hDc hS G.2.2.2.2.2.2.2
  refine va_callv (va_runIN (As := [a1]) (rest := st) ⟨G.1, G.2.1, G.2.2.1, G.2.2.2.1, G.2.2.2.2.1⟩ (hM H.size) cw ⟨fun a U g mk q => by obtain ⟨q0, q1, qP, qK, qN, qD, qA⟩ := q; exact ⟨q0, q1, qP, va_K.moved (u := U) (U := U.calling g mk a) (Vm.Alike.refl U.vm) qK, fun c hc => ⟨(qN c hc).1, nest_same (s := U) (U := U.calling g mk a) (qN c hc).1 rfl (qN c hc).2⟩, qD, ao_same (u := U) (U := U.calling g mk a) rfl qA⟩, fun U hU hW => ⟨rfl, by rw [hU], by rw [hU]; exact hPc, va_K.moved hW.alike G.2.2.2.2.2.1, fun c hc => ⟨(G.2.2.2.2.2.2.1 c hc).1, nest_warm (G.2.2.2.2.2.2.1 c hc).1 hW (G.2.2.2.2.2.2.1 c hc).2⟩, hDc.weaken (fun _ _ _ _ => trivial), ao_warm hW hao⟩⟩ rfl rfl hl.1 rfl (lv_room hroom) dd hcs) hS (fun q _ h => hFc q h) hFc (fun u t H1 locs1 ht hvm hw hB hz1 hk1 hS1 => ?_)
  obtain ⟨hP1, hD1⟩ := hB
  rw [ht] at hP1
  obtain ⟨f1, f2⟩ := fr_put hP hD hk1 hP1 hD1 hFc
  exact k u hw H1 locs1 ls f1 f2 hS1 hl
theorem x_callIN2 (G : xG p s m args c cc nL own Ts NW D cl tys A) (hao : (Cond.arrayOver (.array .int)).before #[] s = true) {S : Type} {wf : S → va_W} {w0 : va_W} (L0 R0 : va_W) {b : Nat} {y : MethodName} {bytes : ByteArray} {maxL index d mc ms : Nat} {Tc : List Cond} {a1 a2 : Value} {post : S → Prop} (hM : xCc l D cl tys NW w0 wf y Tc d mc ms [.ref b, a1, a2] post) (hw : ws = L0 ++ (w0 ++ R0)) {host : String} (cw : va_CN R s args own index y host bytes maxL none Tc { frames := d, cells := mc, slots := ms, locals := 40 * d } mc ms 2 ∧ y.name = "<init>" ∧ (Cond.instanceMethod y).before args s = true) (dd : decode cc pc = .ok (.invokespecial index, 3)) (hroom : (st.map fun v => v.category).sum ≤ 8) (hcs : cells + mc ≤ R.cells ∧ slots + ms ≤ R.slots) (k : ∀ u : S, post u → xJ p l e R s m args below meth c (cells + mc) (slots + ms) Q D cl A nL (va_S A s.heap) (L0 ++ (wf u ++ R0)) (vs) (pc + 3) (st)) : xJ p l e R s m args below meth c cells slots Q D cl A nL (va_S A s.heap) (ws) (vs) (pc) (a2 :: a1 :: .ref b :: st) := fun H locs ls hP hD hS hl => by
  subst hw
  obtain ⟨hPc, hDc⟩ := fr_sub hP hD
  have hFc := x_free hDc hS G.2.2.2.2.2.2.2
  refine va_callv (va_runIN (As := [a1, a2]) (rest := st) ⟨G.1, G.2.1, G.2.2.1, G.2.2.2.1, G.2.2.2.2.1⟩ (hM H.size) cw ⟨fun a U g mk q => by obtain ⟨q0, q1, qP, qK, qN, qD, qA⟩ := q; exact ⟨q0, q1, qP, va_K.moved (u := U) (U := U.calling g mk a) (Vm.Alike.refl U.vm) qK, fun c hc => ⟨(qN c hc).1, nest_same (s := U) (U := U.calling g mk a) (qN c hc).1 rfl (qN c hc).2⟩, qD, ao_same (u := U) (U := U.calling g mk a) rfl qA⟩, fun U hU hW => ⟨rfl, by rw [hU], by rw [hU]; exact hPc, va_K.moved hW.alike G.2.2.2.2.2.1, fun c hc => ⟨(G.2.2.2.2.2.2.1 c hc).1, nest_warm (G.2.2.2.2.2.2.1 c hc).1 hW (G.2.2.2.2.2.2.1 c hc).2⟩, hDc.weaken (fun _ _ _ _ => trivial), ao_warm hW hao⟩⟩ rfl rfl hl.1 rfl (lv_room hroom) dd hcs) hS (fun q _ h => hFc q h) hFc (fun u t H1 locs1 ht hvm hw hB hz1 hk1 hS1 => ?_)
  obtain ⟨hP1, hD1⟩ := hB
  rw [ht] at hP1
  obtain ⟨f1, f2⟩ := fr_put hP hD hk1 hP1 hD1 hFc
  exact k u hw H1 locs1 ls f1 f2 hS1 hl
theorem x_callIN3 (G : xG p s m args c cc nL own Ts NW D cl tys A) (hao : (Cond.arrayOver (.array .int)).before #[] s = true) {S : Type} {wf : S → va_W} {w0 : va_W} (L0 R0 : va_W) {b : Nat} {y : MethodName} {bytes : ByteArray} {maxL index d mc ms : Nat} {Tc : List Cond} {a1 a2 a3 : Value} {post : S → Prop} (hM : xCc l D cl tys NW w0 wf y Tc d mc ms [.ref b, a1, a2, a3] post) (hw : ws = L0 ++ (w0 ++ R0)) {host : String} (cw : va_CN R s args own index y host bytes maxL none Tc { frames := d, cells := mc, slots := ms, locals := 40 * d } mc ms 3 ∧ y.name = "<init>" ∧ (Cond.instanceMethod y).before args s = true) (dd : decode cc pc = .ok (.invokespecial index, 3)) (hroom : (st.map fun v => v.category).sum ≤ 8) (hcs : cells + mc ≤ R.cells ∧ slots + ms ≤ R.slots) (k : ∀ u : S, post u → xJ p l e R s m args below meth c (cells + mc) (slots + ms) Q D cl A nL (va_S A s.heap) (L0 ++ (wf u ++ R0)) (vs) (pc + 3) (st)) : xJ p l e R s m args below meth c cells slots Q D cl A nL (va_S A s.heap) (ws) (vs) (pc) (a3 :: a2 :: a1 :: .ref b :: st) := fun H locs ls hP hD hS hl => by
  subst hw
  obtain ⟨hPc, hDc⟩ := fr_sub hP hD
  have hFc := x_free hDc hS G.2.2.2.2.2.2.2
  refine va_callv (va_runIN (As := [a1, a2, a3]) (rest := st) ⟨G.1, G.2.1, G.2.2.1, G.2.2.2.1, G.2.2.2.2.1⟩ (hM H.size) cw ⟨fun a U g mk q => by obtain ⟨q0, q1, qP, qK, qN, qD, qA⟩ := q; exact ⟨q0, q1, qP, va_K.moved (u := U) (U := U.calling g mk a) (Vm.Alike.refl U.vm) qK, fun c hc => ⟨(qN c hc).1, nest_same (s := U) (U := U.calling g mk a) (qN c hc).1 rfl (qN c hc).2⟩, qD, ao_same (u := U) (U := U.calling g mk a) rfl qA⟩, fun U hU hW => ⟨rfl, by rw [hU], by rw [hU]; exact hPc, va_K.moved hW.alike G.2.2.2.2.2.1, fun c hc => ⟨(G.2.2.2.2.2.2.1 c hc).1, nest_warm (G.2.2.2.2.2.2.1 c hc).1 hW (G.2.2.2.2.2.2.1 c hc).2⟩, hDc.weaken (fun _ _ _ _ => trivial), ao_warm hW hao⟩⟩ rfl rfl hl.1 rfl (lv_room hroom) dd hcs) hS (fun q _ h => hFc q h) hFc (fun u t H1 locs1 ht hvm hw hB hz1 hk1 hS1 => ?_)
  obtain ⟨hP1, hD1⟩ := hB
  rw [ht] at hP1
  obtain ⟨f1, f2⟩ := fr_put hP hD hk1 hP1 hD1 hFc
  exact k u hw H1 locs1 ls f1 f2 hS1 hl
end XM
