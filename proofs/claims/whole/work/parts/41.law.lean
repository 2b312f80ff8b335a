/-! THE LAW: the script's rows, its own method cell, a call of each kind, the loop -/
theorem lgc_self {x y : Int64} (h : x = y) : lg_cmp x y = 0 := by subst h; simp [lg_cmp]
theorem sub4 {L i : Nat} (hL : L ≤ 2050) (hi : i ≤ 3000) : nI L - 4 < nI i ↔ L < i + 4 := by
  have key : (nI L - 4).toInt = (L : Int) - 4 := by
    by_cases h : 4 ≤ L
    · have e : nI L - 4 = nI (L - 4) := by
        have h1 := nI_add (L - 4) 4
        rw [show L - 4 + 4 = L by omega] at h1
        rw [← h1]
        exact Int32.add_sub_cancel _ _
      rw [e, nI_toInt (by omega)]; omega
    · rcases (show L = 0 ∨ L = 1 ∨ L = 2 ∨ L = 3 by omega) with rfl | rfl | rfl | rfl <;> decide
  rw [i32_lt, key, nI_toInt (by omega)]; omega
theorem good_w {c0 c1 : Cond} (h5 : c1 ∈ bigW) : GoodIn (c0 :: bigW) (c1 :: bigW) := fun w hw => by
  have h : w ∈ bigW := by
    rcases List.mem_cons.mp hw with rfl | h
    · exact h5
    · exact h
  exact ⟨List.mem_cons_of_mem _ h, bigW_good h⟩
theorem cH {R : Room} {s : State} {args : Array Value} {own : String} {idx n d N : Nat} {y : MethodName} {b : ByteArray} {ret : Option FieldType} {hh : List (Nat × Nat × Nat × Nat)} {c0 : Cond} (hts : ∀ w ∈ (c0 :: bigW), w.before args s = true) (h1 : Cond.methodLink own idx y ∈ bigW) (h2 : Cond.static y ∈ bigW) (h4 : Cond.initialized y.cls ∈ bigW) (h5 : Cond.codeWith y b n ret hh ∈ bigW)
    (hd : y.cls ≠ "java/lang/invoke/MethodHandle" ∧ y.cls ≠ "java/lang/invoke/VarHandle" ∧ (parseMethodDescriptor y.desc).map (fun d => d.parameters.length) = some N) (hR : d + 1 ≤ R.frames ∧ 8 + (n + 11) + 40 * d ≤ R.locals) :
    cwH R s args own idx y b n ret hh (Cond.codeWith y b n ret hh :: bigW) { frames := d, cells := 1, slots := 6, locals := 40 * d } N :=
  ⟨hR, pay_in hts (good_w h5), List.mem_cons_self, hts _ (.tail _ h5), hts _ (.tail _ h4), ⟨hd.1, hd.2.1⟩, fun sig h => by have := hd.2.2; rw [h] at this; exact (Option.some.inj this).symm, hts _ (.tail _ h1), hts _ (.tail _ h2)⟩
theorem xCc.tys {S : Type} {l : Launch} {D : va_G} {cl : List vw_C} {tys ty2 : List (ClassId × FieldType)} {NW : List Cond} {w0 : va_W} {wf : S → va_W} {y : MethodName} {Ts : List Cond} {d mc ms : Nat} {as : List Value} {post : S → Prop} (h : xCc l D cl tys NW w0 wf y Ts d mc ms as post) : xCc l D cl (tys ++ ty2) NW w0 wf y Ts d mc ms as post := by
  intro sz
  refine (h sz).map (fun a U q => ?_) (fun a st o t q hq => hq) (fun q hq => hq)
  obtain ⟨q0, q1, qP, qK, qN, qD, qA⟩ := q
  exact ⟨q0, q1, qP, qK.pre, qN, qD, qA⟩
section XS
variable {p : Program} {l : Launch} {e : Env} {R : Room} {s : State} {m : MethodId} {args : Array Value} {below : List Frame} {meth : Method} {c : Code} {cells slots : Nat} {Q : State → Prop} {D : va_G} {cl : List vw_C} {A : Nat → Prop} {nL : Nat} {S : Heap → List Loc → Prop} {ws : va_W} {vs : List Value} {pc : Nat} {st : List Value} {cc : ByteArray} {own : String} {Ts NW : List Cond} {tys : List (ClassId × FieldType)} {b L : Nat} {xs : Nat → Int32}
theorem x_sld (G : xG p s m args c cc nL own Ts NW D cl tys A) (hSS : ∀ H locs, S H locs → va_S A s.heap H locs) (hX : va_X b L xs s s.heap) (hbl : b < s.heap.size) (hbA : ¬ A b) {j : Nat} (hj : j < L) (hL : L < 2 ^ 31) (d : decode cc pc = .ok (.iaload, 1)) (k : xJ p l e R s m args below meth c cells slots Q D cl A nL (S) (ws) (vs) (pc + 1) (.int (xs j) :: st)) : xJ p l e R s m args below meth c cells slots Q D cl A nL (S) (ws) (vs) (pc) (.int (nI j) :: .ref b :: st) := fun H locs ls hP hD hS hl => va_sld G.1 G.2.1 hX hbl hbA (hSS _ _ hS) (vp_in_nI hj hL) d (by rw [nI_clamp (by omega)]; exact k H locs ls hP hD hS hl)
theorem x_slen (G : xG p s m args c cc nL own Ts NW D cl tys A) (hSS : ∀ H locs, S H locs → va_S A s.heap H locs) (hX : va_X b L xs s s.heap) (hbl : b < s.heap.size) (hbA : ¬ A b) (d : decode cc pc = .ok (.arraylength, 1)) (k : xJ p l e R s m args below meth c cells slots Q D cl A nL (S) (ws) (vs) (pc + 1) (.int (nI L) :: st)) : xJ p l e R s m args below meth c cells slots Q D cl A nL (S) (ws) (vs) (pc) (.ref b :: st) := fun H locs ls hP hD hS hl => va_slen G.1 G.2.1 hX hbl hbA (hSS _ _ hS) d (k H locs ls hP hD hS hl)
theorem x_perm {ws2 : va_W} (h : List.Perm ws ws2) (k : xJ p l e R s m args below meth c cells slots Q D cl A nL (S) (ws2) (vs) (pc) (st)) : xJ p l e R s m args below meth c cells slots Q D cl A nL (S) (ws) (vs) (pc) (st) := fun H locs ls hP hD hS hl => k H locs ls (wP_iff.mpr (fun q hq => wP_iff.mp hP q (h.mem_iff.mpr hq))) (wD_iff.mpr ⟨(h.map (fun q => q.1)).nodup_iff.mp (wD_iff.mp hD).1, fun q hq => (wD_iff.mp hD).2 q (h.mem_iff.mpr hq)⟩) hS hl
end XS
set_option maxHeartbeats 1000000 in
theorem cL_cell {l : Launch} (D : va_G) {b L : Nat} {xs : Nat → Int32} (hL : L < 2 ^ 31) {i : Nat} (hi : i < 2 ^ 31) : Met l yL_cell (.code yL_cell bL_cell 2 (some .int) :: bigW) { frames := 1, cells := 0, slots := 0, locals := 40 * 1 } (va_Pc [Value.ref b, Value.int (nI i)] (fun U => va_X b L xs U U.heap)) (vp_Si (fun r => r = if i < L then xs i else 0)) 0 0 (fun _ => False) := by
  refine Met.ofW (cc := bL_cell) (maxL := 2) (ret := some .int) (by decide) rfl ?_
  intro p e s m args below meth c s₁ B hml hv
  obtain ⟨rfl, hX⟩ := hv
  have hbl : b < s.heap.size := by obtain ⟨scr, h1, -⟩ := hX; exact (Array.getElem?_eq_some_iff.mp h1).1
  have hbA : ¬ (fun q : Nat => s.heap.size ≤ q) b := Nat.not_le.mpr hbl
  have hl := lv_entry [Value.ref b, Value.int (nI i)] (n := 2) (Nat.le_of_ble_eq_true rfl)
  rw [lg_entry_eq]
  generalize (lg_sl [Value.ref b, Value.int (nI i)] ++ List.replicate (2 - (lg_sl [Value.ref b, Value.int (nI i)]).length) Slot.unset).toArray = ls at hl ⊢
  have hl : xLV ls 2 [Value.ref b, Value.int (nI i)] := xLV.of hl
  have G : xG p s m ([Value.ref b, Value.int (nI i)] : List Value).toArray c bL_cell 2 "CranePlanLaw" (.code yL_cell bL_cell 2 (some .int) :: bigW) [] D [] [] (fun q : Nat => s.heap.size ≤ q) := ⟨B.exec, B.bytes, hml, findClass_of_methodNamed B.named, atoms_spec (ws := (.code yL_cell bL_cell 2 (some .int) :: bigW)) B.pre, ⟨fun k q h => by simp at h, fun k q h => by simp at h⟩, fun c hc => (by cases hc), fun q h => h⟩
  have hr := B.returns
  have hlk := B.notSynchronized
  have go : xJ p l e { frames := 1, cells := 0, slots := 0, locals := 40 * 1 } s m ([Value.ref b, Value.int (nI i)] : List Value).toArray below meth c 0 0 (MQ below (vp_Si (fun r => r = if i < L then xs i else 0)) ([Value.ref b, Value.int (nI i)] : List Value).toArray s 0 0 (fun _ => False)) D [] (fun q : Nat => s.heap.size ≤ q) 2 (fun H locs => H = s.heap ∧ locs = []) [] [Value.ref b, Value.int (nI i)] 0 [] := by
    refine x_iload_n G 1 dL_cell_0 rfl rfl ?_
    refine x_aload_n G 0 dL_cell_1 rfl rfl ?_
    refine x_slen G (fun H locs h => by rw [h.1, h.2]; exact va_S.rf) hX hbl hbA dL_cell_2 ?_
    refine x_icmp_ge G 12 dL_cell_3 (by decide) (fun h => ?_) (fun h => ?_)
    · rw [nI_leI hL hi] at h
      refine x_iconst G 0 dL_cell_12 (by decide) ?_
      exact x_ret0i G hr hlk rfl dL_cell_13 (if_neg (by omega)).symm
    · rw [nI_leI hL hi] at h
      refine x_aload_n G 0 dL_cell_6 rfl rfl ?_
      refine x_iload_n G 1 dL_cell_7 rfl rfl ?_
      refine x_sld G (fun H locs h => by rw [h.1, h.2]; exact va_S.rf) hX hbl hbA (by omega) hL dL_cell_8 ?_
      refine x_goto G 13 dL_cell_9 (by decide) ?_
      exact x_ret0i G hr hlk rfl dL_cell_13 (if_pos (by omega)).symm
  exact go s.heap [] ls (fun k q h => by simp at h) ⟨fun i j p q h => by simp at h, fun k q h => by simp at h⟩ ⟨rfl, rfl⟩ hl
/-- the law's whole world: the class, the cell for an answer, the reference -/
abbrev wL (ad am : Nat → Nat) (oa : Nat) (cI cZ cJ cL : ClassId) (σ τ : xSg) : va_W := wH ad oa cI cZ cJ cL σ ++ wM am cI cZ cJ τ
def dw (σ u : xSg) : xSg := fun q => if q = 25 then σ 25 else u q
section LW
variable {p : Program} {l : Launch} {e : Env} {s : State} {m : MethodId} {args : Array Value} {below : List Frame} {meth : Method} {c : Code} {cells slots : Nat} {Q : State → Prop} {D : va_G} {A : Nat → Prop} {c0 : Cond} {cI cZ cJ cL : ClassId} {ad am : Nat → Nat} {oa b L : Nat} {xs : Nat → Int32}
theorem x_cell (G : xG p s m args c code 7 "CranePlanLaw" (c0 :: bigW) nwW D vCl (tyL cI cZ cJ cL) A) (hX : va_X b L xs s s.heap) (hbl : b < s.heap.size) (hbA : ¬ A b) {i : Nat} (hL : L < 2 ^ 31) (hi : i < 2 ^ 31) {ws : va_W} {vs st : List Value} {pc index : Nat} (cw : CallB room_1 s args "CranePlanLaw" index yL_cell bL_cell 2 (some .int) (.code yL_cell bL_cell 2 (some .int) :: bigW) { frames := 1, cells := 0, slots := 0, locals := 40 * 1 } 0 0 2 ∧ (Cond.static yL_cell).before args s = true) (dd : decode code pc = .ok (.invokestatic index, 3)) (hroom : (st.map fun v => v.category).sum ≤ 8) (hcs : cells ≤ room_1.cells ∧ slots ≤ room_1.slots) (k : xJ p l e room_1 s m args below meth c (cells) (slots) Q D vCl A 7 (va_S A s.heap) (ws) (vs) (pc + 3) (.int (if i < L then xs i else 0) :: st)) : xJ p l e room_1 s m args below meth c (cells) (slots) Q D vCl A 7 (va_S A s.heap) (ws) (vs) pc (.int (nI i) :: .ref b :: st) := fun H locs ls hP hD hS hl => x_samei (va_runS (As := [Value.ref b, Value.int (nI i)]) (rest := st) ⟨G.1, G.2.1, G.2.2.1, G.2.2.2.1, G.2.2.2.2.1⟩ (cL_cell D (b := b) (xs := xs) hL hi) cw ⟨fun a U g mk q => by obtain ⟨q0, qX⟩ := q; exact ⟨q0, va_X.moved (u := U) (U := U.calling g mk a) (Vm.Alike.refl U.vm) qX⟩, fun U hU hW => ⟨rfl, by show va_X b L xs U U.heap; rw [hU]; exact (va_X.moved hW.alike hX).kept (hS.2.1 b hbl hbA)⟩⟩ rfl rfl hl.1 rfl (lv_room hroom) dd ⟨hcs.1, hcs.2⟩) (fun r hr => by subst hr; exact k H locs ls hP hD hS hl)
theorem dw_eq {σ τ u : xSg} : ([] ++ (wC ad cI cZ cJ u ++ ([oE oa cL σ] ++ wM am cI cZ cJ τ))) = wL ad am oa cI cZ cJ cL (dw σ u) τ := rfl
set_option maxHeartbeats 4000000 in
set_option maxRecDepth 100000 in
theorem law_bay (G : xG p s m args c code 7 "CranePlanLaw" (c0 :: bigW) nwW D vCl (tyL cI cZ cJ cL) A) (hTH : xTH s s.heap A) (htr : l.stackTraces = false) (hX : va_X b L xs s s.heap) (hbl : b < s.heap.size) (hbA : ¬ A b) (hL : L < 2 ^ 31) {i : Nat} (hi : i + 3 < L) (hcs : cells + 1 ≤ 670315 ∧ slots + 6 ≤ 7085125) {σ τ : xSg} (hR : REL σ τ) {v5 v6 : Value} (k : ∀ (u v : xSg) (w5 w6 : Value), REL u v → xJ p l e room_1 s m args below meth c (cells + 1) (slots + 6) Q D vCl A 7 (va_S A s.heap) (wL ad am oa cI cZ cJ cL u v) ([.ref b, .ref (ad 0), .ref (am 0), .ref oa, .int (nI i), w5, w6]) 687 ([])) : xJ p l e room_1 s m args below meth c (cells) (slots) Q D vCl A 7 (va_S A s.heap) (wL ad am oa cI cZ cJ cL σ τ) ([.ref b, .ref (ad 0), .ref (am 0), .ref oa, .int (nI i), v5, v6]) 116 ([]) := by
  obtain ⟨K, GC, GM, hC, hM, hrel⟩ := op_bay (l := l) (D := D) (cI := cI) (cZ := cZ) (cJ := cJ) (cL := cL) (ad := ad) (am := am) (oa := oa) hR htr (t1 := xs (i + 1)) (t2 := xs (i + 2))
  refine x_aload_n G 1 dL_law_116 rfl rfl ?_
  refine x_aload_n G 0 dL_law_117 rfl rfl ?_
  refine x_iload G dL_law_118 rfl ?_
  refine x_iconst G (nI 1) dL_law_120 (by decide) ?_
  refine x_iadd G dL_law_121 ?_
  refine x_top (nI_add _ _) ?_
  refine x_sld G (fun _ _ h => h) hX hbl hbA (by omega) hL dL_law_122 ?_
  refine x_aload_n G 0 dL_law_123 rfl rfl ?_
  refine x_iload G dL_law_124 rfl ?_
  refine x_iconst G (nI 2) dL_law_126 (by decide) ?_
  refine x_iadd G dL_law_127 ?_
  refine x_top (nI_add _ _) ?_
  refine x_sld G (fun _ _ h => h) hX hbl hbA (by omega) hL dL_law_128 ?_
  refine x_aload_n G 3 dL_law_129 rfl rfl ?_
  refine x_eq (ws2 := [] ++ (wH ad oa cI cZ cJ cL σ ++ wM am cI cZ cJ τ)) rfl rfl rfl rfl ?_
  refine x_callH4 G hTH (wf := fun u => [] ++ (wH ad oa cI cZ cJ cL u ++ wM am cI cZ cJ τ)) (xCh.frame (L := []) (R := wM am cI cZ cJ τ) (ty2 := []) hC) (cH G.2.2.2.2.1 wd_367 wd_368 wd_47 wd_369 (by decide +kernel) ⟨(Nat.le_of_ble_eq_true rfl), (Nat.le_of_ble_eq_true rfl)⟩) dL_law_130 (Nat.le_of_ble_eq_true rfl) ⟨by show _ ≤ 670315; omega, by show _ ≤ 7085125; omega⟩ (fun r1 u hu => ?_)
  obtain ⟨hrK, hGC⟩ := hu
  refine x_istore G dL_law_133 (by decide) ?_
  refine x_eq (ws2 := wL ad am oa cI cZ cJ cL u τ) (vs2 := [.ref b, .ref (ad 0), .ref (am 0), .ref oa, .int (nI i), .int r1, v6]) rfl rfl rfl rfl ?_
  refine x_aload_n G 2 dL_law_135 rfl rfl ?_
  refine x_aload_n G 0 dL_law_136 rfl rfl ?_
  refine x_iload G dL_law_137 rfl ?_
  refine x_iconst G (nI 1) dL_law_139 (by decide) ?_
  refine x_iadd G dL_law_140 ?_
  refine x_top (nI_add _ _) ?_
  refine x_sld G (fun _ _ h => h) hX hbl hbA (by omega) hL dL_law_141 ?_
  refine x_aload_n G 0 dL_law_142 rfl rfl ?_
  refine x_iload G dL_law_143 rfl ?_
  refine x_iconst G (nI 2) dL_law_145 (by decide) ?_
  refine x_iadd G dL_law_146 ?_
  refine x_top (nI_add _ _) ?_
  refine x_sld G (fun _ _ h => h) hX hbl hbA (by omega) hL dL_law_147 ?_
  refine x_eq (ws2 := wH ad oa cI cZ cJ cL u ++ (wM am cI cZ cJ τ ++ [])) rfl rfl rfl rfl ?_
  refine x_callV2i G (wf := fun v => wH ad oa cI cZ cJ cL u ++ (wM am cI cZ cJ v ++ [])) (xCi.frame (L := wH ad oa cI cZ cJ cL u) (R := []) (ty2 := [(cL, .long)]) hM) 26 rfl rfl (cV G.2.2.2.2.1 wd_648 wd_649 wd_650 wd_55 wd_651 (by decide +kernel) ⟨(Nat.le_of_ble_eq_true rfl), (Nat.le_of_ble_eq_true rfl)⟩) dL_law_148 (Nat.le_of_ble_eq_true rfl) ⟨by show _ ≤ 670315; omega, by show _ ≤ 7085125; omega⟩ (fun r2 v hv => ?_)
  obtain ⟨hK, hGM⟩ := hv
  refine x_istore G dL_law_151 (by decide) ?_
  refine x_eq (vs2 := [.ref b, .ref (ad 0), .ref (am 0), .ref oa, .int (nI i), .int r1, .int r2]) rfl rfl rfl rfl ?_
  refine x_aload_n G 2 dL_law_153 rfl rfl ?_
  refine x_call0V0i G (xCi0.frame (L := wH ad oa cI cZ cJ cL u) (R := []) (ty2 := [(cL, .long)]) (cM_thrown (ad := am) (σ := v))) 26 rfl rfl (cV G.2.2.2.2.1 wd_644 wd_645 wd_646 wd_55 wd_647 (by decide +kernel) ⟨(Nat.le_of_ble_eq_true rfl), (Nat.le_of_ble_eq_true rfl)⟩) dL_law_154 (Nat.le_of_ble_eq_true rfl) ⟨by show _ ≤ 670315; omega, by show _ ≤ 7085125; omega⟩ (fun r3 e3 => ?_)
  subst e3
  refine x_iload G dL_law_157 rfl ?_
  refine x_icmp_eq G 164 dL_law_159 (by decide) (fun _ => ?_) (fun h => absurd (hK.trans hrK.symm) h)
  refine x_eq (ws2 := wL ad am oa cI cZ cJ cL u v) rfl rfl rfl rfl ?_
  refine x_iload G dL_law_164 rfl ?_
  obtain ⟨f1, f2⟩ := hrel u r2 v hGC hGM
  refine x_if_ne G 181 dL_law_166 (by decide) (fun _ => ?_) (fun h0 => ?_)
  · refine x_goto G 687 dL_law_181 (by decide) ?_
    exact k u v _ _ f2
  · have f0 := f1 (hrK.symm.trans h0)
    refine x_aload_n G 3 dL_law_169 rfl rfl ?_
    refine x_iconst G (nI 0) dL_law_170 (by decide) ?_
    refine x_lald G 25 3 rfl rfl (vp_in_nI (n := 0) (N := 1) (by decide) (by decide)) dL_law_171 ?_
    refine x_topl (z := (u 25 0).toInt64) (by rw [nI_clamp (by decide)]; rfl) ?_
    refine x_iload G dL_law_172 rfl ?_
    refine x_i2l G dL_law_174 ?_
    refine x_lcmp G dL_law_175 ?_
    refine x_if_eq G 181 dL_law_176 (by decide) (fun _ => ?_) (fun h => absurd (lgc_self (by rw [f0])) h)
    refine x_goto G 687 dL_law_181 (by decide) ?_
    exact k u v _ _ f2
set_option maxHeartbeats 4000000 in
set_option maxRecDepth 100000 in
theorem law_rate (G : xG p s m args c code 7 "CranePlanLaw" (c0 :: bigW) nwW D vCl (tyL cI cZ cJ cL) A) (hTH : xTH s s.heap A) (htr : l.stackTraces = false) (hX : va_X b L xs s s.heap) (hbl : b < s.heap.size) (hbA : ¬ A b) (hL : L < 2 ^ 31) {i : Nat} (hi : i + 3 < L) (hcs : cells + 1 ≤ 670315 ∧ slots + 6 ≤ 7085125) {σ τ : xSg} (hR : REL σ τ) {v5 v6 : Value} (k : ∀ (u v : xSg) (w5 w6 : Value), REL u v → xJ p l e room_1 s m args below meth c (cells + 1) (slots + 6) Q D vCl A 7 (va_S A s.heap) (wL ad am oa cI cZ cJ cL u v) ([.ref b, .ref (ad 0), .ref (am 0), .ref oa, .int (nI i), w5, w6]) 687 ([])) : xJ p l e room_1 s m args below meth c (cells) (slots) Q D vCl A 7 (va_S A s.heap) (wL ad am oa cI cZ cJ cL σ τ) ([.ref b, .ref (ad 0), .ref (am 0), .ref oa, .int (nI i), v5, v6]) 184 ([]) := by
  obtain ⟨K, GC, GM, hC, hM, hrel⟩ := op_rate (l := l) (D := D) (cI := cI) (cZ := cZ) (cJ := cJ) (cL := cL) (ad := ad) (am := am) (oa := oa) hR htr (t1 := xs (i + 1)) (t2 := xs (i + 2)) (t3 := xs (i + 3))
  refine x_aload_n G 1 dL_law_184 rfl rfl ?_
  refine x_aload_n G 0 dL_law_185 rfl rfl ?_
  refine x_iload G dL_law_186 rfl ?_
  refine x_iconst G (nI 1) dL_law_188 (by decide) ?_
  refine x_iadd G dL_law_189 ?_
  refine x_top (nI_add _ _) ?_
  refine x_sld G (fun _ _ h => h) hX hbl hbA (by omega) hL dL_law_190 ?_
  refine x_aload_n G 0 dL_law_191 rfl rfl ?_
  refine x_iload G dL_law_192 rfl ?_
  refine x_iconst G (nI 2) dL_law_194 (by decide) ?_
  refine x_iadd G dL_law_195 ?_
  refine x_top (nI_add _ _) ?_
  refine x_sld G (fun _ _ h => h) hX hbl hbA (by omega) hL dL_law_196 ?_
  refine x_aload_n G 0 dL_law_197 rfl rfl ?_
  refine x_iload G dL_law_198 rfl ?_
  refine x_iconst G (nI 3) dL_law_200 (by decide) ?_
  refine x_iadd G dL_law_201 ?_
  refine x_top (nI_add _ _) ?_
  refine x_sld G (fun _ _ h => h) hX hbl hbA (by omega) hL dL_law_202 ?_
  refine x_aload_n G 3 dL_law_203 rfl rfl ?_
  refine x_eq (ws2 := [] ++ (wH ad oa cI cZ cJ cL σ ++ wM am cI cZ cJ τ)) rfl rfl rfl rfl ?_
  refine x_callH5 G hTH (wf := fun u => [] ++ (wH ad oa cI cZ cJ cL u ++ wM am cI cZ cJ τ)) (xCh.frame (L := []) (R := wM am cI cZ cJ τ) (ty2 := []) hC) (cH G.2.2.2.2.1 wd_470 wd_471 wd_47 wd_472 (by decide +kernel) ⟨(Nat.le_of_ble_eq_true rfl), (Nat.le_of_ble_eq_true rfl)⟩) dL_law_204 (Nat.le_of_ble_eq_true rfl) ⟨by show _ ≤ 670315; omega, by show _ ≤ 7085125; omega⟩ (fun r1 u hu => ?_)
  obtain ⟨hrK, hGC⟩ := hu
  refine x_istore G dL_law_207 (by decide) ?_
  refine x_eq (ws2 := wL ad am oa cI cZ cJ cL u τ) (vs2 := [.ref b, .ref (ad 0), .ref (am 0), .ref oa, .int (nI i), .int r1, v6]) rfl rfl rfl rfl ?_
  refine x_aload_n G 2 dL_law_209 rfl rfl ?_
  refine x_aload_n G 0 dL_law_210 rfl rfl ?_
  refine x_iload G dL_law_211 rfl ?_
  refine x_iconst G (nI 1) dL_law_213 (by decide) ?_
  refine x_iadd G dL_law_214 ?_
  refine x_top (nI_add _ _) ?_
  refine x_sld G (fun _ _ h => h) hX hbl hbA (by omega) hL dL_law_215 ?_
  refine x_aload_n G 0 dL_law_216 rfl rfl ?_
  refine x_iload G dL_law_217 rfl ?_
  refine x_iconst G (nI 2) dL_law_219 (by decide) ?_
  refine x_iadd G dL_law_220 ?_
  refine x_top (nI_add _ _) ?_
  refine x_sld G (fun _ _ h => h) hX hbl hbA (by omega) hL dL_law_221 ?_
  refine x_aload_n G 0 dL_law_222 rfl rfl ?_
  refine x_iload G dL_law_223 rfl ?_
  refine x_iconst G (nI 3) dL_law_225 (by decide) ?_
  refine x_iadd G dL_law_226 ?_
  refine x_top (nI_add _ _) ?_
  refine x_sld G (fun _ _ h => h) hX hbl hbA (by omega) hL dL_law_227 ?_
  refine x_eq (ws2 := wH ad oa cI cZ cJ cL u ++ (wM am cI cZ cJ τ ++ [])) rfl rfl rfl rfl ?_
  refine x_callV3i G (wf := fun v => wH ad oa cI cZ cJ cL u ++ (wM am cI cZ cJ v ++ [])) (xCi.frame (L := wH ad oa cI cZ cJ cL u) (R := []) (ty2 := [(cL, .long)]) hM) 26 rfl rfl (cV G.2.2.2.2.1 wd_659 wd_660 wd_661 wd_55 wd_662 (by decide +kernel) ⟨(Nat.le_of_ble_eq_true rfl), (Nat.le_of_ble_eq_true rfl)⟩) dL_law_228 (Nat.le_of_ble_eq_true rfl) ⟨by show _ ≤ 670315; omega, by show _ ≤ 7085125; omega⟩ (fun r2 v hv => ?_)
  obtain ⟨hK, hGM⟩ := hv
  refine x_istore G dL_law_231 (by decide) ?_
  refine x_eq (vs2 := [.ref b, .ref (ad 0), .ref (am 0), .ref oa, .int (nI i), .int r1, .int r2]) rfl rfl rfl rfl ?_
  refine x_aload_n G 2 dL_law_233 rfl rfl ?_
  refine x_call0V0i G (xCi0.frame (L := wH ad oa cI cZ cJ cL u) (R := []) (ty2 := [(cL, .long)]) (cM_thrown (ad := am) (σ := v))) 26 rfl rfl (cV G.2.2.2.2.1 wd_644 wd_645 wd_646 wd_55 wd_647 (by decide +kernel) ⟨(Nat.le_of_ble_eq_true rfl), (Nat.le_of_ble_eq_true rfl)⟩) dL_law_234 (Nat.le_of_ble_eq_true rfl) ⟨by show _ ≤ 670315; omega, by show _ ≤ 7085125; omega⟩ (fun r3 e3 => ?_)
  subst e3
  refine x_iload G dL_law_237 rfl ?_
  refine x_icmp_eq G 244 dL_law_239 (by decide) (fun _ => ?_) (fun h => absurd (hK.trans hrK.symm) h)
  refine x_eq (ws2 := wL ad am oa cI cZ cJ cL u v) rfl rfl rfl rfl ?_
  refine x_iload G dL_law_244 rfl ?_
  obtain ⟨f1, f2⟩ := hrel u r2 v hGC hGM
  refine x_if_ne G 268 dL_law_246 (by decide) (fun _ => ?_) (fun h0 => ?_)
  · refine x_goto G 687 dL_law_268 (by decide) ?_
    exact k u v _ _ f2
  · have f0 := f1 (hrK.symm.trans h0)
    refine x_aload_n G 3 dL_law_249 rfl rfl ?_
    refine x_iconst G (nI 0) dL_law_250 (by decide) ?_
    refine x_lald G 25 3 rfl rfl (vp_in_nI (n := 0) (N := 1) (by decide) (by decide)) dL_law_251 ?_
    refine x_topl (z := (u 25 0).toInt64) (by rw [nI_clamp (by decide)]; rfl) ?_
    refine x_iload G dL_law_252 rfl ?_
    refine x_if_eq G 261 dL_law_254 (by decide) (fun hz => ?_) (fun hz => ?_)
    · refine x_lconst G 0 dL_law_261 (by decide) ?_
      refine x_lcmp G dL_law_262 ?_
      refine x_if_eq G 268 dL_law_263 (by decide) (fun _ => ?_) (fun h => absurd (lgc_self (by rw [f0, if_pos hz]; decide)) h)
      refine x_goto G 687 dL_law_268 (by decide) ?_
      exact k u v _ _ f2
    · refine x_lconst G 1 dL_law_257 (by decide) ?_
      refine x_goto G 262 dL_law_258 (by decide) ?_
      refine x_lcmp G dL_law_262 ?_
      refine x_if_eq G 268 dL_law_263 (by decide) (fun _ => ?_) (fun h => absurd (lgc_self (by rw [f0, if_neg hz]; decide)) h)
      refine x_goto G 687 dL_law_268 (by decide) ?_
      exact k u v _ _ f2
set_option maxHeartbeats 4000000 in
set_option maxRecDepth 100000 in
theorem law_step (G : xG p s m args c code 7 "CranePlanLaw" (c0 :: bigW) nwW D vCl (tyL cI cZ cJ cL) A) (hTH : xTH s s.heap A) (htr : l.stackTraces = false) (hX : va_X b L xs s s.heap) (hbl : b < s.heap.size) (hbA : ¬ A b) (hL : L < 2 ^ 31) {i : Nat} (hi : i + 3 < L) (hcs : cells + 1 ≤ 670315 ∧ slots + 6 ≤ 7085125) {σ τ : xSg} (hR : REL σ τ) {v5 v6 : Value} (k : ∀ (u v : xSg) (w5 w6 : Value), REL u v → xJ p l e room_1 s m args below meth c (cells + 1) (slots + 6) Q D vCl A 7 (va_S A s.heap) (wL ad am oa cI cZ cJ cL u v) ([.ref b, .ref (ad 0), .ref (am 0), .ref oa, .int (nI i), w5, w6]) 687 ([])) : xJ p l e room_1 s m args below meth c (cells) (slots) Q D vCl A 7 (va_S A s.heap) (wL ad am oa cI cZ cJ cL σ τ) ([.ref b, .ref (ad 0), .ref (am 0), .ref oa, .int (nI i), v5, v6]) 271 ([]) := by
  obtain ⟨GC, GM, hC, hM, hrel⟩ := op_step (l := l) (D := D) (cI := cI) (cZ := cZ) (cJ := cJ) (cL := cL) (ad := ad) (am := am) (oa := oa) hR (t1 := xs (i + 1))
  refine x_widen (k := cells + 1) (n := slots + 6) (by omega) (by omega) ?_
  refine x_aload_n G 1 dL_law_271 rfl rfl ?_
  refine x_aload_n G 0 dL_law_272 rfl rfl ?_
  refine x_iload G dL_law_273 rfl ?_
  refine x_iconst G (nI 1) dL_law_275 (by decide) ?_
  refine x_iadd G dL_law_276 ?_
  refine x_top (nI_add _ _) ?_
  refine x_sld G (fun _ _ h => h) hX hbl hbA (by omega) hL dL_law_277 ?_
  refine x_eq (ws2 := [] ++ (wC ad cI cZ cJ σ ++ ([oE oa cL σ] ++ wM am cI cZ cJ τ))) rfl rfl rfl rfl ?_
  refine x_callV1i G (wf := fun u => [] ++ (wC ad cI cZ cJ u ++ ([oE oa cL σ] ++ wM am cI cZ cJ τ))) (xCi.frame (L := []) (R := [oE oa cL σ] ++ wM am cI cZ cJ τ) (ty2 := [(cL, .long)]) hC) 0 rfl rfl (cV G.2.2.2.2.1 wd_234 wd_235 wd_236 wd_48 wd_237 (by decide +kernel) ⟨(Nat.le_of_ble_eq_true rfl), (Nat.le_of_ble_eq_true rfl)⟩) dL_law_278 (Nat.le_of_ble_eq_true rfl) ⟨by show _ ≤ 670315; omega, by show _ ≤ 7085125; omega⟩ (fun r1 u hu => ?_)
  refine x_eq (ws2 := wL ad am oa cI cZ cJ cL (dw σ u) τ) dw_eq rfl rfl rfl ?_
  refine x_aload_n G 2 dL_law_281 rfl rfl ?_
  refine x_aload_n G 0 dL_law_282 rfl rfl ?_
  refine x_iload G dL_law_283 rfl ?_
  refine x_iconst G (nI 1) dL_law_285 (by decide) ?_
  refine x_iadd G dL_law_286 ?_
  refine x_top (nI_add _ _) ?_
  refine x_sld G (fun _ _ h => h) hX hbl hbA (by omega) hL dL_law_287 ?_
  refine x_eq (ws2 := wH ad oa cI cZ cJ cL (dw σ u) ++ (wM am cI cZ cJ τ ++ [])) rfl rfl rfl rfl ?_
  refine x_callV1i G (wf := fun v => wH ad oa cI cZ cJ cL (dw σ u) ++ (wM am cI cZ cJ v ++ [])) (xCi.frame (L := wH ad oa cI cZ cJ cL (dw σ u)) (R := []) (ty2 := [(cL, .long)]) hM) 26 rfl rfl (cV G.2.2.2.2.1 wd_667 wd_668 wd_669 wd_55 wd_670 (by decide +kernel) ⟨(Nat.le_of_ble_eq_true rfl), (Nat.le_of_ble_eq_true rfl)⟩) dL_law_288 (Nat.le_of_ble_eq_true rfl) ⟨by show _ ≤ 670315; omega, by show _ ≤ 7085125; omega⟩ (fun r2 v hv => ?_)
  obtain ⟨e1, e2⟩ := hrel r1 u r2 v hu hv
  refine x_eq (ws2 := wL ad am oa cI cZ cJ cL (dw σ u) v) rfl rfl rfl rfl ?_
  refine x_icmp_eq G 687 dL_law_291 (by decide) (fun _ => ?_) (fun h => absurd e1 h)
  exact k (dw σ u) v v5 v6 (e2.cl (fun q hq => if_neg (by omega)))
set_option maxHeartbeats 4000000 in
set_option maxRecDepth 100000 in
theorem law_plan (G : xG p s m args c code 7 "CranePlanLaw" (c0 :: bigW) nwW D vCl (tyL cI cZ cJ cL) A) (hTH : xTH s s.heap A) (htr : l.stackTraces = false) (hX : va_X b L xs s s.heap) (hbl : b < s.heap.size) (hbA : ¬ A b) (hL : L < 2 ^ 31) {i : Nat} (hi : i + 3 < L) (hcs : cells + 1 ≤ 670315 ∧ slots + 6 ≤ 7085125) {σ τ : xSg} (hR : REL σ τ) {v5 v6 : Value} (k : ∀ (u v : xSg) (w5 w6 : Value), REL u v → xJ p l e room_1 s m args below meth c (cells + 1) (slots + 6) Q D vCl A 7 (va_S A s.heap) (wL ad am oa cI cZ cJ cL u v) ([.ref b, .ref (ad 0), .ref (am 0), .ref oa, .int (nI i), w5, w6]) 687 ([])) : xJ p l e room_1 s m args below meth c (cells) (slots) Q D vCl A 7 (va_S A s.heap) (wL ad am oa cI cZ cJ cL σ τ) ([.ref b, .ref (ad 0), .ref (am 0), .ref oa, .int (nI i), v5, v6]) 296 ([]) := by
  obtain ⟨GC, GM, hC, hM, hrel⟩ := op_plan (l := l) (D := D) (cI := cI) (cZ := cZ) (cJ := cJ) (cL := cL) (ad := ad) (am := am) (oa := oa) hR 
  refine x_widen (k := cells + 1) (n := slots + 6) (by omega) (by omega) ?_
  refine x_aload_n G 1 dL_law_296 rfl rfl ?_
  refine x_eq (ws2 := [] ++ (wC ad cI cZ cJ σ ++ ([oE oa cL σ] ++ wM am cI cZ cJ τ))) rfl rfl rfl rfl ?_
  refine x_callV0i G (wf := fun u => [] ++ (wC ad cI cZ cJ u ++ ([oE oa cL σ] ++ wM am cI cZ cJ τ))) (xCi.frame (L := []) (R := [oE oa cL σ] ++ wM am cI cZ cJ τ) (ty2 := [(cL, .long)]) hC) 0 rfl rfl (cV G.2.2.2.2.1 wd_241 wd_242 wd_243 wd_48 wd_244 (by decide +kernel) ⟨(Nat.le_of_ble_eq_true rfl), (Nat.le_of_ble_eq_true rfl)⟩) dL_law_297 (Nat.le_of_ble_eq_true rfl) ⟨by show _ ≤ 670315; omega, by show _ ≤ 7085125; omega⟩ (fun r1 u hu => ?_)
  refine x_eq (ws2 := wL ad am oa cI cZ cJ cL (dw σ u) τ) dw_eq rfl rfl rfl ?_
  refine x_aload_n G 2 dL_law_300 rfl rfl ?_
  refine x_eq (ws2 := wH ad oa cI cZ cJ cL (dw σ u) ++ (wM am cI cZ cJ τ ++ [])) rfl rfl rfl rfl ?_
  refine x_callV0i G (wf := fun v => wH ad oa cI cZ cJ cL (dw σ u) ++ (wM am cI cZ cJ v ++ [])) (xCi.frame (L := wH ad oa cI cZ cJ cL (dw σ u)) (R := []) (ty2 := [(cL, .long)]) hM) 26 rfl rfl (cV G.2.2.2.2.1 wd_671 wd_672 wd_673 wd_55 wd_674 (by decide +kernel) ⟨(Nat.le_of_ble_eq_true rfl), (Nat.le_of_ble_eq_true rfl)⟩) dL_law_301 (Nat.le_of_ble_eq_true rfl) ⟨by show _ ≤ 670315; omega, by show _ ≤ 7085125; omega⟩ (fun r2 v hv => ?_)
  obtain ⟨e1, e2⟩ := hrel r1 u r2 v hu hv
  refine x_eq (ws2 := wL ad am oa cI cZ cJ cL (dw σ u) v) rfl rfl rfl rfl ?_
  refine x_icmp_eq G 687 dL_law_304 (by decide) (fun _ => ?_) (fun h => absurd e1 h)
  exact k (dw σ u) v v5 v6 (e2.cl (fun q hq => if_neg (by omega)))
set_option maxHeartbeats 4000000 in
set_option maxRecDepth 100000 in
theorem law_works (G : xG p s m args c code 7 "CranePlanLaw" (c0 :: bigW) nwW D vCl (tyL cI cZ cJ cL) A) (hTH : xTH s s.heap A) (htr : l.stackTraces = false) (hX : va_X b L xs s s.heap) (hbl : b < s.heap.size) (hbA : ¬ A b) (hL : L < 2 ^ 31) {i : Nat} (hi : i + 3 < L) (hcs : cells + 1 ≤ 670315 ∧ slots + 6 ≤ 7085125) {σ τ : xSg} (hR : REL σ τ) {v5 v6 : Value} (k : ∀ (u v : xSg) (w5 w6 : Value), REL u v → xJ p l e room_1 s m args below meth c (cells + 1) (slots + 6) Q D vCl A 7 (va_S A s.heap) (wL ad am oa cI cZ cJ cL u v) ([.ref b, .ref (ad 0), .ref (am 0), .ref oa, .int (nI i), w5, w6]) 687 ([])) : xJ p l e room_1 s m args below meth c (cells) (slots) Q D vCl A 7 (va_S A s.heap) (wL ad am oa cI cZ cJ cL σ τ) ([.ref b, .ref (ad 0), .ref (am 0), .ref oa, .int (nI i), v5, v6]) 309 ([]) := by
  obtain ⟨K, GC, GM, hC, hM, hrel⟩ := op_works (l := l) (D := D) (cI := cI) (cZ := cZ) (cJ := cJ) (cL := cL) (ad := ad) (am := am) (oa := oa) hR htr (t1 := xs (i + 1)) (t2 := xs (i + 2))
  refine x_aload_n G 1 dL_law_309 rfl rfl ?_
  refine x_aload_n G 0 dL_law_310 rfl rfl ?_
  refine x_iload G dL_law_311 rfl ?_
  refine x_iconst G (nI 1) dL_law_313 (by decide) ?_
  refine x_iadd G dL_law_314 ?_
  refine x_top (nI_add _ _) ?_
  refine x_sld G (fun _ _ h => h) hX hbl hbA (by omega) hL dL_law_315 ?_
  refine x_aload_n G 0 dL_law_316 rfl rfl ?_
  refine x_iload G dL_law_317 rfl ?_
  refine x_iconst G (nI 2) dL_law_319 (by decide) ?_
  refine x_iadd G dL_law_320 ?_
  refine x_top (nI_add _ _) ?_
  refine x_sld G (fun _ _ h => h) hX hbl hbA (by omega) hL dL_law_321 ?_
  refine x_aload_n G 3 dL_law_322 rfl rfl ?_
  refine x_eq (ws2 := [] ++ (wH ad oa cI cZ cJ cL σ ++ wM am cI cZ cJ τ)) rfl rfl rfl rfl ?_
  refine x_callH4 G hTH (wf := fun u => [] ++ (wH ad oa cI cZ cJ cL u ++ wM am cI cZ cJ τ)) (xCh.frame (L := []) (R := wM am cI cZ cJ τ) (ty2 := []) hC) (cH G.2.2.2.2.1 wd_501 wd_502 wd_47 wd_503 (by decide +kernel) ⟨(Nat.le_of_ble_eq_true rfl), (Nat.le_of_ble_eq_true rfl)⟩) dL_law_323 (Nat.le_of_ble_eq_true rfl) ⟨by show _ ≤ 670315; omega, by show _ ≤ 7085125; omega⟩ (fun r1 u hu => ?_)
  obtain ⟨hrK, hGC⟩ := hu
  refine x_istore G dL_law_326 (by decide) ?_
  refine x_eq (ws2 := wL ad am oa cI cZ cJ cL u τ) (vs2 := [.ref b, .ref (ad 0), .ref (am 0), .ref oa, .int (nI i), .int r1, v6]) rfl rfl rfl rfl ?_
  refine x_aload_n G 2 dL_law_328 rfl rfl ?_
  refine x_aload_n G 0 dL_law_329 rfl rfl ?_
  refine x_iload G dL_law_330 rfl ?_
  refine x_iconst G (nI 1) dL_law_332 (by decide) ?_
  refine x_iadd G dL_law_333 ?_
  refine x_top (nI_add _ _) ?_
  refine x_sld G (fun _ _ h => h) hX hbl hbA (by omega) hL dL_law_334 ?_
  refine x_aload_n G 0 dL_law_335 rfl rfl ?_
  refine x_iload G dL_law_336 rfl ?_
  refine x_iconst G (nI 2) dL_law_338 (by decide) ?_
  refine x_iadd G dL_law_339 ?_
  refine x_top (nI_add _ _) ?_
  refine x_sld G (fun _ _ h => h) hX hbl hbA (by omega) hL dL_law_340 ?_
  refine x_eq (ws2 := wH ad oa cI cZ cJ cL u ++ (wM am cI cZ cJ τ ++ [])) rfl rfl rfl rfl ?_
  refine x_callV2i G (wf := fun v => wH ad oa cI cZ cJ cL u ++ (wM am cI cZ cJ v ++ [])) (xCi.frame (L := wH ad oa cI cZ cJ cL u) (R := []) (ty2 := [(cL, .long)]) hM) 26 rfl rfl (cV G.2.2.2.2.1 wd_712 wd_713 wd_714 wd_55 wd_715 (by decide +kernel) ⟨(Nat.le_of_ble_eq_true rfl), (Nat.le_of_ble_eq_true rfl)⟩) dL_law_341 (Nat.le_of_ble_eq_true rfl) ⟨by show _ ≤ 670315; omega, by show _ ≤ 7085125; omega⟩ (fun r2 v hv => ?_)
  obtain ⟨hK, hGM⟩ := hv
  refine x_istore G dL_law_344 (by decide) ?_
  refine x_eq (vs2 := [.ref b, .ref (ad 0), .ref (am 0), .ref oa, .int (nI i), .int r1, .int r2]) rfl rfl rfl rfl ?_
  refine x_aload_n G 2 dL_law_346 rfl rfl ?_
  refine x_call0V0i G (xCi0.frame (L := wH ad oa cI cZ cJ cL u) (R := []) (ty2 := [(cL, .long)]) (cM_thrown (ad := am) (σ := v))) 26 rfl rfl (cV G.2.2.2.2.1 wd_644 wd_645 wd_646 wd_55 wd_647 (by decide +kernel) ⟨(Nat.le_of_ble_eq_true rfl), (Nat.le_of_ble_eq_true rfl)⟩) dL_law_347 (Nat.le_of_ble_eq_true rfl) ⟨by show _ ≤ 670315; omega, by show _ ≤ 7085125; omega⟩ (fun r3 e3 => ?_)
  subst e3
  refine x_iload G dL_law_350 rfl ?_
  refine x_icmp_eq G 357 dL_law_352 (by decide) (fun _ => ?_) (fun h => absurd (hK.trans hrK.symm) h)
  refine x_eq (ws2 := wL ad am oa cI cZ cJ cL u v) rfl rfl rfl rfl ?_
  refine x_iload G dL_law_357 rfl ?_
  obtain ⟨f1, f2⟩ := hrel u r2 v hGC hGM
  refine x_if_ne G 374 dL_law_359 (by decide) (fun _ => ?_) (fun h0 => ?_)
  · refine x_goto G 687 dL_law_374 (by decide) ?_
    exact k u v _ _ f2
  · have f0 := f1 (hrK.symm.trans h0)
    refine x_aload_n G 3 dL_law_362 rfl rfl ?_
    refine x_iconst G (nI 0) dL_law_363 (by decide) ?_
    refine x_lald G 25 3 rfl rfl (vp_in_nI (n := 0) (N := 1) (by decide) (by decide)) dL_law_364 ?_
    refine x_topl (z := (u 25 0).toInt64) (by rw [nI_clamp (by decide)]; rfl) ?_
    refine x_iload G dL_law_365 rfl ?_
    refine x_i2l G dL_law_367 ?_
    refine x_lcmp G dL_law_368 ?_
    refine x_if_eq G 374 dL_law_369 (by decide) (fun _ => ?_) (fun h => absurd (lgc_self (by rw [f0])) h)
    refine x_goto G 687 dL_law_374 (by decide) ?_
    exact k u v _ _ f2
set_option maxHeartbeats 4000000 in
set_option maxRecDepth 100000 in
theorem law_where (G : xG p s m args c code 7 "CranePlanLaw" (c0 :: bigW) nwW D vCl (tyL cI cZ cJ cL) A) (hTH : xTH s s.heap A) (htr : l.stackTraces = false) (hX : va_X b L xs s s.heap) (hbl : b < s.heap.size) (hbA : ¬ A b) (hL : L < 2 ^ 31) {i : Nat} (hi : i + 3 < L) (hcs : cells + 1 ≤ 670315 ∧ slots + 6 ≤ 7085125) {σ τ : xSg} (hR : REL σ τ) {v5 v6 : Value} (k : ∀ (u v : xSg) (w5 w6 : Value), REL u v → xJ p l e room_1 s m args below meth c (cells + 1) (slots + 6) Q D vCl A 7 (va_S A s.heap) (wL ad am oa cI cZ cJ cL u v) ([.ref b, .ref (ad 0), .ref (am 0), .ref oa, .int (nI i), w5, w6]) 687 ([])) : xJ p l e room_1 s m args below meth c (cells) (slots) Q D vCl A 7 (va_S A s.heap) (wL ad am oa cI cZ cJ cL σ τ) ([.ref b, .ref (ad 0), .ref (am 0), .ref oa, .int (nI i), v5, v6]) 377 ([]) := by
  obtain ⟨K, GC, GM, hC, hM, hrel⟩ := op_where (l := l) (D := D) (cI := cI) (cZ := cZ) (cJ := cJ) (cL := cL) (ad := ad) (am := am) (oa := oa) hR htr (t1 := xs (i + 1)) (t2 := xs (i + 2))
  refine x_aload_n G 1 dL_law_377 rfl rfl ?_
  refine x_aload_n G 0 dL_law_378 rfl rfl ?_
  refine x_iload G dL_law_379 rfl ?_
  refine x_iconst G (nI 1) dL_law_381 (by decide) ?_
  refine x_iadd G dL_law_382 ?_
  refine x_top (nI_add _ _) ?_
  refine x_sld G (fun _ _ h => h) hX hbl hbA (by omega) hL dL_law_383 ?_
  refine x_aload_n G 0 dL_law_384 rfl rfl ?_
  refine x_iload G dL_law_385 rfl ?_
  refine x_iconst G (nI 2) dL_law_387 (by decide) ?_
  refine x_iadd G dL_law_388 ?_
  refine x_top (nI_add _ _) ?_
  refine x_sld G (fun _ _ h => h) hX hbl hbA (by omega) hL dL_law_389 ?_
  refine x_aload_n G 3 dL_law_390 rfl rfl ?_
  refine x_eq (ws2 := [] ++ (wH ad oa cI cZ cJ cL σ ++ wM am cI cZ cJ τ)) rfl rfl rfl rfl ?_
  refine x_callH4 G hTH (wf := fun u => [] ++ (wH ad oa cI cZ cJ cL u ++ wM am cI cZ cJ τ)) (xCh.frame (L := []) (R := wM am cI cZ cJ τ) (ty2 := []) hC) (cH G.2.2.2.2.1 wd_529 wd_530 wd_47 wd_531 (by decide +kernel) ⟨(Nat.le_of_ble_eq_true rfl), (Nat.le_of_ble_eq_true rfl)⟩) dL_law_391 (Nat.le_of_ble_eq_true rfl) ⟨by show _ ≤ 670315; omega, by show _ ≤ 7085125; omega⟩ (fun r1 u hu => ?_)
  obtain ⟨hrK, hGC⟩ := hu
  refine x_istore G dL_law_394 (by decide) ?_
  refine x_eq (ws2 := wL ad am oa cI cZ cJ cL u τ) (vs2 := [.ref b, .ref (ad 0), .ref (am 0), .ref oa, .int (nI i), .int r1, v6]) rfl rfl rfl rfl ?_
  refine x_aload_n G 2 dL_law_396 rfl rfl ?_
  refine x_aload_n G 0 dL_law_397 rfl rfl ?_
  refine x_iload G dL_law_398 rfl ?_
  refine x_iconst G (nI 1) dL_law_400 (by decide) ?_
  refine x_iadd G dL_law_401 ?_
  refine x_top (nI_add _ _) ?_
  refine x_sld G (fun _ _ h => h) hX hbl hbA (by omega) hL dL_law_402 ?_
  refine x_aload_n G 0 dL_law_403 rfl rfl ?_
  refine x_iload G dL_law_404 rfl ?_
  refine x_iconst G (nI 2) dL_law_406 (by decide) ?_
  refine x_iadd G dL_law_407 ?_
  refine x_top (nI_add _ _) ?_
  refine x_sld G (fun _ _ h => h) hX hbl hbA (by omega) hL dL_law_408 ?_
  refine x_eq (ws2 := wH ad oa cI cZ cJ cL u ++ (wM am cI cZ cJ τ ++ [])) rfl rfl rfl rfl ?_
  refine x_callV2i G (wf := fun v => wH ad oa cI cZ cJ cL u ++ (wM am cI cZ cJ v ++ [])) (xCi.frame (L := wH ad oa cI cZ cJ cL u) (R := []) (ty2 := [(cL, .long)]) hM) 26 rfl rfl (cV G.2.2.2.2.1 wd_720 wd_721 wd_722 wd_55 wd_723 (by decide +kernel) ⟨(Nat.le_of_ble_eq_true rfl), (Nat.le_of_ble_eq_true rfl)⟩) dL_law_409 (Nat.le_of_ble_eq_true rfl) ⟨by show _ ≤ 670315; omega, by show _ ≤ 7085125; omega⟩ (fun r2 v hv => ?_)
  obtain ⟨hK, hGM⟩ := hv
  refine x_istore G dL_law_412 (by decide) ?_
  refine x_eq (vs2 := [.ref b, .ref (ad 0), .ref (am 0), .ref oa, .int (nI i), .int r1, .int r2]) rfl rfl rfl rfl ?_
  refine x_aload_n G 2 dL_law_414 rfl rfl ?_
  refine x_call0V0i G (xCi0.frame (L := wH ad oa cI cZ cJ cL u) (R := []) (ty2 := [(cL, .long)]) (cM_thrown (ad := am) (σ := v))) 26 rfl rfl (cV G.2.2.2.2.1 wd_644 wd_645 wd_646 wd_55 wd_647 (by decide +kernel) ⟨(Nat.le_of_ble_eq_true rfl), (Nat.le_of_ble_eq_true rfl)⟩) dL_law_415 (Nat.le_of_ble_eq_true rfl) ⟨by show _ ≤ 670315; omega, by show _ ≤ 7085125; omega⟩ (fun r3 e3 => ?_)
  subst e3
  refine x_iload G dL_law_418 rfl ?_
  refine x_icmp_eq G 425 dL_law_420 (by decide) (fun _ => ?_) (fun h => absurd (hK.trans hrK.symm) h)
  refine x_eq (ws2 := wL ad am oa cI cZ cJ cL u v) rfl rfl rfl rfl ?_
  refine x_iload G dL_law_425 rfl ?_
  obtain ⟨f1, f2⟩ := hrel u r2 v hGC hGM
  refine x_if_ne G 442 dL_law_427 (by decide) (fun _ => ?_) (fun h0 => ?_)
  · refine x_goto G 687 dL_law_442 (by decide) ?_
    exact k u v _ _ f2
  · have f0 := f1 (hrK.symm.trans h0)
    refine x_aload_n G 3 dL_law_430 rfl rfl ?_
    refine x_iconst G (nI 0) dL_law_431 (by decide) ?_
    refine x_lald G 25 3 rfl rfl (vp_in_nI (n := 0) (N := 1) (by decide) (by decide)) dL_law_432 ?_
    refine x_topl (z := (u 25 0).toInt64) (by rw [nI_clamp (by decide)]; rfl) ?_
    refine x_iload G dL_law_433 rfl ?_
    refine x_i2l G dL_law_435 ?_
    refine x_lcmp G dL_law_436 ?_
    refine x_if_eq G 442 dL_law_437 (by decide) (fun _ => ?_) (fun h => absurd (lgc_self (by rw [f0])) h)
    refine x_goto G 687 dL_law_442 (by decide) ?_
    exact k u v _ _ f2
set_option maxHeartbeats 4000000 in
set_option maxRecDepth 100000 in
theorem law_fails (G : xG p s m args c code 7 "CranePlanLaw" (c0 :: bigW) nwW D vCl (tyL cI cZ cJ cL) A) (hTH : xTH s s.heap A) (htr : l.stackTraces = false) (hX : va_X b L xs s s.heap) (hbl : b < s.heap.size) (hbA : ¬ A b) (hL : L < 2 ^ 31) {i : Nat} (hi : i + 3 < L) (hcs : cells + 1 ≤ 670315 ∧ slots + 6 ≤ 7085125) {σ τ : xSg} (hR : REL σ τ) {v5 v6 : Value} (k : ∀ (u v : xSg) (w5 w6 : Value), REL u v → xJ p l e room_1 s m args below meth c (cells + 1) (slots + 6) Q D vCl A 7 (va_S A s.heap) (wL ad am oa cI cZ cJ cL u v) ([.ref b, .ref (ad 0), .ref (am 0), .ref oa, .int (nI i), w5, w6]) 687 ([])) : xJ p l e room_1 s m args below meth c (cells) (slots) Q D vCl A 7 (va_S A s.heap) (wL ad am oa cI cZ cJ cL σ τ) ([.ref b, .ref (ad 0), .ref (am 0), .ref oa, .int (nI i), v5, v6]) 445 ([]) := by
  obtain ⟨K, GC, GM, hC, hM, hrel⟩ := op_fails (l := l) (D := D) (cI := cI) (cZ := cZ) (cJ := cJ) (cL := cL) (ad := ad) (am := am) (oa := oa) hR htr (t1 := xs (i + 1)) (t2 := xs (i + 2))
  refine x_aload_n G 1 dL_law_445 rfl rfl ?_
  refine x_aload_n G 0 dL_law_446 rfl rfl ?_
  refine x_iload G dL_law_447 rfl ?_
  refine x_iconst G (nI 1) dL_law_449 (by decide) ?_
  refine x_iadd G dL_law_450 ?_
  refine x_top (nI_add _ _) ?_
  refine x_sld G (fun _ _ h => h) hX hbl hbA (by omega) hL dL_law_451 ?_
  refine x_aload_n G 0 dL_law_452 rfl rfl ?_
  refine x_iload G dL_law_453 rfl ?_
  refine x_iconst G (nI 2) dL_law_455 (by decide) ?_
  refine x_iadd G dL_law_456 ?_
  refine x_top (nI_add _ _) ?_
  refine x_sld G (fun _ _ h => h) hX hbl hbA (by omega) hL dL_law_457 ?_
  refine x_aload_n G 3 dL_law_458 rfl rfl ?_
  refine x_eq (ws2 := [] ++ (wH ad oa cI cZ cJ cL σ ++ wM am cI cZ cJ τ)) rfl rfl rfl rfl ?_
  refine x_callH4 G hTH (wf := fun u => [] ++ (wH ad oa cI cZ cJ cL u ++ wM am cI cZ cJ τ)) (xCh.frame (L := []) (R := wM am cI cZ cJ τ) (ty2 := []) hC) (cH G.2.2.2.2.1 wd_541 wd_542 wd_47 wd_543 (by decide +kernel) ⟨(Nat.le_of_ble_eq_true rfl), (Nat.le_of_ble_eq_true rfl)⟩) dL_law_459 (Nat.le_of_ble_eq_true rfl) ⟨by show _ ≤ 670315; omega, by show _ ≤ 7085125; omega⟩ (fun r1 u hu => ?_)
  obtain ⟨hrK, hGC⟩ := hu
  refine x_istore G dL_law_462 (by decide) ?_
  refine x_eq (ws2 := wL ad am oa cI cZ cJ cL u τ) (vs2 := [.ref b, .ref (ad 0), .ref (am 0), .ref oa, .int (nI i), .int r1, v6]) rfl rfl rfl rfl ?_
  refine x_aload_n G 2 dL_law_464 rfl rfl ?_
  refine x_aload_n G 0 dL_law_465 rfl rfl ?_
  refine x_iload G dL_law_466 rfl ?_
  refine x_iconst G (nI 1) dL_law_468 (by decide) ?_
  refine x_iadd G dL_law_469 ?_
  refine x_top (nI_add _ _) ?_
  refine x_sld G (fun _ _ h => h) hX hbl hbA (by omega) hL dL_law_470 ?_
  refine x_aload_n G 0 dL_law_471 rfl rfl ?_
  refine x_iload G dL_law_472 rfl ?_
  refine x_iconst G (nI 2) dL_law_474 (by decide) ?_
  refine x_iadd G dL_law_475 ?_
  refine x_top (nI_add _ _) ?_
  refine x_sld G (fun _ _ h => h) hX hbl hbA (by omega) hL dL_law_476 ?_
  refine x_eq (ws2 := wH ad oa cI cZ cJ cL u ++ (wM am cI cZ cJ τ ++ [])) rfl rfl rfl rfl ?_
  refine x_callV2i G (wf := fun v => wH ad oa cI cZ cJ cL u ++ (wM am cI cZ cJ v ++ [])) (xCi.frame (L := wH ad oa cI cZ cJ cL u) (R := []) (ty2 := [(cL, .long)]) hM) 26 rfl rfl (cV G.2.2.2.2.1 wd_724 wd_725 wd_726 wd_55 wd_727 (by decide +kernel) ⟨(Nat.le_of_ble_eq_true rfl), (Nat.le_of_ble_eq_true rfl)⟩) dL_law_477 (Nat.le_of_ble_eq_true rfl) ⟨by show _ ≤ 670315; omega, by show _ ≤ 7085125; omega⟩ (fun r2 v hv => ?_)
  obtain ⟨hK, hGM⟩ := hv
  refine x_istore G dL_law_480 (by decide) ?_
  refine x_eq (vs2 := [.ref b, .ref (ad 0), .ref (am 0), .ref oa, .int (nI i), .int r1, .int r2]) rfl rfl rfl rfl ?_
  refine x_aload_n G 2 dL_law_482 rfl rfl ?_
  refine x_call0V0i G (xCi0.frame (L := wH ad oa cI cZ cJ cL u) (R := []) (ty2 := [(cL, .long)]) (cM_thrown (ad := am) (σ := v))) 26 rfl rfl (cV G.2.2.2.2.1 wd_644 wd_645 wd_646 wd_55 wd_647 (by decide +kernel) ⟨(Nat.le_of_ble_eq_true rfl), (Nat.le_of_ble_eq_true rfl)⟩) dL_law_483 (Nat.le_of_ble_eq_true rfl) ⟨by show _ ≤ 670315; omega, by show _ ≤ 7085125; omega⟩ (fun r3 e3 => ?_)
  subst e3
  refine x_iload G dL_law_486 rfl ?_
  refine x_icmp_eq G 493 dL_law_488 (by decide) (fun _ => ?_) (fun h => absurd (hK.trans hrK.symm) h)
  refine x_eq (ws2 := wL ad am oa cI cZ cJ cL u v) rfl rfl rfl rfl ?_
  refine x_iload G dL_law_493 rfl ?_
  obtain ⟨f1, f2⟩ := hrel u r2 v hGC hGM
  refine x_if_ne G 510 dL_law_495 (by decide) (fun _ => ?_) (fun h0 => ?_)
  · refine x_goto G 687 dL_law_510 (by decide) ?_
    exact k u v _ _ f2
  · have f0 := f1 (hrK.symm.trans h0)
    refine x_aload_n G 3 dL_law_498 rfl rfl ?_
    refine x_iconst G (nI 0) dL_law_499 (by decide) ?_
    refine x_lald G 25 3 rfl rfl (vp_in_nI (n := 0) (N := 1) (by decide) (by decide)) dL_law_500 ?_
    refine x_topl (z := (u 25 0).toInt64) (by rw [nI_clamp (by decide)]; rfl) ?_
    refine x_iload G dL_law_501 rfl ?_
    refine x_i2l G dL_law_503 ?_
    refine x_lcmp G dL_law_504 ?_
    refine x_if_eq G 510 dL_law_505 (by decide) (fun _ => ?_) (fun h => absurd (lgc_self (by rw [f0])) h)
    refine x_goto G 687 dL_law_510 (by decide) ?_
    exact k u v _ _ f2
set_option maxHeartbeats 4000000 in
set_option maxRecDepth 100000 in
theorem law_bound (G : xG p s m args c code 7 "CranePlanLaw" (c0 :: bigW) nwW D vCl (tyL cI cZ cJ cL) A) (hTH : xTH s s.heap A) (htr : l.stackTraces = false) (hX : va_X b L xs s s.heap) (hbl : b < s.heap.size) (hbA : ¬ A b) (hL : L < 2 ^ 31) {i : Nat} (hi : i + 3 < L) (hcs : cells + 1 ≤ 670315 ∧ slots + 6 ≤ 7085125) {σ τ : xSg} (hR : REL σ τ) {v5 v6 : Value} (k : ∀ (u v : xSg) (w5 w6 : Value), REL u v → xJ p l e room_1 s m args below meth c (cells + 1) (slots + 6) Q D vCl A 7 (va_S A s.heap) (wL ad am oa cI cZ cJ cL u v) ([.ref b, .ref (ad 0), .ref (am 0), .ref oa, .int (nI i), w5, w6]) 687 ([])) : xJ p l e room_1 s m args below meth c (cells) (slots) Q D vCl A 7 (va_S A s.heap) (wL ad am oa cI cZ cJ cL σ τ) ([.ref b, .ref (ad 0), .ref (am 0), .ref oa, .int (nI i), v5, v6]) 513 ([]) := by
  obtain ⟨GC, GM, hC, hM, hrel⟩ := op_bound (l := l) (D := D) (cI := cI) (cZ := cZ) (cJ := cJ) (cL := cL) (ad := ad) (am := am) (oa := oa) hR 
  refine x_widen (k := cells + 1) (n := slots + 6) (by omega) (by omega) ?_
  refine x_aload_n G 1 dL_law_513 rfl rfl ?_
  refine x_eq (ws2 := [] ++ (wC ad cI cZ cJ σ ++ ([oE oa cL σ] ++ wM am cI cZ cJ τ))) rfl rfl rfl rfl ?_
  refine x_callV0i G (wf := fun u => [] ++ (wC ad cI cZ cJ u ++ ([oE oa cL σ] ++ wM am cI cZ cJ τ))) (xCi.frame (L := []) (R := [oE oa cL σ] ++ wM am cI cZ cJ τ) (ty2 := [(cL, .long)]) hC) 0 rfl rfl (cV G.2.2.2.2.1 wd_334 wd_335 wd_336 wd_48 wd_337 (by decide +kernel) ⟨(Nat.le_of_ble_eq_true rfl), (Nat.le_of_ble_eq_true rfl)⟩) dL_law_514 (Nat.le_of_ble_eq_true rfl) ⟨by show _ ≤ 670315; omega, by show _ ≤ 7085125; omega⟩ (fun r1 u hu => ?_)
  refine x_eq (ws2 := wL ad am oa cI cZ cJ cL (dw σ u) τ) dw_eq rfl rfl rfl ?_
  refine x_aload_n G 2 dL_law_517 rfl rfl ?_
  refine x_eq (ws2 := wH ad oa cI cZ cJ cL (dw σ u) ++ (wM am cI cZ cJ τ ++ [])) rfl rfl rfl rfl ?_
  refine x_callV0i G (wf := fun v => wH ad oa cI cZ cJ cL (dw σ u) ++ (wM am cI cZ cJ v ++ [])) (xCi.frame (L := wH ad oa cI cZ cJ cL (dw σ u)) (R := []) (ty2 := [(cL, .long)]) hM) 26 rfl rfl (cV G.2.2.2.2.1 wd_728 wd_729 wd_730 wd_55 wd_731 (by decide +kernel) ⟨(Nat.le_of_ble_eq_true rfl), (Nat.le_of_ble_eq_true rfl)⟩) dL_law_518 (Nat.le_of_ble_eq_true rfl) ⟨by show _ ≤ 670315; omega, by show _ ≤ 7085125; omega⟩ (fun r2 v hv => ?_)
  obtain ⟨e1, e2⟩ := hrel r1 u r2 v hu hv
  refine x_eq (ws2 := wL ad am oa cI cZ cJ cL (dw σ u) v) rfl rfl rfl rfl ?_
  refine x_icmp_eq G 687 dL_law_521 (by decide) (fun _ => ?_) (fun h => absurd e1 h)
  exact k (dw σ u) v v5 v6 (e2.cl (fun q hq => if_neg (by omega)))
set_option maxHeartbeats 4000000 in
set_option maxRecDepth 100000 in
theorem law_row (G : xG p s m args c code 7 "CranePlanLaw" (c0 :: bigW) nwW D vCl (tyL cI cZ cJ cL) A) (hTH : xTH s s.heap A) (htr : l.stackTraces = false) (hX : va_X b L xs s s.heap) (hbl : b < s.heap.size) (hbA : ¬ A b) (hL : L < 2 ^ 31) {i : Nat} (hi : i + 3 < L) (hcs : cells + 1 ≤ 670315 ∧ slots + 6 ≤ 7085125) {σ τ : xSg} (hR : REL σ τ) {v5 v6 : Value} (k : ∀ (u v : xSg) (w5 w6 : Value), REL u v → xJ p l e room_1 s m args below meth c (cells + 1) (slots + 6) Q D vCl A 7 (va_S A s.heap) (wL ad am oa cI cZ cJ cL u v) ([.ref b, .ref (ad 0), .ref (am 0), .ref oa, .int (nI i), w5, w6]) 687 ([])) : xJ p l e room_1 s m args below meth c (cells) (slots) Q D vCl A 7 (va_S A s.heap) (wL ad am oa cI cZ cJ cL σ τ) ([.ref b, .ref (ad 0), .ref (am 0), .ref oa, .int (nI i), v5, v6]) 526 ([]) := by
  obtain ⟨K, GC, GM, hC, hM, hrel⟩ := op_row (l := l) (D := D) (cI := cI) (cZ := cZ) (cJ := cJ) (cL := cL) (ad := ad) (am := am) (oa := oa) hR htr (t1 := xs (i + 1)) (t2 := xs (i + 2))
  refine x_aload_n G 1 dL_law_526 rfl rfl ?_
  refine x_aload_n G 0 dL_law_527 rfl rfl ?_
  refine x_iload G dL_law_528 rfl ?_
  refine x_iconst G (nI 1) dL_law_530 (by decide) ?_
  refine x_iadd G dL_law_531 ?_
  refine x_top (nI_add _ _) ?_
  refine x_sld G (fun _ _ h => h) hX hbl hbA (by omega) hL dL_law_532 ?_
  refine x_aload_n G 0 dL_law_533 rfl rfl ?_
  refine x_iload G dL_law_534 rfl ?_
  refine x_iconst G (nI 2) dL_law_536 (by decide) ?_
  refine x_iadd G dL_law_537 ?_
  refine x_top (nI_add _ _) ?_
  refine x_sld G (fun _ _ h => h) hX hbl hbA (by omega) hL dL_law_538 ?_
  refine x_aload_n G 3 dL_law_539 rfl rfl ?_
  refine x_eq (ws2 := [] ++ (wH ad oa cI cZ cJ cL σ ++ wM am cI cZ cJ τ)) rfl rfl rfl rfl ?_
  refine x_callH4 G hTH (wf := fun u => [] ++ (wH ad oa cI cZ cJ cL u ++ wM am cI cZ cJ τ)) (xCh.frame (L := []) (R := wM am cI cZ cJ τ) (ty2 := []) hC) (cH G.2.2.2.2.1 wd_568 wd_569 wd_47 wd_570 (by decide +kernel) ⟨(Nat.le_of_ble_eq_true rfl), (Nat.le_of_ble_eq_true rfl)⟩) dL_law_540 (Nat.le_of_ble_eq_true rfl) ⟨by show _ ≤ 670315; omega, by show _ ≤ 7085125; omega⟩ (fun r1 u hu => ?_)
  obtain ⟨hrK, hGC⟩ := hu
  refine x_istore G dL_law_543 (by decide) ?_
  refine x_eq (ws2 := wL ad am oa cI cZ cJ cL u τ) (vs2 := [.ref b, .ref (ad 0), .ref (am 0), .ref oa, .int (nI i), .int r1, v6]) rfl rfl rfl rfl ?_
  refine x_aload_n G 2 dL_law_545 rfl rfl ?_
  refine x_aload_n G 0 dL_law_546 rfl rfl ?_
  refine x_iload G dL_law_547 rfl ?_
  refine x_iconst G (nI 1) dL_law_549 (by decide) ?_
  refine x_iadd G dL_law_550 ?_
  refine x_top (nI_add _ _) ?_
  refine x_sld G (fun _ _ h => h) hX hbl hbA (by omega) hL dL_law_551 ?_
  refine x_aload_n G 0 dL_law_552 rfl rfl ?_
  refine x_iload G dL_law_553 rfl ?_
  refine x_iconst G (nI 2) dL_law_555 (by decide) ?_
  refine x_iadd G dL_law_556 ?_
  refine x_top (nI_add _ _) ?_
  refine x_sld G (fun _ _ h => h) hX hbl hbA (by omega) hL dL_law_557 ?_
  refine x_eq (ws2 := wH ad oa cI cZ cJ cL u ++ (wM am cI cZ cJ τ ++ [])) rfl rfl rfl rfl ?_
  refine x_callV2i G (wf := fun v => wH ad oa cI cZ cJ cL u ++ (wM am cI cZ cJ v ++ [])) (xCi.frame (L := wH ad oa cI cZ cJ cL u) (R := []) (ty2 := [(cL, .long)]) hM) 26 rfl rfl (cV G.2.2.2.2.1 wd_732 wd_733 wd_734 wd_55 wd_735 (by decide +kernel) ⟨(Nat.le_of_ble_eq_true rfl), (Nat.le_of_ble_eq_true rfl)⟩) dL_law_558 (Nat.le_of_ble_eq_true rfl) ⟨by show _ ≤ 670315; omega, by show _ ≤ 7085125; omega⟩ (fun r2 v hv => ?_)
  obtain ⟨hK, hGM⟩ := hv
  refine x_istore G dL_law_561 (by decide) ?_
  refine x_eq (vs2 := [.ref b, .ref (ad 0), .ref (am 0), .ref oa, .int (nI i), .int r1, .int r2]) rfl rfl rfl rfl ?_
  refine x_aload_n G 2 dL_law_563 rfl rfl ?_
  refine x_call0V0i G (xCi0.frame (L := wH ad oa cI cZ cJ cL u) (R := []) (ty2 := [(cL, .long)]) (cM_thrown (ad := am) (σ := v))) 26 rfl rfl (cV G.2.2.2.2.1 wd_644 wd_645 wd_646 wd_55 wd_647 (by decide +kernel) ⟨(Nat.le_of_ble_eq_true rfl), (Nat.le_of_ble_eq_true rfl)⟩) dL_law_564 (Nat.le_of_ble_eq_true rfl) ⟨by show _ ≤ 670315; omega, by show _ ≤ 7085125; omega⟩ (fun r3 e3 => ?_)
  subst e3
  refine x_iload G dL_law_567 rfl ?_
  refine x_icmp_eq G 574 dL_law_569 (by decide) (fun _ => ?_) (fun h => absurd (hK.trans hrK.symm) h)
  refine x_eq (ws2 := wL ad am oa cI cZ cJ cL u v) rfl rfl rfl rfl ?_
  refine x_iload G dL_law_574 rfl ?_
  obtain ⟨f1, f2⟩ := hrel u r2 v hGC hGM
  refine x_if_ne G 591 dL_law_576 (by decide) (fun _ => ?_) (fun h0 => ?_)
  · refine x_goto G 687 dL_law_591 (by decide) ?_
    exact k u v _ _ f2
  · have f0 := f1 (hrK.symm.trans h0)
    refine x_aload_n G 3 dL_law_579 rfl rfl ?_
    refine x_iconst G (nI 0) dL_law_580 (by decide) ?_
    refine x_lald G 25 3 rfl rfl (vp_in_nI (n := 0) (N := 1) (by decide) (by decide)) dL_law_581 ?_
    refine x_topl (z := (u 25 0).toInt64) (by rw [nI_clamp (by decide)]; rfl) ?_
    refine x_iload G dL_law_582 rfl ?_
    refine x_i2l G dL_law_584 ?_
    refine x_lcmp G dL_law_585 ?_
    refine x_if_eq G 591 dL_law_586 (by decide) (fun _ => ?_) (fun h => absurd (lgc_self (by rw [f0])) h)
    refine x_goto G 687 dL_law_591 (by decide) ?_
    exact k u v _ _ f2
set_option maxHeartbeats 4000000 in
set_option maxRecDepth 100000 in
theorem law_look (G : xG p s m args c code 7 "CranePlanLaw" (c0 :: bigW) nwW D vCl (tyL cI cZ cJ cL) A) (hTH : xTH s s.heap A) (htr : l.stackTraces = false) (hX : va_X b L xs s s.heap) (hbl : b < s.heap.size) (hbA : ¬ A b) (hL : L < 2 ^ 31) {i : Nat} (hi : i + 3 < L) (hcs : cells + 1 ≤ 670315 ∧ slots + 6 ≤ 7085125) {σ τ : xSg} (hR : REL σ τ) {v5 v6 : Value} (k : ∀ (u v : xSg) (w5 w6 : Value), REL u v → xJ p l e room_1 s m args below meth c (cells + 1) (slots + 6) Q D vCl A 7 (va_S A s.heap) (wL ad am oa cI cZ cJ cL u v) ([.ref b, .ref (ad 0), .ref (am 0), .ref oa, .int (nI i), w5, w6]) 687 ([])) : xJ p l e room_1 s m args below meth c (cells) (slots) Q D vCl A 7 (va_S A s.heap) (wL ad am oa cI cZ cJ cL σ τ) ([.ref b, .ref (ad 0), .ref (am 0), .ref oa, .int (nI i), v5, v6]) 594 ([]) := by
  obtain ⟨K, GC, GM, hC, hM, hrel⟩ := op_look (l := l) (D := D) (cI := cI) (cZ := cZ) (cJ := cJ) (cL := cL) (ad := ad) (am := am) (oa := oa) hR htr (t1 := xs (i + 1)) (t2 := xs (i + 2))
  refine x_aload_n G 1 dL_law_594 rfl rfl ?_
  refine x_aload_n G 0 dL_law_595 rfl rfl ?_
  refine x_iload G dL_law_596 rfl ?_
  refine x_iconst G (nI 1) dL_law_598 (by decide) ?_
  refine x_iadd G dL_law_599 ?_
  refine x_top (nI_add _ _) ?_
  refine x_sld G (fun _ _ h => h) hX hbl hbA (by omega) hL dL_law_600 ?_
  refine x_aload_n G 0 dL_law_601 rfl rfl ?_
  refine x_iload G dL_law_602 rfl ?_
  refine x_iconst G (nI 2) dL_law_604 (by decide) ?_
  refine x_iadd G dL_law_605 ?_
  refine x_top (nI_add _ _) ?_
  refine x_sld G (fun _ _ h => h) hX hbl hbA (by omega) hL dL_law_606 ?_
  refine x_aload_n G 3 dL_law_607 rfl rfl ?_
  refine x_eq (ws2 := [] ++ (wH ad oa cI cZ cJ cL σ ++ wM am cI cZ cJ τ)) rfl rfl rfl rfl ?_
  refine x_callH4 G hTH (wf := fun u => [] ++ (wH ad oa cI cZ cJ cL u ++ wM am cI cZ cJ τ)) (xCh.frame (L := []) (R := wM am cI cZ cJ τ) (ty2 := []) hC) (cH G.2.2.2.2.1 wd_580 wd_581 wd_47 wd_582 (by decide +kernel) ⟨(Nat.le_of_ble_eq_true rfl), (Nat.le_of_ble_eq_true rfl)⟩) dL_law_608 (Nat.le_of_ble_eq_true rfl) ⟨by show _ ≤ 670315; omega, by show _ ≤ 7085125; omega⟩ (fun r1 u hu => ?_)
  obtain ⟨hrK, hGC⟩ := hu
  refine x_istore G dL_law_611 (by decide) ?_
  refine x_eq (ws2 := wL ad am oa cI cZ cJ cL u τ) (vs2 := [.ref b, .ref (ad 0), .ref (am 0), .ref oa, .int (nI i), .int r1, v6]) rfl rfl rfl rfl ?_
  refine x_aload_n G 2 dL_law_613 rfl rfl ?_
  refine x_aload_n G 0 dL_law_614 rfl rfl ?_
  refine x_iload G dL_law_615 rfl ?_
  refine x_iconst G (nI 1) dL_law_617 (by decide) ?_
  refine x_iadd G dL_law_618 ?_
  refine x_top (nI_add _ _) ?_
  refine x_sld G (fun _ _ h => h) hX hbl hbA (by omega) hL dL_law_619 ?_
  refine x_aload_n G 0 dL_law_620 rfl rfl ?_
  refine x_iload G dL_law_621 rfl ?_
  refine x_iconst G (nI 2) dL_law_623 (by decide) ?_
  refine x_iadd G dL_law_624 ?_
  refine x_top (nI_add _ _) ?_
  refine x_sld G (fun _ _ h => h) hX hbl hbA (by omega) hL dL_law_625 ?_
  refine x_eq (ws2 := wH ad oa cI cZ cJ cL u ++ (wM am cI cZ cJ τ ++ [])) rfl rfl rfl rfl ?_
  refine x_callV2i G (wf := fun v => wH ad oa cI cZ cJ cL u ++ (wM am cI cZ cJ v ++ [])) (xCi.frame (L := wH ad oa cI cZ cJ cL u) (R := []) (ty2 := [(cL, .long)]) hM) 26 rfl rfl (cV G.2.2.2.2.1 wd_740 wd_741 wd_742 wd_55 wd_743 (by decide +kernel) ⟨(Nat.le_of_ble_eq_true rfl), (Nat.le_of_ble_eq_true rfl)⟩) dL_law_626 (Nat.le_of_ble_eq_true rfl) ⟨by show _ ≤ 670315; omega, by show _ ≤ 7085125; omega⟩ (fun r2 v hv => ?_)
  obtain ⟨hK, hGM⟩ := hv
  refine x_istore G dL_law_629 (by decide) ?_
  refine x_eq (vs2 := [.ref b, .ref (ad 0), .ref (am 0), .ref oa, .int (nI i), .int r1, .int r2]) rfl rfl rfl rfl ?_
  refine x_aload_n G 2 dL_law_631 rfl rfl ?_
  refine x_call0V0i G (xCi0.frame (L := wH ad oa cI cZ cJ cL u) (R := []) (ty2 := [(cL, .long)]) (cM_thrown (ad := am) (σ := v))) 26 rfl rfl (cV G.2.2.2.2.1 wd_644 wd_645 wd_646 wd_55 wd_647 (by decide +kernel) ⟨(Nat.le_of_ble_eq_true rfl), (Nat.le_of_ble_eq_true rfl)⟩) dL_law_632 (Nat.le_of_ble_eq_true rfl) ⟨by show _ ≤ 670315; omega, by show _ ≤ 7085125; omega⟩ (fun r3 e3 => ?_)
  subst e3
  refine x_iload G dL_law_635 rfl ?_
  refine x_icmp_eq G 642 dL_law_637 (by decide) (fun _ => ?_) (fun h => absurd (hK.trans hrK.symm) h)
  refine x_eq (ws2 := wL ad am oa cI cZ cJ cL u v) rfl rfl rfl rfl ?_
  refine x_iload G dL_law_642 rfl ?_
  obtain ⟨f1, f2⟩ := hrel u r2 v hGC hGM
  refine x_if_ne G 659 dL_law_644 (by decide) (fun _ => ?_) (fun h0 => ?_)
  · refine x_goto G 687 dL_law_659 (by decide) ?_
    exact k u v _ _ f2
  · have f0 := f1 (hrK.symm.trans h0)
    refine x_aload_n G 3 dL_law_647 rfl rfl ?_
    refine x_iconst G (nI 0) dL_law_648 (by decide) ?_
    refine x_lald G 25 3 rfl rfl (vp_in_nI (n := 0) (N := 1) (by decide) (by decide)) dL_law_649 ?_
    refine x_topl (z := (u 25 0).toInt64) (by rw [nI_clamp (by decide)]; rfl) ?_
    refine x_iload G dL_law_650 rfl ?_
    refine x_i2l G dL_law_652 ?_
    refine x_lcmp G dL_law_653 ?_
    refine x_if_eq G 659 dL_law_654 (by decide) (fun _ => ?_) (fun h => absurd (lgc_self (by rw [f0])) h)
    refine x_goto G 687 dL_law_659 (by decide) ?_
    exact k u v _ _ f2
set_option maxHeartbeats 4000000 in
set_option maxRecDepth 100000 in
theorem law_count (G : xG p s m args c code 7 "CranePlanLaw" (c0 :: bigW) nwW D vCl (tyL cI cZ cJ cL) A) (hTH : xTH s s.heap A) (htr : l.stackTraces = false) (hX : va_X b L xs s s.heap) (hbl : b < s.heap.size) (hbA : ¬ A b) (hL : L < 2 ^ 31) {i : Nat} (hi : i + 3 < L) (hcs : cells + 1 ≤ 670315 ∧ slots + 6 ≤ 7085125) {σ τ : xSg} (hR : REL σ τ) {v5 v6 : Value} (k : ∀ (u v : xSg) (w5 w6 : Value), REL u v → xJ p l e room_1 s m args below meth c (cells + 1) (slots + 6) Q D vCl A 7 (va_S A s.heap) (wL ad am oa cI cZ cJ cL u v) ([.ref b, .ref (ad 0), .ref (am 0), .ref oa, .int (nI i), w5, w6]) 687 ([])) : xJ p l e room_1 s m args below meth c (cells) (slots) Q D vCl A 7 (va_S A s.heap) (wL ad am oa cI cZ cJ cL σ τ) ([.ref b, .ref (ad 0), .ref (am 0), .ref oa, .int (nI i), v5, v6]) 662 ([]) := by
  obtain ⟨GC, GM, hC, hM, hrel⟩ := op_count (l := l) (D := D) (cI := cI) (cZ := cZ) (cJ := cJ) (cL := cL) (ad := ad) (am := am) (oa := oa) hR (t1 := xs (i + 1))
  refine x_widen (k := cells + 1) (n := slots + 6) (by omega) (by omega) ?_
  refine x_aload_n G 1 dL_law_662 rfl rfl ?_
  refine x_aload_n G 0 dL_law_663 rfl rfl ?_
  refine x_iload G dL_law_664 rfl ?_
  refine x_iconst G (nI 1) dL_law_666 (by decide) ?_
  refine x_iadd G dL_law_667 ?_
  refine x_top (nI_add _ _) ?_
  refine x_sld G (fun _ _ h => h) hX hbl hbA (by omega) hL dL_law_668 ?_
  refine x_eq (ws2 := [] ++ (wC ad cI cZ cJ σ ++ ([oE oa cL σ] ++ wM am cI cZ cJ τ))) rfl rfl rfl rfl ?_
  refine x_callV1i G (wf := fun u => [] ++ (wC ad cI cZ cJ u ++ ([oE oa cL σ] ++ wM am cI cZ cJ τ))) (xCi.frame (L := []) (R := [oE oa cL σ] ++ wM am cI cZ cJ τ) (ty2 := [(cL, .long)]) hC) 0 rfl rfl (cV G.2.2.2.2.1 wd_360 wd_361 wd_362 wd_48 wd_363 (by decide +kernel) ⟨(Nat.le_of_ble_eq_true rfl), (Nat.le_of_ble_eq_true rfl)⟩) dL_law_669 (Nat.le_of_ble_eq_true rfl) ⟨by show _ ≤ 670315; omega, by show _ ≤ 7085125; omega⟩ (fun r1 u hu => ?_)
  refine x_eq (ws2 := wL ad am oa cI cZ cJ cL (dw σ u) τ) dw_eq rfl rfl rfl ?_
  refine x_aload_n G 2 dL_law_672 rfl rfl ?_
  refine x_aload_n G 0 dL_law_673 rfl rfl ?_
  refine x_iload G dL_law_674 rfl ?_
  refine x_iconst G (nI 1) dL_law_676 (by decide) ?_
  refine x_iadd G dL_law_677 ?_
  refine x_top (nI_add _ _) ?_
  refine x_sld G (fun _ _ h => h) hX hbl hbA (by omega) hL dL_law_678 ?_
  refine x_eq (ws2 := wH ad oa cI cZ cJ cL (dw σ u) ++ (wM am cI cZ cJ τ ++ [])) rfl rfl rfl rfl ?_
  refine x_callV1i G (wf := fun v => wH ad oa cI cZ cJ cL (dw σ u) ++ (wM am cI cZ cJ v ++ [])) (xCi.frame (L := wH ad oa cI cZ cJ cL (dw σ u)) (R := []) (ty2 := [(cL, .long)]) hM) 26 rfl rfl (cV G.2.2.2.2.1 wd_744 wd_745 wd_746 wd_55 wd_747 (by decide +kernel) ⟨(Nat.le_of_ble_eq_true rfl), (Nat.le_of_ble_eq_true rfl)⟩) dL_law_679 (Nat.le_of_ble_eq_true rfl) ⟨by show _ ≤ 670315; omega, by show _ ≤ 7085125; omega⟩ (fun r2 v hv => ?_)
  obtain ⟨e1, e2⟩ := hrel r1 u r2 v hu hv
  refine x_eq (ws2 := wL ad am oa cI cZ cJ cL (dw σ u) v) rfl rfl rfl rfl ?_
  refine x_icmp_eq G 687 dL_law_682 (by decide) (fun _ => ?_) (fun h => absurd e1 h)
  exact k (dw σ u) v v5 v6 (e2.cl (fun q hq => if_neg (by omega)))
theorem law_head (G : xG p s m args c code 7 "CranePlanLaw" (c0 :: bigW) nwW D vCl (tyL cI cZ cJ cL) A) (hX : va_X b L xs s s.heap) (hbl : b < s.heap.size) (hbA : ¬ A b) (hL : L ≤ 2050) {i : Nat} (hi : i ≤ 3000) {ws : va_W} {v1 v2 v3 v5 v6 : Value} (h1 : L < i + 4 → xJ p l e room_1 s m args below meth c (cells) (slots) Q D vCl A 7 (va_S A s.heap) (ws) ([.ref b, v1, v2, v3, .int (nI i), v5, v6]) 693 ([])) (h2 : i + 4 ≤ L → xJ p l e room_1 s m args below meth c (cells) (slots) Q D vCl A 7 (va_S A s.heap) (ws) ([.ref b, v1, v2, v3, .int (nI i), v5, v6]) 52 ([])) : xJ p l e room_1 s m args below meth c (cells) (slots) Q D vCl A 7 (va_S A s.heap) (ws) ([.ref b, v1, v2, v3, .int (nI i), v5, v6]) 43 ([]) := by
  refine x_iload G dL_law_43 rfl ?_
  refine x_aload_n G 0 dL_law_45 rfl rfl ?_
  refine x_slen G (fun _ _ h => h) hX hbl hbA dL_law_46 ?_
  refine x_iconst G 4 dL_law_47 (by decide) ?_
  refine x_isub G dL_law_48 ?_
  refine x_icmp_gt G 693 dL_law_49 (by decide) (fun h => h1 ((sub4 hL hi).mp h)) (fun h => h2 ?_)
  rw [sub4 hL hi] at h
  omega
set_option maxHeartbeats 4000000 in
set_option maxRecDepth 100000 in
theorem law_loop (G : xG p s m args c code 7 "CranePlanLaw" (c0 :: bigW) nwW D vCl (tyL cI cZ cJ cL) A) (hTH : xTH s s.heap A) (htr : l.stackTraces = false) (hX : va_X b L xs s s.heap) (hbl : b < s.heap.size) (hbA : ¬ A b) (hL : L ≤ 2050) (hend : ∀ (cells slots : Nat) (ws : va_W) (vs : List Value), cells ≤ 670315 → slots ≤ 7085125 → xJ p l e room_1 s m args below meth c (cells) (slots) Q D vCl A 7 (va_S A s.heap) (ws) (vs) 694 ([.int 1])) : ∀ (n i : Nat), L + 4 ≤ i + n → ∀ (cells slots : Nat) (σ τ : xSg) (v5 v6 : Value), REL σ τ → i ≤ L + 4 → cells ≤ 50 + i → slots ≤ 400 + 6 * i → xJ p l e room_1 s m args below meth c (cells) (slots) Q D vCl A 7 (va_S A s.heap) (wL ad am oa cI cZ cJ cL σ τ) ([.ref b, .ref (ad 0), .ref (am 0), .ref oa, .int (nI i), v5, v6]) 43 ([]) := by
  intro n
  induction n with
  | zero =>
    intro i hn cells slots σ τ v5 v6 hR hi hc hs
    refine law_head G hX hbl hbA hL (by omega) (fun _ => ?_) (fun h => absurd h (by omega))
    refine x_iconst G 1 dL_law_693 (by decide) ?_
    exact hend cells slots _ _ (by omega) (by omega)
  | succ n ih =>
    intro i hn cells slots σ τ v5 v6 hR hi hc hs
    refine law_head G hX hbl hbA hL (by omega) (fun _ => ?_) (fun h => ?_)
    · refine x_iconst G 1 dL_law_693 (by decide) ?_
      exact hend cells slots _ _ (by omega) (by omega)
    · have k : ∀ (u v : xSg) (w5 w6 : Value), REL u v → xJ p l e room_1 s m args below meth c (cells + 1) (slots + 6) Q D vCl A 7 (va_S A s.heap) (wL ad am oa cI cZ cJ cL u v) ([.ref b, .ref (ad 0), .ref (am 0), .ref oa, .int (nI i), w5, w6]) 687 ([]) := by
        intro u v w5 w6 hr
        refine x_iinc G (nI (i + 4)) dL_law_687 rfl (nI_add i 4) (by decide) ?_
        refine x_goto G 43 dL_law_690 (by decide) ?_
        refine x_eq (vs2 := [.ref b, .ref (ad 0), .ref (am 0), .ref oa, .int (nI (i + 4)), w5, w6]) rfl rfl rfl rfl ?_
        exact ih (i + 4) (by omega) (cells + 1) (slots + 6) u v w5 w6 hr (by omega) (by omega) (by omega)
      have hL' : L < 2 ^ 31 := by omega
      have hcs : cells + 1 ≤ 670315 ∧ slots + 6 ≤ 7085125 := by omega
      refine x_aload_n G 0 dL_law_52 rfl rfl ?_
      refine x_iload G dL_law_53 rfl ?_
      refine x_sld G (fun _ _ h => h) hX hbl hbA (by omega) hL' dL_law_55 ?_
      refine x_bipush G 15 dL_law_56 (by decide) ?_
      refine x_iand G dL_law_58 ?_
      obtain ⟨j, hj, ej⟩ := pk_andE (xs i) (m := 15) 4 (by decide)
      refine x_top ej ?_
      rcases (show j = 0 ∨ j = 1 ∨ j = 2 ∨ j = 3 ∨ j = 4 ∨ j = 5 ∨ j = 6 ∨ j = 7 ∨ j = 8 ∨ j = 9 ∨ j = 10 ∨ 11 ≤ j by omega) with rfl | rfl | rfl | rfl | rfl | rfl | rfl | rfl | rfl | rfl | rfl | h11
      · refine x_tableIn G 116 dL_law_59 (by decide) (by decide) (off := 57) (by decide) (by decide) ?_
        exact law_bay G hTH htr hX hbl hbA hL' (by omega) hcs hR k
      · refine x_tableIn G 184 dL_law_59 (by decide) (by decide) (off := 125) (by decide) (by decide) ?_
        exact law_rate G hTH htr hX hbl hbA hL' (by omega) hcs hR k
      · refine x_tableIn G 271 dL_law_59 (by decide) (by decide) (off := 212) (by decide) (by decide) ?_
        exact law_step G hTH htr hX hbl hbA hL' (by omega) hcs hR k
      · refine x_tableIn G 296 dL_law_59 (by decide) (by decide) (off := 237) (by decide) (by decide) ?_
        exact law_plan G hTH htr hX hbl hbA hL' (by omega) hcs hR k
      · refine x_tableIn G 309 dL_law_59 (by decide) (by decide) (off := 250) (by decide) (by decide) ?_
        exact law_works G hTH htr hX hbl hbA hL' (by omega) hcs hR k
      · refine x_tableIn G 377 dL_law_59 (by decide) (by decide) (off := 318) (by decide) (by decide) ?_
        exact law_where G hTH htr hX hbl hbA hL' (by omega) hcs hR k
      · refine x_tableIn G 445 dL_law_59 (by decide) (by decide) (off := 386) (by decide) (by decide) ?_
        exact law_fails G hTH htr hX hbl hbA hL' (by omega) hcs hR k
      · refine x_tableIn G 513 dL_law_59 (by decide) (by decide) (off := 454) (by decide) (by decide) ?_
        exact law_bound G hTH htr hX hbl hbA hL' (by omega) hcs hR k
      · refine x_tableIn G 526 dL_law_59 (by decide) (by decide) (off := 467) (by decide) (by decide) ?_
        exact law_row G hTH htr hX hbl hbA hL' (by omega) hcs hR k
      · refine x_tableIn G 594 dL_law_59 (by decide) (by decide) (off := 535) (by decide) (by decide) ?_
        exact law_look G hTH htr hX hbl hbA hL' (by omega) hcs hR k
      · refine x_tableIn G 662 dL_law_59 (by decide) (by decide) (off := 603) (by decide) (by decide) ?_
        exact law_count G hTH htr hX hbl hbA hL' (by omega) hcs hR k
      · refine x_widen (k := cells + 1) (n := slots + 6) (by omega) (by omega) ?_
        refine x_tableOut G 687 dL_law_59 (Or.inr (by rw [nI_toInt (by omega)]; omega)) (by decide) ?_
        exact k σ τ v5 v6 hR
end LW
