/-! THE WORLDS. Class: places 0 CranePlan, 1 Bays, 2 Cranes, 3 Timetable, 4 Search, then arrays (5 hatch, 6 work, 7 moves, 8 minutes, 9 out, 10 craneOf, 11 begin, 12 end, 13 first, 14 last, 15 came, 16..19 its rows, 20 bayOfRow, 21 busy, 22 able, 23 choice, 24 best). Reference: 0 the object, 1 hatch, 2 work, 3 moves, 4 minutes, 5 out, 6 tried, 7 best, 8 come, 9 first, 10 last. -/
def bI (P : Prop) [Decidable P] : Int32 := if P then 1 else 0
theorem bI_t {P : Prop} [Decidable P] (h : P) : bI P = 1 := if_pos h
theorem bI_f {P : Prop} [Decidable P] (h : ¬ P) : bI P = 0 := if_neg h
theorem bI_eq0 {P : Prop} [Decidable P] : bI P = 0 ↔ ¬ P := by
  by_cases h : P
  · rw [bI_t h]; exact ⟨fun q => absurd q (by decide), fun q => absurd h q⟩
  · rw [bI_f h]; exact ⟨fun _ => h, fun _ => rfl⟩
theorem bI_ne0 {P : Prop} [Decidable P] : ¬ bI P = 0 ↔ P := by rw [bI_eq0]; exact Decidable.not_not
theorem bI_nar {P : Prop} [Decidable P] : narrow .boolean (.int (bI P)) = .int (bI P) := by
  by_cases h : P
  · rw [bI_t h]; rfl
  · rw [bI_f h]; rfl
theorem bI_congr {P Q : Prop} [Decidable P] [Decidable Q] (h : P ↔ Q) : bI P = bI Q := by
  by_cases q : Q
  · rw [bI_t q, bI_t (h.mpr q)]
  · rw [bI_f q, bI_f (fun z => q (h.mp z))]
abbrev tyC (cI cZ cJ : ClassId) : List (ClassId × FieldType) := [(cI, .int), (cZ, .boolean), (cJ, .array .int)]
def wC (ad : Nat → Nat) (cI cZ cJ : ClassId) (σ : xSg) : va_W := [(ad 0, .inr (4, [.ref (ad 1), .ref (ad 2), .ref (ad 3), .ref (ad 4), .int (σ 0 4)])),
  (ad 1, .inr (0, [.ref (ad 5), .ref (ad 6), .int (σ 1 2)])),
  (ad 2, .inr (1, [.int (σ 2 0), .int (σ 2 1), .ref (ad 7), .ref (ad 8), .ref (ad 9), .int (σ 2 5)])),
  (ad 3, .inr (3, [.ref (ad 1), .ref (ad 2), .ref (ad 10), .ref (ad 11), .ref (ad 12), .ref (ad 13), .ref (ad 14), .ref (ad 15), .ref (ad 20), .int (σ 3 9), .int (σ 3 10), .int (σ 3 11)])),
  (ad 4, .inr (2, [.ref (ad 1), .ref (ad 2), .ref (ad 3), .ref (ad 21), .ref (ad 22), .ref (ad 23), .ref (ad 24), .int (σ 4 7), .int (σ 4 8)])),
  (ad 5, .inl (cI, 8, .inl (σ 5))),
  (ad 6, .inl (cI, 8, .inl (σ 6))),
  (ad 7, .inl (cI, 4, .inl (σ 7))),
  (ad 8, .inl (cI, 4, .inl (σ 8))),
  (ad 9, .inl (cZ, 4, .inl (σ 9))),
  (ad 10, .inl (cI, 8, .inl (σ 10))),
  (ad 11, .inl (cI, 8, .inl (σ 11))),
  (ad 12, .inl (cI, 8, .inl (σ 12))),
  (ad 13, .inl (cI, 4, .inl (σ 13))),
  (ad 14, .inl (cI, 4, .inl (σ 14))),
  (ad 15, .inl (cJ, 4, .inr (.inr (.inr (.inr (fun j => if j < 4 then some (ad (16 + j)) else none)))))),
  (ad 16, .inl (cI, 8, .inl (σ 16))),
  (ad 17, .inl (cI, 8, .inl (σ 17))),
  (ad 18, .inl (cI, 8, .inl (σ 18))),
  (ad 19, .inl (cI, 8, .inl (σ 19))),
  (ad 20, .inl (cI, 8, .inl (σ 20))),
  (ad 21, .inl (cI, 8, .inl (σ 21))),
  (ad 22, .inl (cI, 4, .inl (σ 22))),
  (ad 23, .inl (cI, 8, .inl (σ 23))),
  (ad 24, .inl (cI, 8, .inl (σ 24)))]
def wM (ad : Nat → Nat) (cI cZ cJ : ClassId) (σ : xSg) : va_W := [(ad 0, .inr (5, [.int (σ 0 0), .int (σ 0 1), .int (σ 0 2), .int (σ 0 3), .ref (ad 1), .ref (ad 2), .ref (ad 3), .ref (ad 4), .ref (ad 5), .int (σ 0 9), .int (σ 0 10), .ref (ad 6), .ref (ad 7), .ref (ad 8), .ref (ad 9), .ref (ad 10)])),
  (ad 1, .inl (cI, 8, .inl (σ 1))),
  (ad 2, .inl (cI, 8, .inl (σ 2))),
  (ad 3, .inl (cI, 4, .inl (σ 3))),
  (ad 4, .inl (cI, 4, .inl (σ 4))),
  (ad 5, .inl (cZ, 4, .inl (σ 5))),
  (ad 6, .inl (cI, 8, .inl (σ 6))),
  (ad 7, .inl (cI, 8, .inl (σ 7))),
  (ad 8, .inl (cI, 32, .inl (σ 8))),
  (ad 9, .inl (cI, 4, .inl (σ 9))),
  (ad 10, .inl (cI, 4, .inl (σ 10)))]
section WS
variable {ad : Nat → Nat} {cI cZ cJ : ClassId} {σ : xSg} {v : Int32} {i : Nat}
theorem sst_ne {q i a : Nat} {v : Int32} (h : a ≠ q) : sst σ q i v a = σ a := funext fun _ => sst_q h
theorem sst_up {q i : Nat} {v : Int32} : sst σ q i v q = upd (σ q) i v := by
  funext j
  by_cases h : j = i
  · subst h; rw [sst_same]; simp [upd]
  · rw [sst_i h]; simp [upd, h]
theorem wput_0_4 : (wC ad cI cZ cJ σ).set 0 (ad 0, .inr (4, ([.ref (ad 1), .ref (ad 2), .ref (ad 3), .ref (ad 4), .int (σ 0 4)] : List Value).set 4 (.int v))) = wC ad cI cZ cJ (sst σ 0 4 v) := by rfl
theorem wput_1_2 : (wC ad cI cZ cJ σ).set 1 (ad 1, .inr (0, ([.ref (ad 5), .ref (ad 6), .int (σ 1 2)] : List Value).set 2 (.int v))) = wC ad cI cZ cJ (sst σ 1 2 v) := by rfl
theorem wput_2_0 : (wC ad cI cZ cJ σ).set 2 (ad 2, .inr (1, ([.int (σ 2 0), .int (σ 2 1), .ref (ad 7), .ref (ad 8), .ref (ad 9), .int (σ 2 5)] : List Value).set 0 (.int v))) = wC ad cI cZ cJ (sst σ 2 0 v) := by rfl
theorem wput_2_1 : (wC ad cI cZ cJ σ).set 2 (ad 2, .inr (1, ([.int (σ 2 0), .int (σ 2 1), .ref (ad 7), .ref (ad 8), .ref (ad 9), .int (σ 2 5)] : List Value).set 1 (.int v))) = wC ad cI cZ cJ (sst σ 2 1 v) := by rfl
theorem wput_2_5 : (wC ad cI cZ cJ σ).set 2 (ad 2, .inr (1, ([.int (σ 2 0), .int (σ 2 1), .ref (ad 7), .ref (ad 8), .ref (ad 9), .int (σ 2 5)] : List Value).set 5 (.int v))) = wC ad cI cZ cJ (sst σ 2 5 v) := by rfl
theorem wput_3_9 : (wC ad cI cZ cJ σ).set 3 (ad 3, .inr (3, ([.ref (ad 1), .ref (ad 2), .ref (ad 10), .ref (ad 11), .ref (ad 12), .ref (ad 13), .ref (ad 14), .ref (ad 15), .ref (ad 20), .int (σ 3 9), .int (σ 3 10), .int (σ 3 11)] : List Value).set 9 (.int v))) = wC ad cI cZ cJ (sst σ 3 9 v) := by rfl
theorem wput_3_10 : (wC ad cI cZ cJ σ).set 3 (ad 3, .inr (3, ([.ref (ad 1), .ref (ad 2), .ref (ad 10), .ref (ad 11), .ref (ad 12), .ref (ad 13), .ref (ad 14), .ref (ad 15), .ref (ad 20), .int (σ 3 9), .int (σ 3 10), .int (σ 3 11)] : List Value).set 10 (.int v))) = wC ad cI cZ cJ (sst σ 3 10 v) := by rfl
theorem wput_3_11 : (wC ad cI cZ cJ σ).set 3 (ad 3, .inr (3, ([.ref (ad 1), .ref (ad 2), .ref (ad 10), .ref (ad 11), .ref (ad 12), .ref (ad 13), .ref (ad 14), .ref (ad 15), .ref (ad 20), .int (σ 3 9), .int (σ 3 10), .int (σ 3 11)] : List Value).set 11 (.int v))) = wC ad cI cZ cJ (sst σ 3 11 v) := by rfl
theorem wput_4_7 : (wC ad cI cZ cJ σ).set 4 (ad 4, .inr (2, ([.ref (ad 1), .ref (ad 2), .ref (ad 3), .ref (ad 21), .ref (ad 22), .ref (ad 23), .ref (ad 24), .int (σ 4 7), .int (σ 4 8)] : List Value).set 7 (.int v))) = wC ad cI cZ cJ (sst σ 4 7 v) := by rfl
theorem wput_4_8 : (wC ad cI cZ cJ σ).set 4 (ad 4, .inr (2, ([.ref (ad 1), .ref (ad 2), .ref (ad 3), .ref (ad 21), .ref (ad 22), .ref (ad 23), .ref (ad 24), .int (σ 4 7), .int (σ 4 8)] : List Value).set 8 (.int v))) = wC ad cI cZ cJ (sst σ 4 8 v) := by rfl
theorem warr_5 : (wC ad cI cZ cJ σ).set 5 (ad 5, .inl (cI, 8, .inl (upd (σ 5) i v))) = wC ad cI cZ cJ (sst σ 5 i v) := by rw [← sst_up]; rfl
theorem warr_6 : (wC ad cI cZ cJ σ).set 6 (ad 6, .inl (cI, 8, .inl (upd (σ 6) i v))) = wC ad cI cZ cJ (sst σ 6 i v) := by rw [← sst_up]; rfl
theorem warr_7 : (wC ad cI cZ cJ σ).set 7 (ad 7, .inl (cI, 4, .inl (upd (σ 7) i v))) = wC ad cI cZ cJ (sst σ 7 i v) := by rw [← sst_up]; rfl
theorem warr_8 : (wC ad cI cZ cJ σ).set 8 (ad 8, .inl (cI, 4, .inl (upd (σ 8) i v))) = wC ad cI cZ cJ (sst σ 8 i v) := by rw [← sst_up]; rfl
theorem warr_9 : (wC ad cI cZ cJ σ).set 9 (ad 9, .inl (cZ, 4, .inl (upd (σ 9) i v))) = wC ad cI cZ cJ (sst σ 9 i v) := by rw [← sst_up]; rfl
theorem warr_10 : (wC ad cI cZ cJ σ).set 10 (ad 10, .inl (cI, 8, .inl (upd (σ 10) i v))) = wC ad cI cZ cJ (sst σ 10 i v) := by rw [← sst_up]; rfl
theorem warr_11 : (wC ad cI cZ cJ σ).set 11 (ad 11, .inl (cI, 8, .inl (upd (σ 11) i v))) = wC ad cI cZ cJ (sst σ 11 i v) := by rw [← sst_up]; rfl
theorem warr_12 : (wC ad cI cZ cJ σ).set 12 (ad 12, .inl (cI, 8, .inl (upd (σ 12) i v))) = wC ad cI cZ cJ (sst σ 12 i v) := by rw [← sst_up]; rfl
theorem warr_13 : (wC ad cI cZ cJ σ).set 13 (ad 13, .inl (cI, 4, .inl (upd (σ 13) i v))) = wC ad cI cZ cJ (sst σ 13 i v) := by rw [← sst_up]; rfl
theorem warr_14 : (wC ad cI cZ cJ σ).set 14 (ad 14, .inl (cI, 4, .inl (upd (σ 14) i v))) = wC ad cI cZ cJ (sst σ 14 i v) := by rw [← sst_up]; rfl
theorem warr_16 : (wC ad cI cZ cJ σ).set 16 (ad 16, .inl (cI, 8, .inl (upd (σ 16) i v))) = wC ad cI cZ cJ (sst σ 16 i v) := by rw [← sst_up]; rfl
theorem warr_17 : (wC ad cI cZ cJ σ).set 17 (ad 17, .inl (cI, 8, .inl (upd (σ 17) i v))) = wC ad cI cZ cJ (sst σ 17 i v) := by rw [← sst_up]; rfl
theorem warr_18 : (wC ad cI cZ cJ σ).set 18 (ad 18, .inl (cI, 8, .inl (upd (σ 18) i v))) = wC ad cI cZ cJ (sst σ 18 i v) := by rw [← sst_up]; rfl
theorem warr_19 : (wC ad cI cZ cJ σ).set 19 (ad 19, .inl (cI, 8, .inl (upd (σ 19) i v))) = wC ad cI cZ cJ (sst σ 19 i v) := by rw [← sst_up]; rfl
theorem warr_20 : (wC ad cI cZ cJ σ).set 20 (ad 20, .inl (cI, 8, .inl (upd (σ 20) i v))) = wC ad cI cZ cJ (sst σ 20 i v) := by rw [← sst_up]; rfl
theorem warr_21 : (wC ad cI cZ cJ σ).set 21 (ad 21, .inl (cI, 8, .inl (upd (σ 21) i v))) = wC ad cI cZ cJ (sst σ 21 i v) := by rw [← sst_up]; rfl
theorem warr_22 : (wC ad cI cZ cJ σ).set 22 (ad 22, .inl (cI, 4, .inl (upd (σ 22) i v))) = wC ad cI cZ cJ (sst σ 22 i v) := by rw [← sst_up]; rfl
theorem warr_23 : (wC ad cI cZ cJ σ).set 23 (ad 23, .inl (cI, 8, .inl (upd (σ 23) i v))) = wC ad cI cZ cJ (sst σ 23 i v) := by rw [← sst_up]; rfl
theorem warr_24 : (wC ad cI cZ cJ σ).set 24 (ad 24, .inl (cI, 8, .inl (upd (σ 24) i v))) = wC ad cI cZ cJ (sst σ 24 i v) := by rw [← sst_up]; rfl
theorem mput_0_0 : (wM ad cI cZ cJ σ).set 0 (ad 0, .inr (5, ([.int (σ 0 0), .int (σ 0 1), .int (σ 0 2), .int (σ 0 3), .ref (ad 1), .ref (ad 2), .ref (ad 3), .ref (ad 4), .ref (ad 5), .int (σ 0 9), .int (σ 0 10), .ref (ad 6), .ref (ad 7), .ref (ad 8), .ref (ad 9), .ref (ad 10)] : List Value).set 0 (.int v))) = wM ad cI cZ cJ (sst σ 0 0 v) := by rfl
theorem mput_0_1 : (wM ad cI cZ cJ σ).set 0 (ad 0, .inr (5, ([.int (σ 0 0), .int (σ 0 1), .int (σ 0 2), .int (σ 0 3), .ref (ad 1), .ref (ad 2), .ref (ad 3), .ref (ad 4), .ref (ad 5), .int (σ 0 9), .int (σ 0 10), .ref (ad 6), .ref (ad 7), .ref (ad 8), .ref (ad 9), .ref (ad 10)] : List Value).set 1 (.int v))) = wM ad cI cZ cJ (sst σ 0 1 v) := by rfl
theorem mput_0_2 : (wM ad cI cZ cJ σ).set 0 (ad 0, .inr (5, ([.int (σ 0 0), .int (σ 0 1), .int (σ 0 2), .int (σ 0 3), .ref (ad 1), .ref (ad 2), .ref (ad 3), .ref (ad 4), .ref (ad 5), .int (σ 0 9), .int (σ 0 10), .ref (ad 6), .ref (ad 7), .ref (ad 8), .ref (ad 9), .ref (ad 10)] : List Value).set 2 (.int v))) = wM ad cI cZ cJ (sst σ 0 2 v) := by rfl
theorem mput_0_3 : (wM ad cI cZ cJ σ).set 0 (ad 0, .inr (5, ([.int (σ 0 0), .int (σ 0 1), .int (σ 0 2), .int (σ 0 3), .ref (ad 1), .ref (ad 2), .ref (ad 3), .ref (ad 4), .ref (ad 5), .int (σ 0 9), .int (σ 0 10), .ref (ad 6), .ref (ad 7), .ref (ad 8), .ref (ad 9), .ref (ad 10)] : List Value).set 3 (.int v))) = wM ad cI cZ cJ (sst σ 0 3 v) := by rfl
theorem mput_0_9 : (wM ad cI cZ cJ σ).set 0 (ad 0, .inr (5, ([.int (σ 0 0), .int (σ 0 1), .int (σ 0 2), .int (σ 0 3), .ref (ad 1), .ref (ad 2), .ref (ad 3), .ref (ad 4), .ref (ad 5), .int (σ 0 9), .int (σ 0 10), .ref (ad 6), .ref (ad 7), .ref (ad 8), .ref (ad 9), .ref (ad 10)] : List Value).set 9 (.int v))) = wM ad cI cZ cJ (sst σ 0 9 v) := by rfl
theorem mput_0_10 : (wM ad cI cZ cJ σ).set 0 (ad 0, .inr (5, ([.int (σ 0 0), .int (σ 0 1), .int (σ 0 2), .int (σ 0 3), .ref (ad 1), .ref (ad 2), .ref (ad 3), .ref (ad 4), .ref (ad 5), .int (σ 0 9), .int (σ 0 10), .ref (ad 6), .ref (ad 7), .ref (ad 8), .ref (ad 9), .ref (ad 10)] : List Value).set 10 (.int v))) = wM ad cI cZ cJ (sst σ 0 10 v) := by rfl
theorem marr_1 : (wM ad cI cZ cJ σ).set 1 (ad 1, .inl (cI, 8, .inl (upd (σ 1) i v))) = wM ad cI cZ cJ (sst σ 1 i v) := by rw [← sst_up]; rfl
theorem marr_2 : (wM ad cI cZ cJ σ).set 2 (ad 2, .inl (cI, 8, .inl (upd (σ 2) i v))) = wM ad cI cZ cJ (sst σ 2 i v) := by rw [← sst_up]; rfl
theorem marr_3 : (wM ad cI cZ cJ σ).set 3 (ad 3, .inl (cI, 4, .inl (upd (σ 3) i v))) = wM ad cI cZ cJ (sst σ 3 i v) := by rw [← sst_up]; rfl
theorem marr_4 : (wM ad cI cZ cJ σ).set 4 (ad 4, .inl (cI, 4, .inl (upd (σ 4) i v))) = wM ad cI cZ cJ (sst σ 4 i v) := by rw [← sst_up]; rfl
theorem marr_5 : (wM ad cI cZ cJ σ).set 5 (ad 5, .inl (cZ, 4, .inl (upd (σ 5) i v))) = wM ad cI cZ cJ (sst σ 5 i v) := by rw [← sst_up]; rfl
theorem marr_6 : (wM ad cI cZ cJ σ).set 6 (ad 6, .inl (cI, 8, .inl (upd (σ 6) i v))) = wM ad cI cZ cJ (sst σ 6 i v) := by rw [← sst_up]; rfl
theorem marr_7 : (wM ad cI cZ cJ σ).set 7 (ad 7, .inl (cI, 8, .inl (upd (σ 7) i v))) = wM ad cI cZ cJ (sst σ 7 i v) := by rw [← sst_up]; rfl
theorem marr_8 : (wM ad cI cZ cJ σ).set 8 (ad 8, .inl (cI, 32, .inl (upd (σ 8) i v))) = wM ad cI cZ cJ (sst σ 8 i v) := by rw [← sst_up]; rfl
theorem marr_9 : (wM ad cI cZ cJ σ).set 9 (ad 9, .inl (cI, 4, .inl (upd (σ 9) i v))) = wM ad cI cZ cJ (sst σ 9 i v) := by rw [← sst_up]; rfl
theorem marr_10 : (wM ad cI cZ cJ σ).set 10 (ad 10, .inl (cI, 4, .inl (upd (σ 10) i v))) = wM ad cI cZ cJ (sst σ 10 i v) := by rw [← sst_up]; rfl
end WS
section XN
variable {p : Program} {l : Launch} {e : Env} {R : Room} {s : State} {m : MethodId} {args : Array Value} {below : List Frame} {meth : Method} {c : Code} {cells slots : Nat} {Q : State → Prop} {D : va_G} {cl : List vw_C} {A : Nat → Prop} {nL : Nat} {S : Heap → List Loc → Prop} {ws : va_W} {vs : List Value} {pc : Nat} {st : List Value} {cc : ByteArray} {own : String} {Ts NW : List Cond} {tys : List (ClassId × FieldType)}
theorem x_ialdN (G : xG p s m args c cc nL own Ts NW D cl tys A) {a : Nat} (q0 t0 : Nat) {cA : ClassId} {n : Nat} {f : Nat → Int32} (ha : ws[q0]? = some (a, .inl (cA, n, .inl f))) (ht : tys[t0]? = some (cA, .int)) {j : Nat} (hj : j < n) (hn : n < 2 ^ 31) (d : decode cc pc = .ok (.iaload, 1)) (k : xJ p l e R s m args below meth c cells slots Q D cl A nL (S) (ws) (vs) (pc + 1) (.int (f j) :: st)) : xJ p l e R s m args below meth c cells slots Q D cl A nL (S) (ws) (vs) (pc) (.int (nI j) :: .ref a :: st) := by
  refine x_iald G q0 t0 ha ht (vp_in_nI hj hn) d ?_
  rw [nI_clamp (by omega)]
  exact k
theorem x_zaldN (G : xG p s m args c cc nL own Ts NW D cl tys A) {a : Nat} (q0 t0 : Nat) {cA : ClassId} {n : Nat} {f : Nat → Int32} (ha : ws[q0]? = some (a, .inl (cA, n, .inl f))) (ht : tys[t0]? = some (cA, .boolean)) {j : Nat} (hj : j < n) (hn : n < 2 ^ 31) (d : decode cc pc = .ok (.baload, 1)) (k : xJ p l e R s m args below meth c cells slots Q D cl A nL (S) (ws) (vs) (pc + 1) (.int (f j) :: st)) : xJ p l e R s m args below meth c cells slots Q D cl A nL (S) (ws) (vs) (pc) (.int (nI j) :: .ref a :: st) := by
  refine x_zald G q0 t0 ha ht (vp_in_nI hj hn) d ?_
  rw [nI_clamp (by omega)]
  exact k
theorem x_iastN (G : xG p s m args c cc nL own Ts NW D cl tys A) {a : Nat} (q0 t0 : Nat) {cA : ClassId} {n : Nat} {f : Nat → Int32} {ws' : va_W} {x : Int32} {j : Nat} (ha : ws[q0]? = some (a, .inl (cA, n, .inl f))) (ht : tys[t0]? = some (cA, .int)) (hw : ws.set q0 (a, .inl (cA, n, .inl (upd f j x))) = ws') (hj : j < n) (hn : n < 2 ^ 31) (d : decode cc pc = .ok (.iastore, 1)) (k : xJ p l e R s m args below meth c cells slots Q D cl A nL (va_S A s.heap) (ws') (vs) (pc + 1) (st)) : xJ p l e R s m args below meth c cells slots Q D cl A nL (va_S A s.heap) (ws) (vs) (pc) (.int x :: .int (nI j) :: .ref a :: st) := x_iast G q0 t0 ha ht (by rw [nI_clamp (by omega)]; exact hw) (vp_in_nI hj hn) d k
theorem x_zastN (G : xG p s m args c cc nL own Ts NW D cl tys A) {a : Nat} (q0 t0 : Nat) {cA : ClassId} {n : Nat} {f : Nat → Int32} {ws' : va_W} {x : Int32} {j : Nat} (ha : ws[q0]? = some (a, .inl (cA, n, .inl f))) (ht : tys[t0]? = some (cA, .boolean)) (hx : vp_nar .boolean x = x) (hw : ws.set q0 (a, .inl (cA, n, .inl (upd f j x))) = ws') (hj : j < n) (hn : n < 2 ^ 31) (d : decode cc pc = .ok (.bastore, 1)) (k : xJ p l e R s m args below meth c cells slots Q D cl A nL (va_S A s.heap) (ws') (vs) (pc + 1) (st)) : xJ p l e R s m args below meth c cells slots Q D cl A nL (va_S A s.heap) (ws) (vs) (pc) (.int x :: .int (nI j) :: .ref a :: st) := x_zast G q0 t0 ha ht hx (by rw [nI_clamp (by omega)]; exact hw) (vp_in_nI hj hn) d k
end XN
/-! the words of a call -/
section CW
variable {R : Room} {s : State} {args : Array Value} {own C host : String} {idx n d N : Nat} {y : MethodName} {b : ByteArray} {ret : Option FieldType} {c0 : Cond}
theorem good_cons (h5 : Cond.code y b n ret ∈ bigW) : GoodIn (c0 :: bigW) (Cond.code y b n ret :: bigW) := fun w hw => by
  have h : w ∈ bigW := by
    rcases List.mem_cons.mp hw with rfl | h
    · exact h5
    · exact h
  exact ⟨List.mem_cons_of_mem _ h, bigW_good h⟩
theorem good_app {a : List Cond} (ha : ∀ w ∈ a, w ∈ bigW) (h5 : Cond.code y b n ret ∈ bigW) : GoodIn (c0 :: bigW) (a ++ (Cond.code y b n ret :: bigW)) := fun w hw => by
  rcases List.mem_append.mp hw with h | h
  · exact ⟨List.mem_cons_of_mem _ (ha w h), bigW_good (ha w h)⟩
  · exact good_cons h5 w h
theorem cV (hts : ∀ w ∈ (c0 :: bigW), w.before args s = true) (h1 : Cond.methodLink own idx y ∈ bigW) (h2 : Cond.instanceMethod y ∈ bigW) (h3 : Cond.selects C y y ∈ bigW) (h4 : Cond.initialized C ∈ bigW) (h5 : Cond.code y b n ret ∈ bigW)
    (hd : y.cls = C ∧ y.cls ≠ "java/lang/invoke/MethodHandle" ∧ y.cls ≠ "java/lang/invoke/VarHandle" ∧ (parseMethodDescriptor y.desc).map (fun d => d.parameters.length) = some N) (hR : d + 1 ≤ R.frames ∧ 8 + (n + 11) + 40 * d ≤ R.locals) :
    CallW R s args own C idx y b n ret (Cond.code y b n ret :: bigW) { frames := d, cells := 0, slots := 0, locals := 40 * d } 0 0 N :=
  cwV N hts (by unfold wsV; exact good_app (fun w hw => by simp only [List.mem_cons, List.not_mem_nil, or_false] at hw; rcases hw with rfl | rfl | rfl | rfl <;> assumption) h5) rfl rfl rfl hd hR
theorem cS (hts : ∀ w ∈ (c0 :: bigW), w.before args s = true) (h1 : Cond.methodLink own idx y ∈ bigW) (h2 : Cond.static y ∈ bigW) (h4 : Cond.initialized own ∈ bigW) (h5 : Cond.code y b n ret ∈ bigW)
    (hd : y.cls = own ∧ y.cls ≠ "java/lang/invoke/MethodHandle" ∧ y.cls ≠ "java/lang/invoke/VarHandle" ∧ (parseMethodDescriptor y.desc).map (fun d => d.parameters.length) = some N) (hR : d + 1 ≤ R.frames ∧ 8 + (n + 11) + 40 * d ≤ R.locals) :
    CallB R s args own idx y b n ret (Cond.code y b n ret :: bigW) { frames := d, cells := 0, slots := 0, locals := 40 * d } 0 0 N ∧ (Cond.static y).before args s = true :=
  cwS N hts (by unfold wsS; exact good_app (fun w hw => by simp only [List.mem_cons, List.not_mem_nil, or_false] at hw; rcases hw with rfl | rfl | rfl <;> assumption) h5) rfl rfl rfl hd hR
theorem cSo (hts : ∀ w ∈ (c0 :: bigW), w.before args s = true) (h1 : Cond.methodLink own idx y ∈ bigW) (h2 : Cond.static y ∈ bigW) (h4 : Cond.initialized y.cls ∈ bigW) (h5 : Cond.code y b n ret ∈ bigW)
    (hd : y.cls ≠ "java/lang/invoke/MethodHandle" ∧ y.cls ≠ "java/lang/invoke/VarHandle" ∧ (parseMethodDescriptor y.desc).map (fun d => d.parameters.length) = some N) (hR : d + 1 ≤ R.frames ∧ 8 + (n + 11) + 40 * d ≤ R.locals) :
    CallB R s args own idx y b n ret (Cond.code y b n ret :: bigW) { frames := d, cells := 0, slots := 0, locals := 40 * d } 0 0 N ∧ (Cond.static y).before args s = true :=
  va_cwS N hts (by unfold va_wsS; exact good_app (fun w hw => by simp only [List.mem_cons, List.not_mem_nil, or_false] at hw; rcases hw with rfl | rfl | rfl <;> assumption) h5) rfl rfl rfl hd hR
theorem cVN (hts : ∀ w ∈ (c0 :: bigW), w.before args s = true) (hN : ∀ c ∈ nwW, isNest c = true ∧ va_Nw c s) (h1 : Cond.methodLinkNest own idx y host ∈ nwW) (h2 : Cond.instanceMethod y ∈ bigW) (h3 : Cond.selects C y y ∈ bigW) (h4 : Cond.initialized y.cls ∈ bigW) (h5 : Cond.code y b n ret ∈ bigW)
    (hd : y.cls ≠ "java/lang/invoke/MethodHandle" ∧ y.cls ≠ "java/lang/invoke/VarHandle" ∧ (parseMethodDescriptor y.desc).map (fun d => d.parameters.length) = some N) (hR : d + 1 ≤ R.frames ∧ 8 + (n + 11) + 40 * d ≤ R.locals) :
    va_CN R s args own idx y host b n ret (Cond.code y b n ret :: bigW) { frames := d, cells := 0, slots := 0, locals := 40 * d } 0 0 N ∧ (Cond.instanceMethod y).before args s = true ∧ (Cond.selects C y y).before args s = true :=
  ⟨va_cnB N hts (good_cons h5) rfl rfl rfl (hN _ h1).2 (hts _ (List.mem_cons_of_mem _ h4)) hd hR, hts _ (List.mem_cons_of_mem _ h2), hts _ (List.mem_cons_of_mem _ h3)⟩
theorem cSN (hts : ∀ w ∈ (c0 :: bigW), w.before args s = true) (hN : ∀ c ∈ nwW, isNest c = true ∧ va_Nw c s) (h1 : Cond.methodLinkNest own idx y host ∈ nwW) (h2 : Cond.static y ∈ bigW) (h4 : Cond.initialized y.cls ∈ bigW) (h5 : Cond.code y b n ret ∈ bigW)
    (hd : y.cls ≠ "java/lang/invoke/MethodHandle" ∧ y.cls ≠ "java/lang/invoke/VarHandle" ∧ (parseMethodDescriptor y.desc).map (fun d => d.parameters.length) = some N) (hR : d + 1 ≤ R.frames ∧ 8 + (n + 11) + 40 * d ≤ R.locals) :
    va_CN R s args own idx y host b n ret (Cond.code y b n ret :: bigW) { frames := d, cells := 0, slots := 0, locals := 40 * d } 0 0 N ∧ (Cond.static y).before args s = true ∧ True :=
  ⟨va_cnB N hts (good_cons h5) rfl rfl rfl (hN _ h1).2 (hts _ (List.mem_cons_of_mem _ h4)) hd hR, hts _ (List.mem_cons_of_mem _ h2), trivial⟩
end CW
section MN
variable {l : Launch} {D : va_G} {cl : List vw_C} {tys : List (ClassId × FieldType)} {NW : List Cond} {ws : va_W} {y : MethodName} {Ts : List Cond} {d : Nat} {as : List Value}
theorem xCi0.mono {post post' : Int32 → Prop} (h : xCi0 l D cl tys NW ws y Ts d as post) (hp : ∀ r, post r → post' r) : xCi0 l D cl tys NW ws y Ts d as post' := by
  intro p e ha hc hk s m args below hf happ hP hK
  obtain ⟨n, o, h1, h2, h3, ⟨r, q1, q2, q3⟩, h5⟩ := h p e ha hc hk s m args below hf happ hP hK
  exact ⟨n, o, h1, h2, h3, ⟨r, q1, hp r q2, q3⟩, h5⟩
theorem xCi.mono {wf : xSg → va_W} {σ : xSg} {post post' : Int32 → xSg → Prop} (h : xCi l D cl tys NW wf y Ts d as σ post) (hp : ∀ r u, post r u → post' r u) : xCi l D cl tys NW wf y Ts d as σ post' := by
  intro sz p e ha hc hk s m args below hf happ hP hK
  obtain ⟨n, o, h1, h2, h3, ⟨⟨r, u, q1, q2, q3⟩, q4⟩, h5⟩ := h sz p e ha hc hk s m args below hf happ hP hK
  exact ⟨n, o, h1, h2, h3, ⟨⟨r, u, q1, hp r u q2, q3⟩, q4⟩, h5⟩
theorem xCv.mono {wf : xSg → va_W} {σ : xSg} {post post' : xSg → Prop} (h : xCv l D cl tys NW wf y Ts d as σ post) (hp : ∀ u, post u → post' u) : xCv l D cl tys NW wf y Ts d as σ post' := by
  intro sz p e ha hc hk s m args below hf happ hP hK
  obtain ⟨n, o, h1, h2, h3, ⟨⟨u, q1, q2, q3⟩, q4⟩, h5⟩ := h sz p e ha hc hk s m args below hf happ hP hK
  exact ⟨n, o, h1, h2, h3, ⟨⟨u, q1, hp u q2, q3⟩, q4⟩, h5⟩
end MN
