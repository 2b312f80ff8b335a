/-! Arrays.fill over int[], rows of the grid, Timetable (first part) -/
def yJ_fill : MethodName := ⟨"java/util/Arrays", "fill", "([II)V"⟩
abbrev bJ_fill : ByteArray := prog_18_method_103_code
theorem dJ_fill_0 : decode bJ_fill 0 = .ok (.iconst 0, 1) := by decide +kernel
theorem dJ_fill_1 : decode bJ_fill 1 = .ok (.istore_n 2, 1) := by decide +kernel
theorem dJ_fill_2 : decode bJ_fill 2 = .ok (.aload_n 0, 1) := by decide +kernel
theorem dJ_fill_3 : decode bJ_fill 3 = .ok (.arraylength, 1) := by decide +kernel
theorem dJ_fill_4 : decode bJ_fill 4 = .ok (.istore_n 3, 1) := by decide +kernel
theorem dJ_fill_5 : decode bJ_fill 5 = .ok (.iload_n 2, 1) := by decide +kernel
theorem dJ_fill_6 : decode bJ_fill 6 = .ok (.iload_n 3, 1) := by decide +kernel
theorem dJ_fill_7 : decode bJ_fill 7 = .ok (.if_icmp .ge 13, 3) := by decide +kernel
theorem dJ_fill_10 : decode bJ_fill 10 = .ok (.aload_n 0, 1) := by decide +kernel
theorem dJ_fill_11 : decode bJ_fill 11 = .ok (.iload_n 2, 1) := by decide +kernel
theorem dJ_fill_12 : decode bJ_fill 12 = .ok (.iload_n 1, 1) := by decide +kernel
theorem dJ_fill_13 : decode bJ_fill 13 = .ok (.iastore, 1) := by decide +kernel
theorem dJ_fill_14 : decode bJ_fill 14 = .ok (.iinc 2 1, 3) := by decide +kernel
theorem dJ_fill_17 : decode bJ_fill 17 = .ok (.goto (-12), 3) := by decide +kernel
theorem dJ_fill_20 : decode bJ_fill 20 = .ok (.return_, 1) := by decide +kernel
theorem set_self {α : Type} : ∀ {l : List α} {q : Nat} {x : α}, l[q]? = some x → l.set q x = l
  | [], q, x, h => by simp at h
  | a :: l, 0, x, h => by simp at h; rw [h]; rfl
  | a :: l, q + 1, x, h => by
    have h : l[q]? = some x := by simpa using h
    show a :: l.set q x = a :: l
    rw [set_self h]
def wFil (ws : va_W) (q a : Nat) (cA : ClassId) (n : Nat) (τ : xSg) : va_W := ws.set q (a, .inl (cA, n, .inl (τ 0)))
theorem wFil_get {ws : va_W} {q a : Nat} {cA : ClassId} {n : Nat} {τ : xSg} (hq : q < ws.length) : (wFil ws q a cA n τ)[q]? = some (a, .inl (cA, n, .inl (τ 0))) := by
  unfold wFil; simp [hq]
theorem wFil_set {ws : va_W} {q a : Nat} {cA : ClassId} {n : Nat} {τ υ : xSg} {f : Nat → Int32} (h : f = υ 0) : (wFil ws q a cA n τ).set q (a, .inl (cA, n, .inl f)) = wFil ws q a cA n υ := by
  unfold wFil; rw [List.set_set, h]
def fil (v : Int32) (k : Nat) (τ : xSg) : xSg := fun x j => if x = 0 ∧ j < k then v else τ x j
theorem fil_0 {v : Int32} {τ : xSg} : fil v 0 τ = τ := by funext x j; simp [fil]
theorem fil_up {v : Int32} {k : Nat} {τ : xSg} : upd (fil v k τ 0) k v = fil v (k + 1) τ 0 := by
  funext j
  unfold upd fil
  by_cases h : j = k
  · subst h; simp
  · rw [if_neg h]
    by_cases h2 : j < k
    · rw [if_pos ⟨rfl, h2⟩, if_pos ⟨rfl, by omega⟩]
    · rw [if_neg (fun q => h2 q.2), if_neg (fun q => h (by omega))]
set_option maxHeartbeats 4000000 in
set_option maxRecDepth 100000 in
theorem cJ_fill {l : Launch} {D : va_G} {cl : List vw_C} {tys : List (ClassId × FieldType)} {NW : List Cond} {ws : va_W} {q a n t0 : Nat} {cA : ClassId} {v : Int32} {τ : xSg} (hq : q < ws.length) (hn : n < 2 ^ 31) (ht : tys[t0]? = some (cA, .int)) : xCv l D cl tys NW (wFil ws q a cA n) yJ_fill (.code yJ_fill bJ_fill 4 none :: bigW) 0 [.ref a, .int v] τ (fun u => u = fil v n τ) := by
  refine xCv.of (cc := bJ_fill) (nL := 4) (ret := none) rfl (by decide) [.ref a, .int v, .null, .null] rfl (Nat.le_of_ble_eq_true rfl) ?_
  intro p e s m args below meth c A G hr hlk
  have loop : ∀ (j k : Nat), k + j = n → xJ p l e { frames := 0, cells := 0, slots := 0, locals := 40 * 0 } s m args below meth c 0 0 (MQ below (va_Qv (fun u => u = fil v n τ) (fun u t => va_P D cl (wFil ws q a cA n u) t.heap ∧ va_D A (wFil ws q a cA n u)) A) args s 0 0 A) D cl A 4 (va_S A s.heap) (wFil ws q a cA n (fil v k τ)) [.ref a, .int v, .int (nI k), .int (nI n)] 5 [] := by
    intro j
    induction j with
    | zero =>
      intro k hk
      refine x_iload_n G 2 dJ_fill_5 rfl rfl ?_
      refine x_iload_n G 3 dJ_fill_6 rfl rfl ?_
      refine x_icmp_ge G 20 dJ_fill_7 (by decide) (fun h7 => ?_) (fun h7 => absurd (nI_le (by omega) (by omega)) h7)
      exact x_retv G hr hlk dJ_fill_20 (by rw [show k = n by omega])
    | succ j ih =>
      intro k hk
      refine x_iload_n G 2 dJ_fill_5 rfl rfl ?_
      refine x_iload_n G 3 dJ_fill_6 rfl rfl ?_
      refine x_icmp_ge G 20 dJ_fill_7 (by decide) (fun h7 => absurd h7 (nI_ge (by omega) (by omega))) (fun h7 => ?_)
      refine x_aload_n G 0 dJ_fill_10 rfl rfl ?_
      refine x_iload_n G 2 dJ_fill_11 rfl rfl ?_
      refine x_iload_n G 1 dJ_fill_12 rfl rfl ?_
      refine x_iastN G q t0 (wFil_get hq) ht (wFil_set fil_up) (by omega) hn dJ_fill_13 ?_
      refine x_iinc G (nI (k + 1)) dJ_fill_14 rfl (nI_1 k) (by decide) ?_
      refine x_goto G 5 dJ_fill_17 (by decide) ?_
      exact ih (k + 1) (by omega)
  refine x_iconst G 0 dJ_fill_0 (by decide) ?_
  refine x_istore_n G 2 dJ_fill_1 rfl (by decide) ?_
  refine x_aload_n G 0 dJ_fill_2 rfl rfl ?_
  refine x_alen G q t0 (wFil_get hq) ht (nI n) rfl dJ_fill_3 ?_
  refine x_istore_n G 3 dJ_fill_4 rfl (by decide) ?_
  exact x_eq (by rw [fil_0]) rfl rfl rfl (loop n 0 (by omega))
section XF
variable {p : Program} {l : Launch} {e : Env} {R : Room} {s : State} {m : MethodId} {args : Array Value} {below : List Frame} {meth : Method} {c : Code} {cells slots : Nat} {Q : State → Prop} {D : va_G} {cl : List vw_C} {A : Nat → Prop} {nL : Nat} {ws : va_W} {vs : List Value} {pc : Nat} {st : List Value} {cc : ByteArray} {own : String} {NW : List Cond} {tys : List (ClassId × FieldType)} {c0 : Cond}
theorem x_fill (G : xG p s m args c cc nL own (c0 :: bigW) NW D cl tys A) {a n idx : Nat} {cA : ClassId} {f : Nat → Int32} {v : Int32} (q t0 : Nat) (ha : ws[q]? = some (a, .inl (cA, n, .inl f))) (ht : tys[t0]? = some (cA, .int)) (hn : n < 2 ^ 31) (hl : Cond.methodLink own idx yJ_fill ∈ bigW) (hR : 1 ≤ R.frames ∧ 23 ≤ R.locals) (dd : decode cc pc = .ok (.invokestatic idx, 3)) (hroom : (st.map fun v => v.category).sum ≤ 8) (hcs : cells ≤ R.cells ∧ slots ≤ R.slots)
    (k : xJ p l e R s m args below meth c cells slots Q D cl A nL (va_S A s.heap) (ws.set q (a, .inl (cA, n, .inl (fun j => if j < n then v else f j)))) vs (pc + 3) st) : xJ p l e R s m args below meth c cells slots Q D cl A nL (va_S A s.heap) ws vs pc (.int v :: .ref a :: st) := by
  have hq : q < ws.length := (List.getElem?_eq_some_iff.mp ha).1
  refine x_eq (ws2 := wFil ws q a cA n (fun _ => f)) (set_self ha).symm rfl rfl rfl ?_
  refine x_callS2v G (cJ_fill (t0 := t0) hq hn ht) (cSo G.2.2.2.2.1 hl wd_108 wd_52 wd_109 (by decide +kernel) ⟨hR.1, hR.2⟩) dd hroom hcs (fun u hu => ?_)
  subst hu
  refine x_eq ?_ rfl rfl rfl k
  unfold wFil
  have e : fil v n (fun _ => f) 0 = fun j => if j < n then v else f j := by funext j; simp [fil]
  rw [e]
theorem x_aald (G : xG p s m args c cc nL own (c0 :: bigW) NW D cl tys A) {S : Heap → List Loc → Prop} {a n x i : Nat} {cA : ClassId} {f : Nat → Option Nat} {ty : FieldType} (q0 t0 : Nat) (ha : ws[q0]? = some (a, .inl (cA, n, .inr (.inr (.inr (.inr f)))))) (ht : tys[t0]? = some (cA, ty)) (hty : ty.isReference = true) (hi : i < n) (hn : n < 2 ^ 31) (hf : f i = some x) (d : decode cc pc = .ok (.aaload, 1))
    (k : xJ p l e R s m args below meth c cells slots Q D cl A nL S ws vs (pc + 1) (.ref x :: st)) : xJ p l e R s m args below meth c cells slots Q D cl A nL S ws vs pc (.int (nI i) :: .ref a :: st) := fun H locs ls hP hD hS hl => by
  have hc : (nI i).toNatClampNeg = i := nI_clamp (by omega)
  exact W.aald (v := .ref x) (ty := ty) G.1 G.2.1 (hP q0 _ ha) ((G.2.2.2.2.2.1.2 t0 _ ht).1 n (fun j => va_rf (f j))) hty (fun q => by cases q) (by show ¬ (_ ∨ (arrV _ _ _).slots.size ≤ _); rw [arrV_size]; exact nI_in hi hn) (by show (arrV _ _ _).slots[_]? = _; rw [hc, arrV_read _ _ hi, hf]; rfl) rfl rfl d (k H locs ls hP hD hS hl)
end XF
/-- a whole row of the state anew -/
def rst (σ : xSg) (q : Nat) (f : Nat → Int32) : xSg := fun a => if a = q then f else σ a
theorem rst_same {σ : xSg} {q : Nat} {f : Nat → Int32} : rst σ q f q = f := by simp [rst]
theorem rst_ne {σ : xSg} {q a : Nat} {f : Nat → Int32} (h : a ≠ q) : rst σ q f a = σ a := by simp [rst, h]
section WR
variable {ad : Nat → Nat} {cI cZ cJ : ClassId} {σ : xSg} {f : Nat → Int32}
theorem wrow_10 : (wC ad cI cZ cJ σ).set 10 (ad 10, .inl (cI, 8, .inl f)) = wC ad cI cZ cJ (rst σ 10 f) := by rfl
theorem wrow_13 : (wC ad cI cZ cJ σ).set 13 (ad 13, .inl (cI, 4, .inl f)) = wC ad cI cZ cJ (rst σ 13 f) := by rfl
theorem wrow_14 : (wC ad cI cZ cJ σ).set 14 (ad 14, .inl (cI, 4, .inl f)) = wC ad cI cZ cJ (rst σ 14 f) := by rfl
theorem wrow_23 : (wC ad cI cZ cJ σ).set 23 (ad 23, .inl (cI, 8, .inl f)) = wC ad cI cZ cJ (rst σ 23 f) := by rfl
theorem wrow_24 : (wC ad cI cZ cJ σ).set 24 (ad 24, .inl (cI, 8, .inl f)) = wC ad cI cZ cJ (rst σ 24 f) := by rfl
theorem wC_row {c : Nat} (hc : c < 4) : (wC ad cI cZ cJ σ)[16 + c]? = some (ad (16 + c), .inl (cI, 8, .inl (σ (16 + c)))) := by
  rcases (show c = 0 ∨ c = 1 ∨ c = 2 ∨ c = 3 by omega) with rfl | rfl | rfl | rfl <;> rfl
theorem wC_rowSet {c i : Nat} {v : Int32} (hc : c < 4) : (wC ad cI cZ cJ σ).set (16 + c) (ad (16 + c), .inl (cI, 8, .inl (upd (σ (16 + c)) i v))) = wC ad cI cZ cJ (sst σ (16 + c) i v) := by
  rcases (show c = 0 ∨ c = 1 ∨ c = 2 ∨ c = 3 by omega) with rfl | rfl | rfl | rfl
  · exact warr_16
  · exact warr_17
  · exact warr_18
  · exact warr_19
end WR
def aI (a : Nat) : Int32 := if a < 4 then nI a else -1
def oI (x : Option Nat) : Int32 := match x with
  | none => -1
  | some b => nI b
theorem aI_t {a : Nat} (h : a < 4) : aI a = nI a := if_pos h
theorem aI_f {a : Nat} (h : ¬ a < 4) : aI a = -1 := if_neg h
theorem aI_m1 {a : Nat} : aI a = -1 ↔ ¬ a < 4 := by
  by_cases h : a < 4
  · rw [aI_t h]; exact ⟨fun q => absurd q (nI_m1 (by omega)), fun q => absurd h q⟩
  · rw [aI_f h]; simp [h]
theorem aI_eq {a c : Nat} (hc : c < 4) : aI a = nI c ↔ a = c := by
  by_cases h : a < 4
  · rw [aI_t h, nI_eq (by omega) (by omega)]
  · rw [aI_f h]
    constructor
    · intro q; exact absurd q.symm (nI_m1 (by omega))
    · intro q; omega
/-- the timetable's sharing is A -/
def TS (σ : xSg) (A : Nat → Nat) : Prop := (∀ b, b < 8 → σ 10 b = aI (A b)) ∧ (∀ c, c < 4 → σ 13 c = oI (fstA A c 8) ∧ σ 14 c = oI (lstA A c 8))
theorem TS.of {σ τ : xSg} {A : Nat → Nat} (h : TS σ A) (h1 : τ 10 = σ 10) (h2 : τ 13 = σ 13) (h3 : τ 14 = σ 14) : TS τ A := by
  unfold TS; rw [h1, h2, h3]; exact h
theorem fst_lt {A : Nat → Nat} {c f : Nat} (h : fstA A c 8 = some f) : f < 8 := (fstA_some h).1
theorem lst_lt {A : Nat → Nat} {c f : Nat} (h : lstA A c 8 = some f) : f < 8 := (lstA_some h).1
def clr (σ : xSg) : xSg := sst (sst (sst (rst (rst (rst σ 10 (fun j => if j < 8 then (-1) else σ 10 j)) 13 (fun j => if j < 4 then (-1) else σ 13 j)) 14 (fun j => if j < 4 then (-1) else σ 14 j)) 3 9 0) 3 10 0) 3 11 0
set_option maxHeartbeats 4000000 in
set_option maxRecDepth 100000 in
theorem cT_clear {l : Launch} {D : va_G} {cI cZ cJ : ClassId} {ad : Nat → Nat} {σ : xSg}  : xCv l D vCl (tyC cI cZ cJ) nwW (wC ad cI cZ cJ) yT_clear (.code yT_clear bT_clear 1 none :: bigW) 1 [.ref (ad 3)] σ (fun u => u = clr σ) := by
  refine xCv.of (cc := bT_clear) (nL := 1) (ret := none) rfl (by decide) [.ref (ad 3)] rfl (Nat.le_of_ble_eq_true rfl) ?_
  intro pp ee ss mm aa bb me cde AA G hr hlk
  refine x_aload_n G 0 dT_clear_0 rfl rfl ?_
  refine x_get G 3 rfl rfl 2 (by decide) rfl (fun w h => .tail _ (iT_ok w h)) (.tail _ wd_143) rfl dT_clear_1 ?_
  refine x_iconst G (-1) dT_clear_4 (by decide) ?_
  refine x_fill G 10 0 rfl rfl (by decide) wd_279 ⟨(Nat.le_of_ble_eq_true rfl), (Nat.le_of_ble_eq_true rfl)⟩ dT_clear_5 (Nat.le_of_ble_eq_true rfl) ⟨Nat.zero_le _, Nat.zero_le _⟩ ?_
  refine x_eq wrow_10 rfl rfl rfl ?_
  refine x_aload_n G 0 dT_clear_8 rfl rfl ?_
  refine x_get G 3 rfl rfl 5 (by decide) rfl (fun w h => .tail _ (iT_ok w h)) (.tail _ wd_147) rfl dT_clear_9 ?_
  refine x_iconst G (-1) dT_clear_12 (by decide) ?_
  refine x_fill G 13 0 rfl rfl (by decide) wd_279 ⟨(Nat.le_of_ble_eq_true rfl), (Nat.le_of_ble_eq_true rfl)⟩ dT_clear_13 (Nat.le_of_ble_eq_true rfl) ⟨Nat.zero_le _, Nat.zero_le _⟩ ?_
  refine x_eq wrow_13 rfl rfl rfl ?_
  refine x_aload_n G 0 dT_clear_16 rfl rfl ?_
  refine x_get G 3 rfl rfl 6 (by decide) rfl (fun w h => .tail _ (iT_ok w h)) (.tail _ wd_148) rfl dT_clear_17 ?_
  refine x_iconst G (-1) dT_clear_20 (by decide) ?_
  refine x_fill G 14 0 rfl rfl (by decide) wd_279 ⟨(Nat.le_of_ble_eq_true rfl), (Nat.le_of_ble_eq_true rfl)⟩ dT_clear_21 (Nat.le_of_ble_eq_true rfl) ⟨Nat.zero_le _, Nat.zero_le _⟩ ?_
  refine x_eq wrow_14 rfl rfl rfl ?_
  refine x_aload_n G 0 dT_clear_24 rfl rfl ?_
  refine x_iconst G (0) dT_clear_25 (by decide) ?_
  refine x_put G 3 rfl rfl 9 (by decide) (Nat.le_of_ble_eq_true rfl) wput_3_9 (fun w h => .tail _ (iT_ok w h)) tT_ok nT_ok (.tail _ wd_151) rfl rfl (tT_ok 9 (by decide)) rfl rfl dT_clear_26 ?_
  refine x_aload_n G 0 dT_clear_29 rfl rfl ?_
  refine x_iconst G (0) dT_clear_30 (by decide) ?_
  refine x_put G 3 rfl rfl 10 (by decide) (Nat.le_of_ble_eq_true rfl) wput_3_10 (fun w h => .tail _ (iT_ok w h)) tT_ok nT_ok (.tail _ wd_153) rfl rfl (tT_ok 10 (by decide)) rfl rfl dT_clear_31 ?_
  refine x_aload_n G 0 dT_clear_34 rfl rfl ?_
  refine x_iconst G (0) dT_clear_35 (by decide) ?_
  refine x_put G 3 rfl rfl 11 (by decide) (Nat.le_of_ble_eq_true rfl) wput_3_11 (fun w h => .tail _ (iT_ok w h)) tT_ok nT_ok (.tail _ wd_156) rfl rfl (tT_ok 11 (by decide)) rfl rfl dT_clear_36 ?_
  exact x_retv G hr hlk dT_clear_39 rfl
theorem clr_TS {σ : xSg} : TS (clr σ) (fun _ => 9) := by
  refine ⟨fun b hb => ?_, fun c hc => ?_⟩
  · have e : clr σ 10 b = -1 := by simp [clr, sst, rst, hb]
    rw [e]; rfl
  · have e1 : clr σ 13 c = -1 := by simp [clr, sst, rst, hc]
    have e2 : clr σ 14 c = -1 := by simp [clr, sst, rst, hc]
    rw [e1, e2, fstA_none.mpr (fun b _ => by show (9 : Nat) ≠ c; omega), lstA_none.mpr (fun b _ => by show (9 : Nat) ≠ c; omega)]
    exact ⟨rfl, rfl⟩
theorem clr_o {σ : xSg} {q : Nat} (h3 : q ≠ 3) (h10 : q ≠ 10) (h13 : q ≠ 13) (h14 : q ≠ 14) : clr σ q = σ q := by
  unfold clr; rw [sst_ne h3, sst_ne h3, sst_ne h3, rst_ne h14, rst_ne h13, rst_ne h10]
theorem clr_9 {σ : xSg} : clr σ 3 9 = 0 := by simp [clr, sst]
theorem clr_10 {σ : xSg} : clr σ 3 10 = 0 := by simp [clr, sst]
theorem clr_11 {σ : xSg} : clr σ 3 11 = 0 := by simp [clr, sst]
theorem oI_m1 {x : Option Nat} (h : ∀ b, x = some b → b < 2 ^ 31) : oI x = -1 ↔ x = none := by
  cases x with
  | none => simp [oI]
  | some b => exact ⟨fun q => absurd q (nI_m1 (h b rfl)), fun q => by cases q⟩
theorem give_TS {σ u : xSg} {A : Nat → Nat} {b c : Nat} (h : TS σ A) (hA : ∀ x, b ≤ x → 4 ≤ A x) (hb : b < 8) (hc : c < 4) (h10 : u 10 = upd (σ 10) b (nI c)) (h13 : u 13 = upd (σ 13) c (nI ((fstA A c 8).getD b))) (h14 : u 14 = upd (σ 14) c (nI b)) : TS u (upA A b c) := by
  refine ⟨fun x hx => ?_, fun d hd => ⟨?_, ?_⟩⟩
  · rw [h10]
    by_cases q : x = b
    · subst q; simp [upd, upA, aI_t hc]
    · simp [upd, upA, q, h.1 x hx]
  · rw [h13]
    by_cases q : d = c
    · subst q; rw [fstA_up hA hb hc]; simp [upd, oI]
    · rw [fstA_up' q (hA b (Nat.le_refl b)) hd]; simp [upd, q, (h.2 d hd).1]
  · rw [h14]
    by_cases q : d = c
    · subst q; rw [lstA_up hA hb hc]; simp [upd, oI]
    · rw [lstA_up' q (hA b (Nat.le_refl b)) hd]; simp [upd, q, (h.2 d hd).2]
set_option maxHeartbeats 4000000 in
set_option maxRecDepth 100000 in
theorem cT_give {l : Launch} {D : va_G} {cI cZ cJ : ClassId} {ad : Nat → Nat} {σ : xSg} {A : Nat → Nat} {n C b c sp : Nat} (ht : σ 1 2 = nI n) (hn : n ≤ 8) (hC : σ 2 0 = nI C) (hC4 : C ≤ 4) (hTS : TS σ A) (hsp : σ 3 11 = nI sp) (hb : b < n) (hc : c < C) (hA : ∀ x, b ≤ x → 4 ≤ A x) : xCv l D vCl (tyC cI cZ cJ) nwW (wC ad cI cZ cJ) yT_give (.code yT_give bT_give 3 none :: bigW) 1 [.ref (ad 3), .int (nI b), .int (nI c)] σ (fun u => TS u (upA A b c) ∧ u 3 11 = nI (sp + (b - (lstA A c 8).getD b)) ∧ u 3 9 = σ 3 9 ∧ u 3 10 = σ 3 10 ∧ ∀ q, q ≠ 3 → q ≠ 10 → q ≠ 13 → q ≠ 14 → u q = σ q) := by
  refine xCv.of (cc := bT_give) (nL := 3) (ret := none) rfl (by decide) [.ref (ad 3), .int (nI b), .int (nI c)] rfl (Nat.le_of_ble_eq_true rfl) ?_
  intro pp ee ss mm aa bb me cde AA G hr hlk
  have hc4 : c < 4 := by omega
  obtain ⟨hf, hl⟩ := hTS.2 c hc4
  refine x_aload_n G 0 dT_give_0 rfl rfl ?_
  refine x_get G 3 rfl rfl 0 (by decide) rfl (fun w h => .tail _ (iT_ok w h)) (.tail _ wd_141) rfl dT_give_1 ?_
  refine x_iload_n G 1 dT_give_4 rfl rfl ?_
  refine x_call0VN1i G (cB_hasN ht hn (by omega)) 1 rfl rfl (cVN G.2.2.2.2.1 G.2.2.2.2.2.2.1 nd_284 wd_260 wd_3 wd_49 wd_261 (by decide +kernel) ⟨(Nat.le_of_ble_eq_true rfl), (Nat.le_of_ble_eq_true rfl)⟩) dT_give_5 (Nat.le_of_ble_eq_true rfl) ⟨Nat.zero_le _, Nat.zero_le _⟩ (fun r5 e5 => ?_)
  subst e5
  refine x_if_eq G 22 dT_give_8 (by decide) (fun h8 => (by have h8 := bI_eq0.mp h8; omega)) (fun h8 => ?_)
  refine x_aload_n G 0 dT_give_11 rfl rfl ?_
  refine x_get G 3 rfl rfl 1 (by decide) rfl (fun w h => .tail _ (iT_ok w h)) (.tail _ wd_142) rfl dT_give_12 ?_
  refine x_iload_n G 2 dT_give_15 rfl rfl ?_
  refine x_call0VN1i G (cK_hasN hC hC4 (by omega)) 2 rfl rfl (cVN G.2.2.2.2.1 G.2.2.2.2.2.2.1 nd_285 wd_268 wd_5 wd_50 wd_269 (by decide +kernel) ⟨(Nat.le_of_ble_eq_true rfl), (Nat.le_of_ble_eq_true rfl)⟩) dT_give_16 (Nat.le_of_ble_eq_true rfl) ⟨Nat.zero_le _, Nat.zero_le _⟩ (fun r16 e16 => ?_)
  subst e16
  refine x_if_ne G 23 dT_give_19 (by decide) (fun h19 => ?_) (fun h19 => (by have h19 := bI_eq0.mp h19; omega))
  refine x_aload_n G 0 dT_give_23 rfl rfl ?_
  refine x_get G 3 rfl rfl 2 (by decide) rfl (fun w h => .tail _ (iT_ok w h)) (.tail _ wd_143) rfl dT_give_24 ?_
  refine x_iload_n G 1 dT_give_27 rfl rfl ?_
  refine x_iload_n G 2 dT_give_28 rfl rfl ?_
  refine x_iastN G 10 0 rfl rfl warr_10 (by omega) (by decide) dT_give_29 ?_
  refine x_aload_n G 0 dT_give_30 rfl rfl ?_
  refine x_get G 3 rfl rfl 5 (by decide) rfl (fun w h => .tail _ (iT_ok w h)) (.tail _ wd_147) rfl dT_give_31 ?_
  refine x_iload_n G 2 dT_give_34 rfl rfl ?_
  refine x_ialdN G 13 0 rfl rfl (by omega) (by decide) dT_give_35 ?_
  refine x_iconst G (-1) dT_give_36 (by decide) ?_
  refine x_icmp_ne G 50 dT_give_37 (by decide) (fun h37 => ?_) (fun h37 => ?_)
  · have h37 : ¬ oI (fstA A c 8) = -1 := fun q => h37 (by show σ 13 c = -1; rw [hf]; exact q)
    obtain ⟨f, hf1⟩ : ∃ f, fstA A c 8 = some f := by
      cases hq : fstA A c 8 with
      | none => rw [hq] at h37; exact absurd rfl h37
      | some f => exact ⟨f, rfl⟩
    obtain ⟨l0, hl1, hfl, hl8, hAl⟩ := lst_of_fst hf1
    have hlb : l0 < b := by
      rcases Nat.lt_or_ge l0 b with q | q
      · exact q
      · have := hA l0 q; omega
    refine x_aload_n G 0 dT_give_50 rfl rfl ?_
    refine x_dup G dT_give_51 rfl ?_
    refine x_get G 3 rfl rfl 11 (by decide) rfl (fun w h => .tail _ (iT_ok w h)) (.tail _ wd_156) rfl dT_give_52 ?_
    refine x_iload_n G 1 dT_give_55 rfl rfl ?_
    refine x_aload_n G 0 dT_give_56 rfl rfl ?_
    refine x_get G 3 rfl rfl 6 (by decide) rfl (fun w h => .tail _ (iT_ok w h)) (.tail _ wd_148) rfl dT_give_57 ?_
    refine x_iload_n G 2 dT_give_60 rfl rfl ?_
    refine x_ialdN G 14 0 rfl rfl (by omega) (by decide) dT_give_61 ?_
    refine x_isub G dT_give_62 ?_
    refine x_iadd G dT_give_63 ?_
    refine x_top (z := nI (sp + (b - l0))) (by show σ 3 11 + (nI b - σ 14 c) = _; rw [hsp, hl, hl1]; show nI sp + (nI b - nI l0) = _; rw [pk_sub (by omega), nI_add]) ?_
    refine x_put G 3 rfl rfl 11 (by decide) (Nat.le_of_ble_eq_true rfl) wput_3_11 (fun w h => .tail _ (iT_ok w h)) tT_ok nT_ok (.tail _ wd_156) rfl rfl (tT_ok 11 (by decide)) rfl rfl dT_give_64 ?_
    refine x_aload_n G 0 dT_give_67 rfl rfl ?_
    refine x_get G 3 rfl rfl 6 (by decide) rfl (fun w h => .tail _ (iT_ok w h)) (.tail _ wd_148) rfl dT_give_68 ?_
    refine x_iload_n G 2 dT_give_71 rfl rfl ?_
    refine x_iload_n G 1 dT_give_72 rfl rfl ?_
    refine x_iastN G 14 0 rfl rfl warr_14 (by omega) (by decide) dT_give_73 ?_
    exact x_retv G hr hlk dT_give_74 ⟨give_TS hTS hA (by omega) hc4 (by rw [sst_ne (by decide), sst_ne (by decide), sst_up]) (by rw [sst_ne (by decide), sst_ne (by decide), sst_ne (by decide), hf1]; funext j; by_cases q : j = c <;> simp [upd, q, hf, hf1, oI]) (by rw [sst_up, sst_ne (by decide), sst_ne (by decide)]), by rw [hl1]; rfl, rfl, rfl, fun q q3 q10 q13 q14 => by rw [sst_ne q14, sst_ne q3, sst_ne q10]⟩
  · have h37 : oI (fstA A c 8) = -1 := by rw [← hf]; exact h37
    have hf0 : fstA A c 8 = none := (oI_m1 (fun b hb => by have := fst_lt hb; omega)).mp h37
    have hl0 := lst_none_fst hf0
    refine x_aload_n G 0 dT_give_40 rfl rfl ?_
    refine x_get G 3 rfl rfl 5 (by decide) rfl (fun w h => .tail _ (iT_ok w h)) (.tail _ wd_147) rfl dT_give_41 ?_
    refine x_iload_n G 2 dT_give_44 rfl rfl ?_
    refine x_iload_n G 1 dT_give_45 rfl rfl ?_
    refine x_iastN G 13 0 rfl rfl warr_13 (by omega) (by decide) dT_give_46 ?_
    refine x_goto G 67 dT_give_47 (by decide) ?_
    refine x_aload_n G 0 dT_give_67 rfl rfl ?_
    refine x_get G 3 rfl rfl 6 (by decide) rfl (fun w h => .tail _ (iT_ok w h)) (.tail _ wd_148) rfl dT_give_68 ?_
    refine x_iload_n G 2 dT_give_71 rfl rfl ?_
    refine x_iload_n G 1 dT_give_72 rfl rfl ?_
    refine x_iastN G 14 0 rfl rfl warr_14 (by omega) (by decide) dT_give_73 ?_
    exact x_retv G hr hlk dT_give_74 ⟨give_TS hTS hA (by omega) hc4 (by rw [sst_ne (by decide), sst_ne (by decide), sst_up]) (by rw [sst_ne (by decide), sst_up, sst_ne (by decide), hf0]; rfl) (by rw [sst_up, sst_ne (by decide), sst_ne (by decide)]), by rw [hl0]; show σ 3 11 = nI (sp + (b - b)); rw [hsp, Nat.sub_self, Nat.add_zero], rfl, rfl, fun q q3 q10 q13 q14 => by rw [sst_ne q14, sst_ne q13, sst_ne q10]⟩
theorem near_nI {a b g : Nat} (ha : a < 2 ^ 30) (hb : b < 2 ^ 30) (hg : g < 2 ^ 30) : nI a - nI b ≤ nI g ↔ a ≤ b + g := by
  rw [i32_le, pk_sub_toInt ha hb, nI_toInt (by omega)]; omega
theorem near_lt {a b g : Nat} (ha : a < 2 ^ 30) (hb : b < 2 ^ 30) (hg : g < 2 ^ 30) : nI g < nI a - nI b ↔ b + g < a := by
  rw [i32_lt, pk_sub_toInt ha hb, nI_toInt (by omega)]; omega
set_option maxHeartbeats 4000000 in
set_option maxRecDepth 100000 in
theorem cT_tooNear {l : Launch} {D : va_G} {cI cZ cJ : ClassId} {ad : Nat → Nat} {σ : xSg} {g c d f1 f2 l1 l2 : Nat} (hg : σ 2 1 = nI g) (hg3 : g ≤ 3) (hc : c < 4) (hd : d < 4) (hf1 : σ 13 c = nI f1) (hf2 : σ 13 d = nI f2) (hl1 : σ 14 c = nI l1) (hl2 : σ 14 d = nI l2) (b1 : f1 < 8) (b2 : f2 < 8) (b3 : l1 < 8) (b4 : l2 < 8) : xCi0 l D vCl (tyC cI cZ cJ) nwW (wC ad cI cZ cJ σ) yT_tooNear (.code yT_tooNear bT_tooNear 3 (some .boolean) :: bigW) 0 [.ref (ad 3), .int (nI c), .int (nI d)] (fun r => r = bI (f2 ≤ f1 + g ∨ l2 ≤ l1 + g)) := by
  refine xCi0.of (cc := bT_tooNear) (nL := 3) (ret := (some .boolean)) rfl (by decide) [.ref (ad 3), .int (nI c), .int (nI d)] rfl (Nat.le_of_ble_eq_true rfl) ?_
  intro pp ee ss mm aa bb me cde AA G hr hlk
  refine x_aload_n G 0 dT_tooNear_0 rfl rfl ?_
  refine x_get G 3 rfl rfl 5 (by decide) rfl (fun w h => .tail _ (iT_ok w h)) (.tail _ wd_147) rfl dT_tooNear_1 ?_
  refine x_iload_n G 2 dT_tooNear_4 rfl rfl ?_
  refine x_ialdN G 13 0 rfl rfl (by omega) (by decide) dT_tooNear_5 ?_
  refine x_aload_n G 0 dT_tooNear_6 rfl rfl ?_
  refine x_get G 3 rfl rfl 5 (by decide) rfl (fun w h => .tail _ (iT_ok w h)) (.tail _ wd_147) rfl dT_tooNear_7 ?_
  refine x_iload_n G 1 dT_tooNear_10 rfl rfl ?_
  refine x_ialdN G 13 0 rfl rfl (by omega) (by decide) dT_tooNear_11 ?_
  refine x_isub G dT_tooNear_12 ?_
  refine x_aload_n G 0 dT_tooNear_13 rfl rfl ?_
  refine x_get G 3 rfl rfl 1 (by decide) rfl (fun w h => .tail _ (iT_ok w h)) (.tail _ wd_142) rfl dT_tooNear_14 ?_
  refine x_getN G 2 rfl rfl 1 (by decide) rfl (fun w h => .tail _ (iK_ok w h)) nd_112 rfl dT_tooNear_17 ?_
  refine x_icmp_le G 46 dT_tooNear_20 (by decide) (fun h20 => ?_) (fun h20 => ?_)
  · rw [hf1, hf2, hg, near_nI (by omega) (by omega) (by omega)] at h20
    refine x_iconst G (1) dT_tooNear_46 (by decide) ?_
    refine x_goto G 51 dT_tooNear_47 (by decide) ?_
    exact x_ret0i G hr hlk rfl dT_tooNear_51 (by first | rw [bI_t (by omega)] | rw [bI_f (by omega)])
  · rw [hf1, hf2, hg, near_nI (by omega) (by omega) (by omega)] at h20
    refine x_aload_n G 0 dT_tooNear_23 rfl rfl ?_
    refine x_get G 3 rfl rfl 6 (by decide) rfl (fun w h => .tail _ (iT_ok w h)) (.tail _ wd_148) rfl dT_tooNear_24 ?_
    refine x_iload_n G 2 dT_tooNear_27 rfl rfl ?_
    refine x_ialdN G 14 0 rfl rfl (by omega) (by decide) dT_tooNear_28 ?_
    refine x_aload_n G 0 dT_tooNear_29 rfl rfl ?_
    refine x_get G 3 rfl rfl 6 (by decide) rfl (fun w h => .tail _ (iT_ok w h)) (.tail _ wd_148) rfl dT_tooNear_30 ?_
    refine x_iload_n G 1 dT_tooNear_33 rfl rfl ?_
    refine x_ialdN G 14 0 rfl rfl (by omega) (by decide) dT_tooNear_34 ?_
    refine x_isub G dT_tooNear_35 ?_
    refine x_aload_n G 0 dT_tooNear_36 rfl rfl ?_
    refine x_get G 3 rfl rfl 1 (by decide) rfl (fun w h => .tail _ (iT_ok w h)) (.tail _ wd_142) rfl dT_tooNear_37 ?_
    refine x_getN G 2 rfl rfl 1 (by decide) rfl (fun w h => .tail _ (iK_ok w h)) nd_112 rfl dT_tooNear_40 ?_
    refine x_icmp_gt G 50 dT_tooNear_43 (by decide) (fun h43 => ?_) (fun h43 => ?_)
    · rw [hl1, hl2, hg, near_lt (by omega) (by omega) (by omega)] at h43
      refine x_iconst G (0) dT_tooNear_50 (by decide) ?_
      exact x_ret0i G hr hlk rfl dT_tooNear_51 (by first | rw [bI_t (by omega)] | rw [bI_f (by omega)])
    · rw [hl1, hl2, hg, near_lt (by omega) (by omega) (by omega)] at h43
      refine x_iconst G (1) dT_tooNear_46 (by decide) ?_
      refine x_goto G 51 dT_tooNear_47 (by decide) ?_
      exact x_ret0i G hr hlk rfl dT_tooNear_51 (by first | rw [bI_t (by omega)] | rw [bI_f (by omega)])
theorem apA_lt {A : Nat → Nat} {n g : Nat} : ∀ {k d : Nat}, (apA A n g k).1 = some d → d < k ∧ ∃ f, fstA A d n = some f
  | 0, d, h => by simp [apA] at h
  | k + 1, d, h => by
    unfold apA at h
    cases hf : fstA A k n with
    | none =>
      rw [hf] at h
      obtain ⟨h1, h2⟩ := apA_lt h
      exact ⟨by omega, h2⟩
    | some f =>
      rw [hf] at h
      cases h
      exact ⟨by omega, f, hf⟩
theorem apA_mono {A : Nat → Nat} {n g k : Nat} (h : (apA A n g k).2 = false) : ∀ (j : Nat), (apA A n g (k + j)).2 = false
  | 0 => h
  | j + 1 => by
    have ih := apA_mono h j
    show (apA A n g (k + j + 1)).2 = false
    unfold apA
    cases fstA A (k + j) n with
    | none => exact ih
    | some f => simp [ih]
theorem apA_none {A : Nat → Nat} {n g k : Nat} (h : fstA A k n = none) : apA A n g (k + 1) = apA A n g k := by simp [apA, h]
set_option maxHeartbeats 4000000 in
set_option maxRecDepth 100000 in
theorem cT_keepsApart {l : Launch} {D : va_G} {cI cZ cJ : ClassId} {ad : Nat → Nat} {σ : xSg} {A : Nat → Nat} {g : Nat} (hTS : TS σ A) (hg : σ 2 1 = nI g) (hg3 : g ≤ 3) : xCi0 l D vCl (tyC cI cZ cJ) nwW (wC ad cI cZ cJ σ) yT_keepsApart (.code yT_keepsApart bT_keepsApart 3 (some .boolean) :: bigW) 1 [.ref (ad 3)] (fun r => r = bI ((apA A 8 g 4).2 = true)) := by
  refine xCi0.of (cc := bT_keepsApart) (nL := 3) (ret := (some .boolean)) rfl (by decide) [.ref (ad 3), .null, .null] rfl (Nat.le_of_ble_eq_true rfl) ?_
  intro pp ee ss mm aa bb me cde AA G hr hlk
  have loop : ∀ (j k : Nat), k + j = 4 → (apA A 8 g k).2 = true → xJ pp l ee { frames := 1, cells := 0, slots := 0, locals := 40 * 1 } ss mm aa bb me cde 0 0 (MQ bb (vp_Si (fun r => r = bI ((apA A 8 g 4).2 = true))) aa ss 0 0 (fun _ => False)) D vCl AA 3 (fun H locs => H = ss.heap ∧ locs = []) (wC ad cI cZ cJ σ) [.ref (ad 3), .int (oI (apA A 8 g k).1), .int (nI k)] 4 [] := by
    intro j
    induction j with
    | zero =>
      intro k hk ha
      have hk : k = 4 := by omega
      subst hk
      refine x_iload_n G 2 dT_keepsApart_4 rfl rfl ?_
      refine x_iconst G (4) dT_keepsApart_5 (by decide) ?_
      refine x_icmp_ge G 43 dT_keepsApart_6 (by decide) (fun h6 => ?_) (fun h6 => (by exact absurd (nI_le (show 4 ≤ 4 by omega) (by omega)) h6))
      refine x_iconst G (1) dT_keepsApart_43 (by decide) ?_
      exact x_ret0i G hr hlk rfl dT_keepsApart_44 (by rw [bI_t ha])
    | succ j ih =>
      intro k hk ha
      obtain ⟨hf, hl⟩ := hTS.2 k (by omega)
      refine x_iload_n G 2 dT_keepsApart_4 rfl rfl ?_
      refine x_iconst G (4) dT_keepsApart_5 (by decide) ?_
      refine x_icmp_ge G 43 dT_keepsApart_6 (by decide) (fun h6 => (by exact absurd h6 (nI_ge (show k < 4 by omega) (by decide)))) (fun h6 => ?_)
      refine x_aload_n G 0 dT_keepsApart_9 rfl rfl ?_
      refine x_get G 3 rfl rfl 5 (by decide) rfl (fun w h => .tail _ (iT_ok w h)) (.tail _ wd_147) rfl dT_keepsApart_10 ?_
      refine x_iload_n G 2 dT_keepsApart_13 rfl rfl ?_
      refine x_ialdN G 13 0 rfl rfl (by omega) (by decide) dT_keepsApart_14 ?_
      refine x_iconst G (-1) dT_keepsApart_15 (by decide) ?_
      refine x_icmp_eq G 37 dT_keepsApart_16 (by decide) (fun h16 => ?_) (fun h16 => ?_)
      · have hf0 : fstA A k 8 = none := (oI_m1 (fun b hb => by have := fst_lt hb; omega)).mp (by rw [← hf]; exact h16)
        have e := apA_none (g := g) hf0
        refine x_iinc G (nI (k + 1)) dT_keepsApart_37 rfl (nI_1 k) (by decide) ?_
        refine x_goto G 4 dT_keepsApart_40 (by decide) ?_
        exact x_eq rfl (by first | (rw [e]; rfl) | (rw [← e]; rfl)) rfl rfl (ih (k + 1) (by omega) (by rw [e]; try exact ha))
      · obtain ⟨f, hf1⟩ : ∃ f, fstA A k 8 = some f := by
          cases hq : fstA A k 8 with
          | none => rw [hf, hq] at h16; exact absurd rfl h16
          | some f => exact ⟨f, rfl⟩
        obtain ⟨l0, hl1, hfl, hl8, -⟩ := lst_of_fst hf1
        have hf8 := fst_lt hf1
        refine x_iload_n G 1 dT_keepsApart_19 rfl rfl ?_
        refine x_iconst G (-1) dT_keepsApart_20 (by decide) ?_
        refine x_icmp_eq G 35 dT_keepsApart_21 (by decide) (fun h21 => ?_) (fun h21 => ?_)
        · have h21 : (apA A 8 g k).1 = none := (oI_m1 (fun b hb => by have := (apA_lt hb).1; omega)).mp h21
          have e : apA A 8 g (k + 1) = (some k, true) := by simp [apA, hf1, ha, h21]
          refine x_iload_n G 2 dT_keepsApart_35 rfl rfl ?_
          refine x_istore_n G 1 dT_keepsApart_36 rfl (by decide) ?_
          refine x_iinc G (nI (k + 1)) dT_keepsApart_37 rfl (nI_1 k) (by decide) ?_
          refine x_goto G 4 dT_keepsApart_40 (by decide) ?_
          exact x_eq rfl (by first | (rw [e]; rfl) | (rw [← e]; rfl)) rfl rfl (ih (k + 1) (by omega) (by rw [e]; try exact ha))
        · obtain ⟨d, hd1⟩ : ∃ d, (apA A 8 g k).1 = some d := by
            cases hq : (apA A 8 g k).1 with
            | none => rw [hq] at h21; exact absurd rfl h21
            | some d => exact ⟨d, rfl⟩
          obtain ⟨hdk, f2, hf2⟩ := apA_lt hd1
          obtain ⟨l2, hl2, hfl2, hl28, -⟩ := lst_of_fst hf2
          have hf28 := fst_lt hf2
          obtain ⟨qf, ql⟩ := hTS.2 d (by omega)
          rw [hf2] at qf
          rw [hl2] at ql
          rw [hf1] at hf
          rw [hl1] at hl
          refine x_eq rfl (vs2 := [.ref (ad 3), .int (nI d), .int (nI k)]) (by rw [hd1]; rfl) rfl rfl ?_
          refine x_aload_n G 0 dT_keepsApart_24 rfl rfl ?_
          refine x_iload_n G 1 dT_keepsApart_25 rfl rfl ?_
          refine x_iload_n G 2 dT_keepsApart_26 rfl rfl ?_
          refine x_call0V2i G (cT_tooNear hg hg3 (show d < 4 by omega) (show k < 4 by omega) qf hf ql hl hf28 hf8 hl28 hl8) 3 rfl rfl (cV G.2.2.2.2.1 wd_290 wd_292 wd_10 wd_53 wd_293 (by decide +kernel) ⟨(Nat.le_of_ble_eq_true rfl), (Nat.le_of_ble_eq_true rfl)⟩) dT_keepsApart_27 (Nat.le_of_ble_eq_true rfl) ⟨Nat.zero_le _, Nat.zero_le _⟩ (fun r27 e27 => ?_)
          subst e27
          refine x_if_eq G 35 dT_keepsApart_30 (by decide) (fun h30 => ?_) (fun h30 => ?_)
          · have h30 := bI_eq0.mp h30
            have e : apA A 8 g (k + 1) = (some k, true) := by simp only [apA, hf1, hd1, hf2, hl2, hl1, ha, Option.getD_some, Bool.true_and]; rw [decide_eq_true (by omega), decide_eq_true (by omega)]; rfl
            refine x_iload_n G 2 dT_keepsApart_35 rfl rfl ?_
            refine x_istore_n G 1 dT_keepsApart_36 rfl (by decide) ?_
            refine x_iinc G (nI (k + 1)) dT_keepsApart_37 rfl (nI_1 k) (by decide) ?_
            refine x_goto G 4 dT_keepsApart_40 (by decide) ?_
            exact x_eq rfl (by first | (rw [e]; rfl) | (rw [← e]; rfl)) rfl rfl (ih (k + 1) (by omega) (by rw [e]; try exact ha))
          · have h30 := bI_ne0.mp h30
            have e : (apA A 8 g (k + 1)).2 = false := by simp only [apA, hf1, hd1, hf2, hl2, hl1, ha, Option.getD_some, Bool.true_and]; rcases h30 with q | q; (· rw [decide_eq_false (by omega)]; rfl); (· rw [decide_eq_false (p := l2 + g < l0) (by omega), Bool.and_false])
            refine x_iconst G (0) dT_keepsApart_33 (by decide) ?_
            exact x_ret0i G hr hlk rfl dT_keepsApart_34 (by have := apA_mono e (3 - k); rw [show k + 1 + (3 - k) = 4 by omega] at this; rw [bI_f (by rw [this]; decide)])
  refine x_iconst G (-1) dT_keepsApart_0 (by decide) ?_
  refine x_istore_n G 1 dT_keepsApart_1 rfl (by decide) ?_
  refine x_iconst G (0) dT_keepsApart_2 (by decide) ?_
  refine x_istore_n G 2 dT_keepsApart_3 rfl (by decide) ?_
  exact loop 4 0 (by omega) rfl
set_option maxHeartbeats 4000000 in
set_option maxRecDepth 100000 in
theorem cT_isBetterThan {l : Launch} {D : va_G} {cI cZ cJ : ClassId} {ad : Nat → Nat} {σ : xSg} {f s f' s' : Nat} (hf : σ 3 10 = nI f) (hs : σ 3 11 = nI s) (b1 : f < 2 ^ 31) (b2 : s < 2 ^ 31) (b3 : f' < 2 ^ 31) (b4 : s' < 2 ^ 31) : xCi0 l D vCl (tyC cI cZ cJ) nwW (wC ad cI cZ cJ σ) yT_isBetterThan (.code yT_isBetterThan bT_isBetterThan 3 (some .boolean) :: bigW) 0 [.ref (ad 3), .int (nI f'), .int (nI s')] (fun r => r = bI (f < f' ∨ (f = f' ∧ s < s'))) := by
  refine xCi0.of (cc := bT_isBetterThan) (nL := 3) (ret := (some .boolean)) rfl (by decide) [.ref (ad 3), .int (nI f'), .int (nI s')] rfl (Nat.le_of_ble_eq_true rfl) ?_
  intro pp ee ss mm aa bb me cde AA G hr hlk
  refine x_aload_n G 0 dT_isBetterThan_0 rfl rfl ?_
  refine x_get G 3 rfl rfl 10 (by decide) rfl (fun w h => .tail _ (iT_ok w h)) (.tail _ wd_153) rfl dT_isBetterThan_1 ?_
  refine x_iload_n G 1 dT_isBetterThan_4 rfl rfl ?_
  refine x_icmp_eq G 24 dT_isBetterThan_5 (by decide) (fun h5 => ?_) (fun h5 => ?_)
  · rw [hf, nI_eq b1 b3] at h5
    refine x_aload_n G 0 dT_isBetterThan_24 rfl rfl ?_
    refine x_get G 3 rfl rfl 11 (by decide) rfl (fun w h => .tail _ (iT_ok w h)) (.tail _ wd_156) rfl dT_isBetterThan_25 ?_
    refine x_iload_n G 2 dT_isBetterThan_28 rfl rfl ?_
    refine x_icmp_ge G 36 dT_isBetterThan_29 (by decide) (fun h29 => ?_) (fun h29 => ?_)
    · rw [hs, nI_leI b4 b2] at h29
      refine x_iconst G (0) dT_isBetterThan_36 (by decide) ?_
      exact x_ret0i G hr hlk rfl dT_isBetterThan_37 (by first | rw [bI_t (by omega)] | rw [bI_f (by omega)])
    · rw [hs, nI_leI b4 b2] at h29
      refine x_iconst G (1) dT_isBetterThan_32 (by decide) ?_
      refine x_goto G 37 dT_isBetterThan_33 (by decide) ?_
      exact x_ret0i G hr hlk rfl dT_isBetterThan_37 (by first | rw [bI_t (by omega)] | rw [bI_f (by omega)])
  · rw [hf, nI_eq b1 b3] at h5
    refine x_aload_n G 0 dT_isBetterThan_8 rfl rfl ?_
    refine x_get G 3 rfl rfl 10 (by decide) rfl (fun w h => .tail _ (iT_ok w h)) (.tail _ wd_153) rfl dT_isBetterThan_9 ?_
    refine x_iload_n G 1 dT_isBetterThan_12 rfl rfl ?_
    refine x_icmp_ge G 20 dT_isBetterThan_13 (by decide) (fun h13 => ?_) (fun h13 => ?_)
    · rw [hf, nI_leI b3 b1] at h13
      refine x_iconst G (0) dT_isBetterThan_20 (by decide) ?_
      refine x_goto G 37 dT_isBetterThan_21 (by decide) ?_
      exact x_ret0i G hr hlk rfl dT_isBetterThan_37 (by first | rw [bI_t (by omega)] | rw [bI_f (by omega)])
    · rw [hf, nI_leI b3 b1] at h13
      refine x_iconst G (1) dT_isBetterThan_16 (by decide) ?_
      refine x_goto G 37 dT_isBetterThan_17 (by decide) ?_
      exact x_ret0i G hr hlk rfl dT_isBetterThan_37 (by first | rw [bI_t (by omega)] | rw [bI_f (by omega)])
