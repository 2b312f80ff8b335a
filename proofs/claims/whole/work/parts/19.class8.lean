/-! Search.makeBest -/
theorem key_msk : ∀ b0 b1 b2 b3 : Bool, mskL (b0.toNat + 2 * b1.toNat + 4 * b2.toNat + 8 * b3.toNat) 0 = !b0 ∧ mskL (b0.toNat + 2 * b1.toNat + 4 * b2.toNat + 8 * b3.toNat) 1 = !b1 ∧ mskL (b0.toNat + 2 * b1.toNat + 4 * b2.toNat + 8 * b3.toNat) 2 = !b2 ∧ mskL (b0.toNat + 2 * b1.toNat + 4 * b2.toNat + 8 * b3.toNat) 3 = !b3 := by decide
theorem mask_ex (ou : Nat → Bool) {C : Nat} (hC : C ≤ 4) : ∃ m, m < 2 ^ C ∧ ∀ c, c < C → mskL m c = !ou c := by
  have tl : ∀ b : Bool, b.toNat ≤ 1 := by decide
  have t0 := tl (ou 0); have t1 := tl (ou 1); have t2 := tl (ou 2); have t3 := tl (ou 3)
  rcases (show C = 0 ∨ C = 1 ∨ C = 2 ∨ C = 3 ∨ C = 4 by omega) with rfl | rfl | rfl | rfl | rfl
  · exact ⟨0, by decide, fun c hc => by omega⟩
  · refine ⟨(ou 0).toNat + 2 * false.toNat + 4 * false.toNat + 8 * false.toNat, by simp only [Bool.toNat_false]; omega, fun c hc => ?_⟩
    rcases (show c = 0 by omega) with rfl
    exact (key_msk (ou 0) false false false).1
  · refine ⟨(ou 0).toNat + 2 * (ou 1).toNat + 4 * false.toNat + 8 * false.toNat, by simp only [Bool.toNat_false]; omega, fun c hc => ?_⟩
    rcases (show c = 0 ∨ c = 1 by omega) with rfl | rfl
    · exact (key_msk (ou 0) (ou 1) false false).1
    · exact (key_msk (ou 0) (ou 1) false false).2.1
  · refine ⟨(ou 0).toNat + 2 * (ou 1).toNat + 4 * (ou 2).toNat + 8 * false.toNat, by simp only [Bool.toNat_false]; omega, fun c hc => ?_⟩
    rcases (show c = 0 ∨ c = 1 ∨ c = 2 by omega) with rfl | rfl | rfl
    · exact (key_msk (ou 0) (ou 1) (ou 2) false).1
    · exact (key_msk (ou 0) (ou 1) (ou 2) false).2.1
    · exact (key_msk (ou 0) (ou 1) (ou 2) false).2.2.1
  · refine ⟨(ou 0).toNat + 2 * (ou 1).toNat + 4 * (ou 2).toNat + 8 * (ou 3).toNat, by omega, fun c hc => ?_⟩
    rcases (show c = 0 ∨ c = 1 ∨ c = 2 ∨ c = 3 by omega) with rfl | rfl | rfl | rfl
    · exact (key_msk (ou 0) (ou 1) (ou 2) (ou 3)).1
    · exact (key_msk (ou 0) (ou 1) (ou 2) (ou 3)).2.1
    · exact (key_msk (ou 0) (ou 1) (ou 2) (ou 3)).2.2.1
    · exact (key_msk (ou 0) (ou 1) (ou 2) (ou 3)).2.2.2
theorem fil_len {Q : Nat → Bool} : ∀ (k : Nat), ((List.range k).filter Q).length = cntB Q k
  | 0 => rfl
  | k + 1 => by
    rw [List.range_succ, List.filter_append, List.length_append, fil_len k]
    by_cases h : Q k = true
    · rw [List.filter_cons_of_pos h, cntB_s h]; rfl
    · rw [List.filter_cons_of_neg h, cntB_z h]; rfl
theorem fil_get {Q : Nat → Bool} : ∀ {k c : Nat}, c < k → Q c = true → gDn ((List.range k).filter Q) (cntB Q c) = c
  | 0, c, h, _ => by omega
  | k + 1, c, h, hq => by
    unfold gDn
    rw [List.range_succ, List.filter_append, List.getD_eq_getElem?_getD]
    rcases (show c < k ∨ c = k by omega) with z | z
    · have hl : cntB Q c < ((List.range k).filter Q).length := by rw [fil_len]; exact (cntB_lt hq).mpr z
      rw [List.getElem?_append_left hl, ← List.getD_eq_getElem?_getD]
      exact fil_get z hq
    · subst z
      have hl : ((List.range c).filter Q).length = cntB Q c := fil_len c
      rw [List.getElem?_append_right (by omega), hl, Nat.sub_self, List.filter_cons_of_pos hq]
      rfl
theorem cntB_congr {P Q : Nat → Bool} : ∀ {k : Nat}, (∀ c, c < k → P c = Q c) → cntB P k = cntB Q k
  | 0, _ => rfl
  | k + 1, h => by
    have := cntB_congr (k := k) (fun c hc => h c (by omega))
    unfold cntB
    rw [this, h k (by omega)]
theorem cntB_flat {P : Nat → Bool} {k : Nat} (h : ∀ c, k ≤ c → P c = false) : ∀ (j : Nat), cntB P (k + j) = cntB P k
  | 0 => rfl
  | j + 1 => by rw [show k + (j + 1) = k + j + 1 by omega, cntB_z (by rw [h (k + j) (by omega)]; decide), cntB_flat h j]
theorem abF_msk {C m : Nat} {ou : Nat → Bool} (hm : ∀ c, c < C → mskL m c = !ou c) {c : Nat} (hc : c < C) : abF C ou c = mskL m c := by
  rw [hm c hc]; simp [abF, hc]
theorem abl_len {C m : Nat} {ou : Nat → Bool} (hC4 : C ≤ 4) (hm : ∀ c, c < C → mskL m c = !ou c) : (ablL C m).length = cntB (abF C ou) 4 := by
  unfold ablL
  rw [fil_len, ← cntB_congr (P := abF C ou) (Q := mskL m) (fun c hc => abF_msk hm hc)]
  have := cntB_flat (P := abF C ou) (k := C) (fun c hc => by simp [abF]; omega) (4 - C)
  rw [show C + (4 - C) = 4 by omega] at this
  exact this.symm
theorem abl_at {C m : Nat} {ou : Nat → Bool} (hC4 : C ≤ 4) (hm : ∀ c, c < C → mskL m c = !ou c) {i : Nat} (hi : i < cntB (abF C ou) 4) : ∃ c, c < C ∧ abF C ou c = true ∧ cntB (abF C ou) c = i ∧ gDn (ablL C m) i = c := by
  obtain ⟨c, h1, h2, h3⟩ := cntB_has hi
  have hc : c < C := by simp [abF] at h2; exact h2.1
  refine ⟨c, hc, h2, h3, ?_⟩
  have e : cntB (abF C ou) c = cntB (mskL m) c := cntB_congr (fun d hd => abF_msk hm (by omega))
  rw [← h3, e]
  exact fil_get hc (by rw [← abF_msk hm hc]; exact h2)
/-- what each bay has by a sharing of the able cranes -/
def asg (bz : Nat → Bool) (ab : Nat → Nat) (xs : List Nat) : Nat → Nat := sprB bz (xs.map ab)
theorem asg_prA {bz : Nat → Bool} {ab : Nat → Nat} {xs : List Nat} (h : ∀ x, bz x = true → x < 8) : prA bz (xs.map ab) (cntB bz 8) = asg bz ab xs := by
  funext b; exact prA_all h
theorem asg_lt {bz : Nat → Bool} {ab : Nat → Nat} {xs : List Nat} {b : Nat} (h : asg bz ab xs b < 4) : bz b = true := by
  unfold asg sprB at h
  by_cases hz : bz b = true
  · exact hz
  · rw [if_neg hz] at h; omega
theorem asg_eq {bz : Nat → Bool} {ab : Nat → Nat} {xs : List Nat} {b : Nat} (hb : bz b = true) (h8 : b < 8) (hl : xs.length = cntB bz 8) : asg bz ab xs b = ab (gDn xs (cntB bz b)) := by
  unfold asg sprB
  rw [if_pos hb]
  exact gDn_mapL (by rw [hl]; exact (cntB_lt hb).mpr h8)
/-- finish and steps of a sharing that keeps apart -/
def keyA (A mv mo mi : Nat → Nat) (g s : Nat) : Option (Nat × Nat) := if (apA A 8 g 4).2 = true then some (fiG (fun b => decide (0 ≤ A b ∧ A b < 4)) (enA A mv mo mi g s) 8, spA A 8 4) else none
theorem nxtL_lt {k : Nat} {xs ys : List Nat} (h : nxtL k xs = some ys) (hx : ∀ i, i < xs.length → gDn xs i < k) : ∀ i, i < xs.length → gDn ys i < k := by
  unfold nxtL at h
  cases hl : lastLt (gDn xs) k xs.length with
  | none => rw [hl] at h; cases h
  | some j =>
    rw [hl] at h
    cases h
    have hj : ∀ {n j : Nat}, lastLt (gDn xs) k n = some j → gDn xs j + 1 < k := by
      intro n
      induction n with
      | zero => intro j h; simp [lastLt] at h
      | succ n ih =>
        intro j h
        unfold lastLt at h
        by_cases hq : gDn xs n + 1 < k
        · rw [if_pos hq] at h; cases h; exact hq
        · rw [if_neg hq] at h; exact ih h
    have := hj hl
    intro i hi
    rw [gDn_map hi]
    split
    · exact hx i hi
    · exact this
theorem enL_s {k f : Nat} {xs : List Nat} : enL k (f + 1) xs = xs :: (match nxtL k xs with
    | none => []
    | some ys => enL k f ys) := rfl
def lF (acc : Option (List Nat × Nat × Nat)) : Nat := match acc with
  | none => 1000000
  | some q => q.2.1
def lS (acc : Option (List Nat × Nat × Nat)) : Nat := match acc with
  | none => 1000000
  | some q => q.2.2
theorem bstS_none {key : List Nat → Option (Nat × Nat)} {acc : Option (List Nat × Nat × Nat)} {x : List Nat} (h : key x = none) : bstS key acc x = acc := by unfold bstS; rw [h]
theorem bstS_t {key : List Nat → Option (Nat × Nat)} {acc : Option (List Nat × Nat × Nat)} {x : List Nat} {f s : Nat} (h : key x = some (f, s)) (hb : f < lF acc ∨ (f = lF acc ∧ s < lS acc)) : bstS key acc x = some (x, f, s) := by
  unfold bstS; rw [h]
  cases acc with
  | none => rfl
  | some q =>
    obtain ⟨y, f', s'⟩ := q
    exact if_pos hb
theorem bstS_f {key : List Nat → Option (Nat × Nat)} {acc : Option (List Nat × Nat × Nat)} {x : List Nat} {f s : Nat} (h : key x = some (f, s)) (hf : f < 1000000) (hb : ¬ (f < lF acc ∨ (f = lF acc ∧ s < lS acc))) : bstS key acc x = acc := by
  unfold bstS; rw [h]
  cases acc with
  | none => exact absurd (Or.inl hf) hb
  | some q =>
    obtain ⟨y, f', s'⟩ := q
    exact if_neg hb
theorem bstL_some {key : List Nat → Option (Nat × Nat)} : ∀ (L : List (List Nat)) (acc : Option (List Nat × Nat × Nat)), acc ≠ none → bstL key L acc ≠ none
  | [], acc, h => h
  | x :: L, acc, h => by
    rw [bstL_cons]
    refine bstL_some L _ ?_
    unfold bstS
    cases key x with
    | none => exact h
    | some q =>
      obtain ⟨a, b⟩ := q
      cases acc with
      | none => exact absurd rfl h
      | some r =>
        obtain ⟨y, c, d⟩ := r
        show (if _ then _ else _) ≠ none
        split <;> simp
/-- one crane alone keeps apart -/
theorem ap_one {A : Nat → Nat} {g c0 : Nat} (h : ∀ b, b < 8 → A b < 4 → A b = c0) : ∀ {k : Nat}, k ≤ 4 → (apA A 8 g k).2 = true ∧ ((apA A 8 g k).1 = none ∨ c0 < k)
  | 0, _ => ⟨rfl, Or.inl rfl⟩
  | k + 1, hk => by
    have ih := ap_one (g := g) h (k := k) (by omega)
    cases hf : fstA A k 8 with
    | none => rw [apA_none hf]; exact ⟨ih.1, ih.2.imp id (fun q => by omega)⟩
    | some f =>
      obtain ⟨q1, q2, -⟩ := fstA_some hf
      have e : k = c0 := by rw [← q2]; exact h f q1 (by omega)
      have hn : (apA A 8 g k).1 = none := ih.2.resolve_right (by omega)
      refine ⟨?_, Or.inr (by omega)⟩
      unfold apA
      simp only [hf, hn, ih.1]
      rfl
theorem tim_mono {du : Nat → Nat} {f g s : Nat} {w : Nat → Nat} : ∀ {b : Nat} (j : Nat), f ≤ b → tim du f g s w b + du b ≤ tim du f g s w (b + 1 + j)
  | b, 0, h => by
    show _ ≤ tim du f g s w (b + 1)
    rw [tim_up h]; omega
  | b, j + 1, h => by
    have ih := tim_mono (du := du) (g := g) (s := s) (w := w) (b := b) j h
    show _ ≤ tim du f g s w (b + 1 + j + 1)
    rw [tim_up (by omega)]; omega
/-- two bays of one crane begin at different times -/
theorem bg_dist {A mv mo mi : Nat → Nat} {g s : Nat} (hmo : ∀ c, 0 < mo c) (hmi : ∀ c, 0 < mi c) (hbz : ∀ b, A b < 4 → 0 < mv b) {b d : Nat} (hb : b < 8) (hd : d < 8) (hA : A b < 4) (hD : A d < 4) (hne : b ≠ d) : ahd (fun x => cmA A mv mo mi 8 g s (A x) x) A b d ∨ ahd (fun x => cmA A mv mo mi 8 g s (A x) x) A d b := by
  have key : ∀ b d, b < d → d < 8 → A b < 4 → A b = A d → cmA A mv mo mi 8 g s (A b) b < cmA A mv mo mi 8 g s (A d) d := by
    intro b d hbd hd hA he
    cases hf : fstA A (A b) 8 with
    | none => exact absurd rfl (fstA_none.mp hf b (by omega))
    | some f =>
      obtain ⟨-, -, q3⟩ := fstA_some hf
      have hfb : f ≤ b := by
        rcases Nat.lt_or_ge b f with z | z
        · exact absurd rfl (q3 b z)
        · exact z
      have h1 := tim_mono (du := duA A mv mo mi (A b)) (g := g) (s := s) (w := wtA A mv mo mi 8 g s (3 - A b)) (d - b - 1) hfb
      rw [show b + 1 + (d - b - 1) = d by omega] at h1
      have h2 : 0 < duA A mv mo mi (A b) b := by
        unfold duA; rw [if_pos rfl]
        exact cdv_pos (Nat.mul_pos (hbz b hA) (hmi _)) (hmo _)
      rw [← he]
      unfold cmA
      rw [hf]
      show tim _ f g s _ b < tim _ f g s _ d
      omega
  unfold ahd
  by_cases he : A b = A d
  · rcases Nat.lt_or_ge b d with z | z
    · exact Or.inl (Or.inl (key b d z hd hA he))
    · exact Or.inr (Or.inl (key d b (by omega) hb hD he.symm))
  · rcases Nat.lt_trichotomy (cmA A mv mo mi 8 g s (A b) b) (cmA A mv mo mi 8 g s (A d) d) with z | z | z
    · exact Or.inl (Or.inl z)
    · rcases Nat.lt_or_ge (A b) (A d) with y | y
      · exact Or.inl (Or.inr ⟨z, y⟩)
      · exact Or.inr (Or.inr ⟨z.symm, by omega⟩)
    · exact Or.inr (Or.inl z)
section XC
variable {p : Program} {l : Launch} {e : Env} {R : Room} {s : State} {m : MethodId} {args : Array Value} {below : List Frame} {meth : Method} {c : Code} {cells slots : Nat} {Q : State → Prop} {D : va_G} {cl : List vw_C} {A : Nat → Prop} {nL : Nat} {ws : va_W} {vs : List Value} {pc : Nat} {st : List Value} {cc : ByteArray} {own : String} {NW : List Cond} {tys : List (ClassId × FieldType)} {c0 : Cond}
theorem x_copy (G : xG p s m args c cc nL own (c0 :: bigW) NW D cl tys A) {a0 a1 n index : Nat} {cA : ClassId} {f g : Nat → Int32} (q0 q1 t0 : Nat) (h0 : ws[q0]? = some (a0, .inl (cA, n, .inl f))) (h1 : ws[q1]? = some (a1, .inl (cA, n, .inl g))) (ht : tys[t0]? = some (cA, .int)) (hn : n < 2 ^ 31) (hl : Cond.methodLink own index arraycopyName ∈ bigW) (hnat : Cond.native arraycopyName ∈ bigW) (hst : Cond.static arraycopyName ∈ bigW) (hin : Cond.initialized "java/lang/System" ∈ bigW) (hR : 1 ≤ R.frames) (hR2 : (st.map fun v => v.category).sum + (nativeFrameWords "java/lang/System" "arraycopy" 5 + 11) ≤ R.locals) (d : decode cc pc = .ok (.invokestatic index, 3))
    (k : xJ p l e R s m args below meth c cells slots Q D cl A nL (va_S A s.heap) (ws.set q1 (a1, .inl (cA, n, .inl (va_cpy f g 0 0 n)))) vs (pc + 3) st) : xJ p l e R s m args below meth c cells slots Q D cl A nL (va_S A s.heap) ws vs pc (.int (nI n) :: .int 0 :: .ref a1 :: .int 0 :: .ref a0 :: st) := fun H locs ls hP hD hS hl' => by
  have hts := G.2.2.2.2.1
  have e0 : (0 : Int32).toNatClampNeg = 0 := sb_cl0
  have en : (nI n).toNatClampNeg = n := nI_clamp hn
  refine va_copyi G.1 G.2.1 (G.2.2.1.trans hl'.1.symm) G.2.2.2.1 (hts _ (.tail _ hl)) (hts _ (.tail _ hnat)) (hts _ (.tail _ hst)) (hts _ (.tail _ hin)) G.2.2.2.2.2.1 hP hD hS q0 q1 t0 t0 h0 h1 ht ht rfl (by decide) (by decide) (nI_pos hn) (by rw [e0, en]; omega) (by rw [e0, en]; omega) (fun _ _ => rfl) hR hR2 d (fun H1 locs1 hP hD hS => ?_)
  rw [e0, en] at hP hD
  exact k H1 locs1 ls hP hD hS hl'
end XC
/-- the search leaves bays and cranes as they were -/
def MO (σ u : xSg) : Prop := ∀ q, (q < 3 ∨ (5 ≤ q ∧ q < 10)) → u q = σ q
theorem MO.rf {σ : xSg} : MO σ σ := fun _ _ => rfl
theorem MO.tr {σ u v : xSg} (h1 : MO σ u) (h2 : MO u v) : MO σ v := fun q h => (h2 q h).trans (h1 q h)
theorem GO.mo {σ u : xSg} (h : GO σ u) : MO σ u := fun q hq => h q (by omega) (by omega) (by omega) (by omega)
theorem HO.mo {σ u : xSg} (h : HO σ u) : MO σ u := fun q hq => h q (by omega) (by omega) (by omega) (by omega)
theorem TO.mo {σ u : xSg} (h : TO σ u) : MO σ u := fun q hq => h.o (by omega)
theorem RO.mo {σ u : xSg} (h : RO σ u) : MO σ u := fun q hq => h.2.2 q (by omega) (by omega)
theorem MO.PB {σ u : xSg} {n : Nat} {hh ww : Nat → Nat} (h : MO σ u) (hB : PB σ n hh ww) : PB u n hh ww := hB.of (h 1 (by omega)) (h 5 (by omega)) (h 6 (by omega))
theorem MO.PK {σ u : xSg} {C : Nat} {mo mi : Nat → Nat} {ou : Nat → Bool} (h : MO σ u) (hK : PK σ C mo mi ou) : PK u C mo mi ou := hK.of (h 2 (by omega)) (h 7 (by omega)) (h 8 (by omega)) (h 9 (by omega))
theorem MO.PS {σ u : xSg} {g s : Nat} (h : MO σ u) (hS : PS σ g s) : PS u g s := hS.of (h 2 (by omega))
theorem bz_lt {σ : xSg} {n : Nat} {hh ww : Nat → Nat} (hB : PB σ n hh ww) {b : Nat} (h : bzF hh ww b = true) : b < n := by
  rcases Nat.lt_or_ge b n with z | z
  · exact z
  · have := hB.2.2.2.2 b z; have hz : 0 < mvF hh ww b := of_decide_eq_true h; unfold mvF at hz; omega
/-- a plan stands: its sharing A, times, steps, rows -/
def PLN (σ : xSg) (A mv mo mi : Nat → Nat) (g s : Nat) : Prop := TP σ A mv mo mi g s ∧ (apA A 8 g 4).2 = true ∧ ∃ L, RW σ A (fun x => cmA A mv mo mi 8 g s (A x) x) 8 L
/-- what makeBest leaves: the best sharing's plan, or nothing where no crane may work -/
def MB (u : xSg) (C mk g s : Nat) (hh ww mo mi : Nat → Nat) (ou : Nat → Bool) (r : Int32) : Prop :=
  ((cntB (abF C ou) 4) = 0 ∧ r = 0) ∨ (0 < (cntB (abF C ou) 4) ∧ r = 1 ∧ ∃ xs f st, bstL (fun xs => keyA (asg (bzF hh ww) (gDn (ablL C mk)) xs) (mvF hh ww) mo mi g s) (enL (cntB (abF C ou) 4) 165 (zrL (cntB (bzF hh ww) 8))) none = some (xs, f, st) ∧ xs.length = (cntB (bzF hh ww) 8) ∧ (∀ i, i < xs.length → gDn xs i < (cntB (abF C ou) 4)) ∧ PLN u (asg (bzF hh ww) (gDn (ablL C mk)) xs) (mvF hh ww) mo mi g s)
/-- the loop's own state: the search's tables, the sharing that is tried, the best so far -/
def LI (σ0 σ : xSg) (C mk g s : Nat) (hh ww mo mi : Nat → Nat) (ou : Nat → Bool) (acc : Option (List Nat × Nat × Nat)) : Prop :=
  MO σ0 σ ∧ GA σ (bzF hh ww) (abF C ou) ∧ ∀ ys f st, acc = some (ys, f, st) → ys.length = (cntB (bzF hh ww) 8) ∧ (∀ i, i < ys.length → σ 24 i = nI (gDn ys i) ∧ gDn ys i < (cntB (abF C ou) 4)) ∧ (fun xs => keyA (asg (bzF hh ww) (gDn (ablL C mk)) xs) (mvF hh ww) mo mi g s) ys = some (f, st)
def LX (σ : xSg) (na nb : Nat) (xs : List Nat) : Prop := xs.length = nb ∧ ∀ i, i < xs.length → σ 23 i = nI (gDn xs i) ∧ gDn xs i < na
set_option maxHeartbeats 4000000 in
set_option maxRecDepth 100000 in
theorem cS_makeBest {l : Launch} {D : va_G} {cI cZ cJ : ClassId} {ad : Nat → Nat} {σ : xSg} {n C g s mk : Nat} {hh ww mo mi : Nat → Nat} {ou : Nat → Bool} (hB : PB σ n hh ww) (hK : PK σ C mo mi ou) (hS : PS σ g s) (hmk : ∀ c, c < C → mskL mk c = !ou c) : xCi l D vCl (tyC cI cZ cJ) nwW (wC ad cI cZ cJ) yS_makeBest (.code yS_makeBest bS_makeBest 5 (some .boolean) :: bigW) 4 [.ref (ad 4)] σ (fun r u => MB u C mk g s hh ww mo mi ou r ∧ MO σ u) := by
  refine xCi.of (cc := bS_makeBest) (nL := 5) (ret := (some .boolean)) rfl (by decide) [.ref (ad 4), .null, .null, .null, .null] rfl (Nat.le_of_ble_eq_true rfl) ?_
  intro pp ee ss mm aa bb me cde AA G hr hlk
  obtain ⟨hn8, hnt, hbw, hbb, hb0⟩ := id hB
  obtain ⟨hC1, hC4, hC, hrt, hbd⟩ := id hK
  obtain ⟨hg3, hs20, hg, hs⟩ := id hS
  have hbz8 : ∀ x, (bzF hh ww) x = true → x < 8 := fun x hx => by have := bz_lt hB hx; omega
  have hna4 : (cntB (abF C ou) 4) ≤ 4 := cntB_le 4
  have hnb8 : (cntB (bzF hh ww) 8) ≤ 8 := cntB_le 8
  have hAC : ∀ xs, xs.length = (cntB (bzF hh ww) 8) → (∀ i, i < xs.length → gDn xs i < (cntB (abF C ou) 4)) → ∀ b, asg (bzF hh ww) (gDn (ablL C mk)) xs b < 4 → asg (bzF hh ww) (gDn (ablL C mk)) xs b < C := by
    intro xs h1 h2 b h3
    have hz := asg_lt h3
    rw [asg_eq hz (hbz8 b hz) h1]
    obtain ⟨c, q1, q2, q3, q4⟩ := abl_at hC4 hmk (h2 (cntB (bzF hh ww) b) (by rw [h1]; exact (cntB_lt hz).mpr (hbz8 b hz)))
    rw [q4]; exact q1
  have hab : ∀ (σ1 : xSg), GA σ1 (bzF hh ww) (abF C ou) → ∀ i, i < (cntB (abF C ou) 4) → σ1 22 i = nI ((gDn (ablL C mk)) i) ∧ (gDn (ablL C mk)) i < C := by
    intro σ1 hG i hi
    obtain ⟨c, q1, q2, q3, q4⟩ := abl_at hC4 hmk hi
    rw [q4]
    exact ⟨by rw [← q3]; exact hG.2.2.2 c (by omega) q2, q1⟩
  have hfb : ∀ (A : Nat → Nat), fiG (fun b => decide (0 ≤ A b ∧ A b < 4)) (enA A (mvF hh ww) mo mi g s) 8 ≤ 700540 := by
    intro A
    refine fiG_le (fun b hb hp => ?_)
    have hp : 0 ≤ A b ∧ A b < 4 := of_decide_eq_true hp
    have q1 := cmA_le (A := A) (mv := mvF hh ww) (mo := mo) (mi := mi) (n := 8) (g := g) (s := s) hB.mv (fun c _ => (hbd c).2.2.2) (fun c _ => (hbd c).1) hg3 hs20 hp.2 hb
    have q2 := tkA_le (mv := mvF hh ww) (mo := mo) (mi := mi) (c := A b) (b := b) (hB.mv b) (hbd _).2.2.2 (hbd _).1
    unfold enA; omega
  have hsb : ∀ (A : Nat → Nat), spA A 8 4 ≤ 32 := by
    intro A
    have h1 : ∀ c, (lstA A c 8).getD 0 - (fstA A c 8).getD 0 ≤ 8 := by
      intro c
      cases hl : lstA A c 8 with
      | none => simp
      | some x => have := lst_lt hl; simp only [Option.getD_some]; omega
    have := h1 0; have := h1 1; have := h1 2; have := h1 3
    simp only [spA]; omega
  have hsome : 0 < (cntB (abF C ou) 4) → bstL (fun xs => keyA (asg (bzF hh ww) (gDn (ablL C mk)) xs) (mvF hh ww) mo mi g s) (enL (cntB (abF C ou) 4) 165 (zrL (cntB (bzF hh ww) 8))) none ≠ none := by
    intro hna
    rw [show (165 : Nat) = 164 + 1 from rfl]
    unfold enL
    rw [bstL_cons]
    refine bstL_some _ _ ?_
    have hz : ∀ i, gDn (zrL (cntB (bzF hh ww) 8)) i = 0 := fun i => by unfold gDn zrL; rw [List.getD_eq_getElem?_getD]; cases h : (List.replicate (cntB (bzF hh ww) 8) 0)[i]? with | none => rfl | some v => rw [List.getElem?_replicate] at h; split at h <;> simp_all
    have hk : keyA (asg (bzF hh ww) (gDn (ablL C mk)) (zrL (cntB (bzF hh ww) 8))) (mvF hh ww) mo mi g s ≠ none := by
      unfold keyA
      rw [if_pos (ap_one (c0 := (gDn (ablL C mk)) 0) (fun b hb hA => by rw [asg_eq (asg_lt hA) hb (by simp [zrL]), hz]) (Nat.le_refl 4)).1]
      simp
    unfold bstS
    dsimp only
    cases hq : keyA (asg (bzF hh ww) (gDn (ablL C mk)) (zrL (cntB (bzF hh ww) 8))) (mvF hh ww) mo mi g s with
    | none => exact absurd hq hk
    | some q => obtain ⟨a, b⟩ := q; simp
  have ends : ∀ (σ1 : xSg) (acc : Option (List Nat × Nat × Nat)) (vs : List Value), vs[0]? = some (.ref (ad 4)) → 0 < (cntB (abF C ou) 4) → LI σ σ1 C mk g s hh ww mo mi ou acc → bstL (fun xs => keyA (asg (bzF hh ww) (gDn (ablL C mk)) xs) (mvF hh ww) mo mi g s) (enL (cntB (abF C ou) 4) 165 (zrL (cntB (bzF hh ww) 8))) none = acc → acc ≠ none → xJ pp l ee { frames := 4, cells := 0, slots := 0, locals := 40 * 4 } ss mm aa bb me cde 0 0 (MQ bb (va_Qi (fun r u => MB u C mk g s hh ww mo mi ou r ∧ MO σ u) (fun u t => va_P D vCl (wC ad cI cZ cJ u) t.heap ∧ va_D AA (wC ad cI cZ cJ u)) AA) aa ss 0 0 AA) D vCl AA 5 (va_S AA ss.heap) (wC ad cI cZ cJ σ1) vs 115 [] := by
    intro σ1 acc vs hvs hna hI hT hne
    obtain ⟨ys, f, st, rfl⟩ : ∃ ys f st, acc = some (ys, f, st) := by
      cases acc with
      | none => exact absurd rfl hne
      | some q => exact ⟨q.1, q.2.1, q.2.2, rfl⟩
    obtain ⟨hM, hG, hA⟩ := hI
    obtain ⟨hy1, hy2, hy3⟩ := hA ys f st rfl
    have hok : (apA (asg (bzF hh ww) (gDn (ablL C mk)) ys) 8 g 4).2 = true := by
      cases hq : (apA (asg (bzF hh ww) (gDn (ablL C mk)) ys) 8 g 4).2 with
      | true => rfl
      | false => simp [keyA, hq] at hy3
    refine x_aload_n G 0 dS_makeBest_115 rfl hvs ?_
    refine x_aload_n G 0 dS_makeBest_116 rfl hvs ?_
    refine x_get G 4 rfl rfl 6 (by decide) rfl (fun w h => .tail _ (iS_ok w h)) (.tail _ wd_196) rfl dS_makeBest_117 ?_
    refine x_callV1v G (cS_share24 (xs := ys) (ab := (gDn (ablL C mk))) (hM.PB hB) (by rw [hM 2 (by omega)]; exact hC) hC4 hG.1 hG.2.1 hG.2.2.1 hna4 (hab σ1 hG) hy1 hy2) 4 rfl rfl (cV G.2.2.2.2.1 wd_271 wd_273 wd_6 wd_54 wd_274 (by decide +kernel) ⟨(Nat.le_of_ble_eq_true rfl), (Nat.le_of_ble_eq_true rfl)⟩) dS_makeBest_120 (Nat.le_of_ble_eq_true rfl) ⟨Nat.zero_le _, Nat.zero_le _⟩ (fun u120 e120 => ?_)
    obtain ⟨σ2, hz⟩ : ∃ z, z = u120 := ⟨_, rfl⟩
    subst hz
    obtain ⟨t1, t2, t3, t4, t5⟩ := e120
    rw [asg_prA hbz8] at t1 t2
    refine x_aload_n G 0 dS_makeBest_123 rfl hvs ?_
    refine x_get G 4 rfl rfl 2 (by decide) rfl (fun w h => .tail _ (iS_ok w h)) (.tail _ wd_192) rfl dS_makeBest_124 ?_
    refine x_callVN0v G (cT_setTimes (n := n) (C := C) ((hM.tr t5.mo).PB hB) ((hM.tr t5.mo).PK hK) ((hM.tr t5.mo).PS hS) t1 hok (hAC ys hy1 (fun i hi => (hy2 i hi).2)) t4) 3 rfl rfl (cVN G.2.2.2.2.1 G.2.2.2.2.2.2.1 nd_294 wd_296 wd_11 wd_53 wd_297 (by decide +kernel) ⟨(Nat.le_of_ble_eq_true rfl), (Nat.le_of_ble_eq_true rfl)⟩) dS_makeBest_127 (Nat.le_of_ble_eq_true rfl) ⟨Nat.zero_le _, Nat.zero_le _⟩ (fun u127 e127 => ?_)
    obtain ⟨σ3, hz⟩ : ∃ z, z = u127 := ⟨_, rfl⟩
    subst hz
    obtain ⟨m1, m2⟩ := e127
    refine x_aload_n G 0 dS_makeBest_130 rfl hvs ?_
    refine x_get G 4 rfl rfl 2 (by decide) rfl (fun w h => .tail _ (iS_ok w h)) (.tail _ wd_192) rfl dS_makeBest_131 ?_
    refine x_callVN0v G (cT_sortRows (n := n) (bg := fun x => cmA (asg (bzF hh ww) (gDn (ablL C mk)) ys) (mvF hh ww) mo mi 8 g s (asg (bzF hh ww) (gDn (ablL C mk)) ys x) x) (((hM.tr t5.mo).tr m2.mo).PB hB) (m2.TS t1) (fun b hb => bz_lt hB (asg_lt hb)) (fun b hb h4 => ⟨(m1.2.1 b hb (Nat.zero_le _) h4).1, by have := cmA_le (A := asg (bzF hh ww) (gDn (ablL C mk)) ys) (mv := mvF hh ww) (mo := mo) (mi := mi) (n := 8) (g := g) (s := s) hB.mv (fun c _ => (hbd c).2.2.2) (fun c _ => (hbd c).1) hg3 hs20 h4 hb; omega⟩) (fun b d hb hd h1 h2 h3 => bg_dist (fun c => (hbd c).1) (fun c => (hbd c).2.2.1) (fun b hb => of_decide_eq_true (asg_lt hb)) hb hd h1 h2 h3)) 3 rfl rfl (cVN G.2.2.2.2.1 G.2.2.2.2.2.2.1 nd_326 wd_328 wd_17 wd_53 wd_329 (by decide +kernel) ⟨(Nat.le_of_ble_eq_true rfl), (Nat.le_of_ble_eq_true rfl)⟩) dS_makeBest_134 (Nat.le_of_ble_eq_true rfl) ⟨Nat.zero_le _, Nat.zero_le _⟩ (fun u134 e134 => ?_)
    obtain ⟨σ4, hz⟩ : ∃ z, z = u134 := ⟨_, rfl⟩
    subst hz
    obtain ⟨⟨L, w1⟩, w2⟩ := e134
    refine x_iconst G (1) dS_makeBest_137 (by decide) ?_
    exact x_reti G hr hlk rfl dS_makeBest_138 ⟨Or.inr ⟨hna, rfl, ys, f, st, hT, hy1, fun i hi => (hy2 i hi).2, ⟨⟨(m2.TS t1).of (w2.2.2 10 (by omega) (by omega)) (w2.2.2 13 (by omega) (by omega)) (w2.2.2 14 (by omega) (by omega)), ⟨fun d f' l' h1 h2 h3 h4 b h5 h6 => by rw [w2.2.2 (16 + d) (by omega) (by omega)]; exact m1.1 d f' l' h1 h2 h3 h4 b h5 h6, fun b h1 h2 h3 => by rw [w2.2.2 11 (by omega) (by omega), w2.2.2 12 (by omega) (by omega)]; exact m1.2.1 b h1 h2 h3, by rw [w2.1]; exact m1.2.2⟩, by rw [w2.2.1, m2.2.1]; exact t2⟩, hok, L, w1⟩⟩, ((hM.tr t5.mo).tr m2.mo).tr w2.mo⟩
  have loop : ∀ (j t : Nat), t + j = 165 → ∀ (σ1 : xSg) (xs : List Nat) (acc : Option (List Nat × Nat × Nat)), 0 < (cntB (abF C ou) 4) → LI σ σ1 C mk g s hh ww mo mi ou acc → LX σ1 (cntB (abF C ou) 4) (cntB (bzF hh ww) 8) xs → enE (cntB (abF C ou) 4) j xs = true → bstL (fun xs => keyA (asg (bzF hh ww) (gDn (ablL C mk)) xs) (mvF hh ww) mo mi g s) (enL (cntB (abF C ou) 4) 165 (zrL (cntB (bzF hh ww) 8))) none = bstL (fun xs => keyA (asg (bzF hh ww) (gDn (ablL C mk)) xs) (mvF hh ww) mo mi g s) (enL (cntB (abF C ou) 4) j xs) acc → lF acc ≤ 1000000 → lS acc ≤ 1000000 → xJ pp l ee { frames := 4, cells := 0, slots := 0, locals := 40 * 4 } ss mm aa bb me cde 0 0 (MQ bb (va_Qi (fun r u => MB u C mk g s hh ww mo mi ou r ∧ MO σ u) (fun u t => va_P D vCl (wC ad cI cZ cJ u) t.heap ∧ va_D AA (wC ad cI cZ cJ u)) AA) aa ss 0 0 AA) D vCl AA 5 (va_S AA ss.heap) (wC ad cI cZ cJ σ1) [.ref (ad 4), .int (nI (lF acc)), .int (nI (lS acc)), .int 1, .int (nI t)] 24 [] := by
    intro j
    induction j with
    | zero =>
      intro t ht σ1 xs acc hna hI hX hE
      simp [enE] at hE
    | succ j ih =>
      intro t ht σ1 xs acc hna hI hX hE hT hF hSs
      obtain ⟨hM, hG, hA⟩ := id hI
      obtain ⟨hx1, hx2⟩ := id hX
      have tail : ∀ (σ5 : xSg) (acc2 : Option (List Nat × Nat × Nat)) (vs : List Value), vs = [.ref (ad 4), .int (nI (lF acc2)), .int (nI (lS acc2)), .int 1, .int (nI t)] → LI σ σ5 C mk g s hh ww mo mi ou acc2 → LX σ5 (cntB (abF C ou) 4) (cntB (bzF hh ww) 8) xs → bstS (fun xs => keyA (asg (bzF hh ww) (gDn (ablL C mk)) xs) (mvF hh ww) mo mi g s) acc xs = acc2 → lF acc2 ≤ 1000000 → lS acc2 ≤ 1000000 → xJ pp l ee { frames := 4, cells := 0, slots := 0, locals := 40 * 4 } ss mm aa bb me cde 0 0 (MQ bb (va_Qi (fun r u => MB u C mk g s hh ww mo mi ou r ∧ MO σ u) (fun u t => va_P D vCl (wC ad cI cZ cJ u) t.heap ∧ va_D AA (wC ad cI cZ cJ u)) AA) aa ss 0 0 AA) D vCl AA 5 (va_S AA ss.heap) (wC ad cI cZ cJ σ5) vs 104 [] := by
        intro σ5 acc2 vs hvs hI2 hX2 hb2 hF2 hS2
        subst hvs
        refine x_aload_n G 0 dS_makeBest_104 rfl rfl ?_
        refine x_callV0i G (cS_nextChoice (na := (cntB (abF C ou) 4)) (xs := xs) (by rw [hX2.1]; exact hI2.2.1.1) (by rw [hX2.1]; exact hnb8) hI2.2.1.2.2.1 hna hna4 hX2.2) 4 rfl rfl (cV G.2.2.2.2.1 wd_322 wd_324 wd_16 wd_54 wd_325 (by decide +kernel) ⟨(Nat.le_of_ble_eq_true rfl), (Nat.le_of_ble_eq_true rfl)⟩) dS_makeBest_105 (Nat.le_of_ble_eq_true rfl) ⟨Nat.zero_le _, Nat.zero_le _⟩ (fun r105 u105 e105 => ?_)
        obtain ⟨σ6, hz⟩ : ∃ z, z = u105 := ⟨_, rfl⟩
        subst hz
        unfold NX at e105
        cases hnx : nxtL (cntB (abF C ou) 4) xs with
        | none =>
          rw [hnx] at e105
          obtain ⟨rfl, rfl⟩ := e105
          refine x_istore_n G 3 dS_makeBest_108 rfl (by decide) ?_
          refine x_iinc G (nI (t + 1)) dS_makeBest_109 rfl (nI_1 t) (by decide) ?_
          refine x_goto G 24 dS_makeBest_112 (by decide) ?_
          refine x_iload_n G 3 dS_makeBest_24 rfl rfl ?_
          refine x_if_eq G 115 dS_makeBest_25 (by decide) (fun h25 => ?_) (fun h25 => absurd rfl h25)
          have hT2 : bstL (fun xs => keyA (asg (bzF hh ww) (gDn (ablL C mk)) xs) (mvF hh ww) mo mi g s) (enL (cntB (abF C ou) 4) 165 (zrL (cntB (bzF hh ww) 8))) none = acc2 := by rw [hT, enL_s]; simp only [hnx]; rw [bstL_cons, bstL_nil]; exact hb2
          refine ends σ6 acc2 _ rfl hna hI2 hT2 ?_
          rw [← hT2]
          exact hsome hna
        | some ys =>
          rw [hnx] at e105
          obtain ⟨rfl, hy1, hy2, hy3⟩ := e105
          refine x_istore_n G 3 dS_makeBest_108 rfl (by decide) ?_
          refine x_iinc G (nI (t + 1)) dS_makeBest_109 rfl (nI_1 t) (by decide) ?_
          refine x_goto G 24 dS_makeBest_112 (by decide) ?_
          exact ih (t + 1) (by omega) σ6 ys acc2 hna ⟨hI2.1.tr (fun q hq => hy3 q (by omega)), ⟨by rw [hy3 4 (by omega)]; exact hI2.2.1.1, fun b h1 h2 => by rw [hy3 21 (by omega)]; exact hI2.2.1.2.1 b h1 h2, by rw [hy3 4 (by omega)]; exact hI2.2.1.2.2.1, fun c h1 h2 => by rw [hy3 22 (by omega)]; exact hI2.2.1.2.2.2 c h1 h2⟩, fun zs f st he => by rw [hy3 24 (by omega)]; exact hI2.2.2 zs f st he⟩ ⟨by rw [hy1]; exact hX2.1, fun i hi => ⟨hy2 i (by omega), nxtL_lt hnx (fun i hi => (hX2.2 i hi).2) i (by omega)⟩⟩ (by unfold enE at hE; rw [hnx] at hE; exact hE) (by rw [hT, enL_s]; simp only [hnx]; rw [bstL_cons, hb2]) hF2 hS2
      refine x_iload_n G 3 dS_makeBest_24 rfl rfl ?_
      refine x_if_eq G 115 dS_makeBest_25 (by decide) (fun h25 => (by exact absurd h25 (by decide))) (fun h25 => ?_)
      refine x_iload G dS_makeBest_28 rfl ?_
      refine x_sipush G (165) dS_makeBest_30 (by decide) ?_
      refine x_icmp_ge G 115 dS_makeBest_33 (by decide) (fun h33 => (by exact absurd h33 (nI_ge (show t < 165 by omega) (by decide)))) (fun h33 => ?_)
      refine x_aload_n G 0 dS_makeBest_36 rfl rfl ?_
      refine x_aload_n G 0 dS_makeBest_37 rfl rfl ?_
      refine x_get G 4 rfl rfl 5 (by decide) rfl (fun w h => .tail _ (iS_ok w h)) (.tail _ wd_195) rfl dS_makeBest_38 ?_
      refine x_callV1v G (cS_share23 (xs := xs) (ab := (gDn (ablL C mk))) (hM.PB hB) (by rw [hM 2 (by omega)]; exact hC) hC4 hG.1 hG.2.1 hG.2.2.1 hna4 (hab σ1 hG) hx1 hx2) 4 rfl rfl (cV G.2.2.2.2.1 wd_271 wd_273 wd_6 wd_54 wd_274 (by decide +kernel) ⟨(Nat.le_of_ble_eq_true rfl), (Nat.le_of_ble_eq_true rfl)⟩) dS_makeBest_41 (Nat.le_of_ble_eq_true rfl) ⟨Nat.zero_le _, Nat.zero_le _⟩ (fun u41 e41 => ?_)
      obtain ⟨σ2, hz⟩ : ∃ z, z = u41 := ⟨_, rfl⟩
      subst hz
      obtain ⟨t1, t2, t3, t4, t5⟩ := e41
      rw [asg_prA hbz8] at t1 t2
      have hM2 := hM.tr t5.mo
      have hX2 : LX σ2 (cntB (abF C ou) 4) (cntB (bzF hh ww) 8) xs := ⟨hx1, fun i hi => by rw [t5 23 (by omega) (by omega) (by omega) (by omega)]; exact hx2 i hi⟩
      have hG2 : GA σ2 (bzF hh ww) (abF C ou) := ⟨by rw [t5 4 (by omega) (by omega) (by omega) (by omega)]; exact hG.1, fun b h1 h2 => by rw [t5 21 (by omega) (by omega) (by omega) (by omega)]; exact hG.2.1 b h1 h2, by rw [t5 4 (by omega) (by omega) (by omega) (by omega)]; exact hG.2.2.1, fun c h1 h2 => by rw [t5 22 (by omega) (by omega) (by omega) (by omega)]; exact hG.2.2.2 c h1 h2⟩
      have hI2 : LI σ σ2 C mk g s hh ww mo mi ou acc := ⟨hM2, hG2, fun ys f st he => by rw [t5 24 (by omega) (by omega) (by omega) (by omega)]; exact hA ys f st he⟩
      refine x_aload_n G 0 dS_makeBest_44 rfl rfl ?_
      refine x_get G 4 rfl rfl 2 (by decide) rfl (fun w h => .tail _ (iS_ok w h)) (.tail _ wd_192) rfl dS_makeBest_45 ?_
      refine x_call0VN0i G (cT_keepsApart (g := g) t1 (by rw [hM2 2 (by omega)]; exact hg) hg3) 3 rfl rfl (cVN G.2.2.2.2.1 G.2.2.2.2.2.2.1 nd_286 wd_288 wd_9 wd_53 wd_289 (by decide +kernel) ⟨(Nat.le_of_ble_eq_true rfl), (Nat.le_of_ble_eq_true rfl)⟩) dS_makeBest_48 (Nat.le_of_ble_eq_true rfl) ⟨Nat.zero_le _, Nat.zero_le _⟩ (fun r48 e48 => ?_)
      subst e48
      refine x_if_eq G 104 dS_makeBest_51 (by decide) (fun h51 => ?_) (fun h51 => ?_)
      · have h51 := bI_eq0.mp h51
        first
        | exact tail σ2 acc _ rfl hI2 hX2 (bstS_none (by show keyA _ _ _ _ _ _ = none; unfold keyA; rw [if_neg h51])) hF hSs
        | exact tail σ3 acc _ rfl hI3 hX3 (bstS_f hkey (by omega) h70) hF hSs
        | exact tail _ (some (xs, fiG (fun b => decide (0 ≤ (asg (bzF hh ww) (gDn (ablL C mk)) xs) b ∧ (asg (bzF hh ww) (gDn (ablL C mk)) xs) b < 4)) (enA (asg (bzF hh ww) (gDn (ablL C mk)) xs) (mvF hh ww) mo mi g s) 8, spA (asg (bzF hh ww) (gDn (ablL C mk)) xs) 8 4)) _ rfl ⟨hM3.tr (fun q hq => rst_ne (by omega)), ⟨by rw [rst_ne (by omega)]; exact hG3.1, fun b h1 h2 => by rw [rst_ne (by omega)]; exact hG3.2.1 b h1 h2, by rw [rst_ne (by omega)]; exact hG3.2.2.1, fun c h1 h2 => by rw [rst_ne (by omega)]; exact hG3.2.2.2 c h1 h2⟩, fun ys f st he => by cases he; exact ⟨hx1, fun i hi => ⟨by rw [rst_same, pk_cpy_in (Nat.zero_le _) (by omega), Nat.zero_add, Nat.sub_zero]; exact (hX3.2 i hi).1, (hX3.2 i hi).2⟩, hkey⟩⟩ ⟨hx1, fun i hi => by rw [rst_ne (by omega)]; exact hX3.2 i hi⟩ (bstS_t hkey h70) (by unfold lF; dsimp only; omega) (by unfold lS; dsimp only; omega)
      · have h51 := bI_ne0.mp h51
        refine x_aload_n G 0 dS_makeBest_54 rfl rfl ?_
        refine x_get G 4 rfl rfl 2 (by decide) rfl (fun w h => .tail _ (iS_ok w h)) (.tail _ wd_192) rfl dS_makeBest_55 ?_
        refine x_callVN0v G (cT_setTimes (n := n) (C := C) (hM2.PB hB) (hM2.PK hK) (hM2.PS hS) t1 h51 (hAC xs hx1 (fun i hi => (hx2 i hi).2)) t4) 3 rfl rfl (cVN G.2.2.2.2.1 G.2.2.2.2.2.2.1 nd_294 wd_296 wd_11 wd_53 wd_297 (by decide +kernel) ⟨(Nat.le_of_ble_eq_true rfl), (Nat.le_of_ble_eq_true rfl)⟩) dS_makeBest_58 (Nat.le_of_ble_eq_true rfl) ⟨Nat.zero_le _, Nat.zero_le _⟩ (fun u58 e58 => ?_)
        obtain ⟨σ3, hz⟩ : ∃ z, z = u58 := ⟨_, rfl⟩
        subst hz
        obtain ⟨m1, m2⟩ := e58
        have hM3 := hM2.tr m2.mo
        have hX3 : LX σ3 (cntB (abF C ou) 4) (cntB (bzF hh ww) 8) xs := ⟨hx1, fun i hi => by rw [m2.o (by omega)]; exact hX2.2 i hi⟩
        have hG3 : GA σ3 (bzF hh ww) (abF C ou) := ⟨by rw [m2.o (by omega)]; exact hG2.1, fun b h1 h2 => by rw [m2.o (by omega)]; exact hG2.2.1 b h1 h2, by rw [m2.o (by omega)]; exact hG2.2.2.1, fun c h1 h2 => by rw [m2.o (by omega)]; exact hG2.2.2.2 c h1 h2⟩
        have hI3 : LI σ σ3 C mk g s hh ww mo mi ou acc := ⟨hM3, hG3, fun ys f st he => by rw [m2.o (by omega)]; exact hI2.2.2 ys f st he⟩
        have hkey : keyA (asg (bzF hh ww) (gDn (ablL C mk)) xs) (mvF hh ww) mo mi g s = some (fiG (fun b => decide (0 ≤ (asg (bzF hh ww) (gDn (ablL C mk)) xs) b ∧ (asg (bzF hh ww) (gDn (ablL C mk)) xs) b < 4)) (enA (asg (bzF hh ww) (gDn (ablL C mk)) xs) (mvF hh ww) mo mi g s) 8, spA (asg (bzF hh ww) (gDn (ablL C mk)) xs) 8 4) := by unfold keyA; rw [if_pos h51]
        have hfb1 := hfb (asg (bzF hh ww) (gDn (ablL C mk)) xs)
        have hsb1 := hsb (asg (bzF hh ww) (gDn (ablL C mk)) xs)
        have hs11 : σ3 3 11 = nI (spA (asg (bzF hh ww) (gDn (ablL C mk)) xs) 8 4) := by rw [m2.2.1]; exact t2
        refine x_aload_n G 0 dS_makeBest_61 rfl rfl ?_
        refine x_get G 4 rfl rfl 2 (by decide) rfl (fun w h => .tail _ (iS_ok w h)) (.tail _ wd_192) rfl dS_makeBest_62 ?_
        refine x_iload_n G 1 dS_makeBest_65 rfl rfl ?_
        refine x_iload_n G 2 dS_makeBest_66 rfl rfl ?_
        refine x_call0VN2i G (cT_isBetterThan (f' := lF acc) (s' := lS acc) m1.2.2 hs11 (by omega) (by omega) (by omega) (by omega)) 3 rfl rfl (cVN G.2.2.2.2.1 G.2.2.2.2.2.2.1 nd_315 wd_317 wd_15 wd_53 wd_318 (by decide +kernel) ⟨(Nat.le_of_ble_eq_true rfl), (Nat.le_of_ble_eq_true rfl)⟩) dS_makeBest_67 (Nat.le_of_ble_eq_true rfl) ⟨Nat.zero_le _, Nat.zero_le _⟩ (fun r67 e67 => ?_)
        subst e67
        refine x_if_eq G 104 dS_makeBest_70 (by decide) (fun h70 => ?_) (fun h70 => ?_)
        · have h70 := bI_eq0.mp h70
          first
          | exact tail σ2 acc _ rfl hI2 hX2 (bstS_none (by show keyA _ _ _ _ _ _ = none; unfold keyA; rw [if_neg h51])) hF hSs
          | exact tail σ3 acc _ rfl hI3 hX3 (bstS_f hkey (by omega) h70) hF hSs
          | exact tail _ (some (xs, fiG (fun b => decide (0 ≤ (asg (bzF hh ww) (gDn (ablL C mk)) xs) b ∧ (asg (bzF hh ww) (gDn (ablL C mk)) xs) b < 4)) (enA (asg (bzF hh ww) (gDn (ablL C mk)) xs) (mvF hh ww) mo mi g s) 8, spA (asg (bzF hh ww) (gDn (ablL C mk)) xs) 8 4)) _ rfl ⟨hM3.tr (fun q hq => rst_ne (by omega)), ⟨by rw [rst_ne (by omega)]; exact hG3.1, fun b h1 h2 => by rw [rst_ne (by omega)]; exact hG3.2.1 b h1 h2, by rw [rst_ne (by omega)]; exact hG3.2.2.1, fun c h1 h2 => by rw [rst_ne (by omega)]; exact hG3.2.2.2 c h1 h2⟩, fun ys f st he => by cases he; exact ⟨hx1, fun i hi => ⟨by rw [rst_same, pk_cpy_in (Nat.zero_le _) (by omega), Nat.zero_add, Nat.sub_zero]; exact (hX3.2 i hi).1, (hX3.2 i hi).2⟩, hkey⟩⟩ ⟨hx1, fun i hi => by rw [rst_ne (by omega)]; exact hX3.2 i hi⟩ (bstS_t hkey h70) (by unfold lF; dsimp only; omega) (by unfold lS; dsimp only; omega)
        · have h70 := bI_ne0.mp h70
          refine x_aload_n G 0 dS_makeBest_73 rfl rfl ?_
          refine x_get G 4 rfl rfl 2 (by decide) rfl (fun w h => .tail _ (iS_ok w h)) (.tail _ wd_192) rfl dS_makeBest_74 ?_
          refine x_getN G 3 rfl rfl 10 (by decide) rfl (fun w h => .tail _ (iT_ok w h)) nd_154 rfl dS_makeBest_77 ?_
          refine x_top m1.2.2 ?_
          refine x_istore_n G 1 dS_makeBest_80 rfl (by decide) ?_
          refine x_aload_n G 0 dS_makeBest_81 rfl rfl ?_
          refine x_get G 4 rfl rfl 2 (by decide) rfl (fun w h => .tail _ (iS_ok w h)) (.tail _ wd_192) rfl dS_makeBest_82 ?_
          refine x_getN G 3 rfl rfl 11 (by decide) rfl (fun w h => .tail _ (iT_ok w h)) nd_157 rfl dS_makeBest_85 ?_
          refine x_top hs11 ?_
          refine x_istore_n G 2 dS_makeBest_88 rfl (by decide) ?_
          refine x_aload_n G 0 dS_makeBest_89 rfl rfl ?_
          refine x_get G 4 rfl rfl 5 (by decide) rfl (fun w h => .tail _ (iS_ok w h)) (.tail _ wd_195) rfl dS_makeBest_90 ?_
          refine x_iconst G (0) dS_makeBest_93 (by decide) ?_
          refine x_aload_n G 0 dS_makeBest_94 rfl rfl ?_
          refine x_get G 4 rfl rfl 6 (by decide) rfl (fun w h => .tail _ (iS_ok w h)) (.tail _ wd_196) rfl dS_makeBest_95 ?_
          refine x_iconst G (0) dS_makeBest_98 (by decide) ?_
          refine x_bipush G (8) dS_makeBest_99 (by decide) ?_
          refine x_copy G (n := 8) 23 24 0 rfl rfl rfl (by decide) wd_319 wd_321 wd_320 wd_62 (Nat.le_of_ble_eq_true rfl) (by decide) dS_makeBest_101 ?_
          refine x_eq wrow_24 rfl rfl rfl ?_
          first
          | exact tail σ2 acc _ rfl hI2 hX2 (bstS_none (by show keyA _ _ _ _ _ _ = none; unfold keyA; rw [if_neg h51])) hF hSs
          | exact tail σ3 acc _ rfl hI3 hX3 (bstS_f hkey (by omega) h70) hF hSs
          | exact tail _ (some (xs, fiG (fun b => decide (0 ≤ (asg (bzF hh ww) (gDn (ablL C mk)) xs) b ∧ (asg (bzF hh ww) (gDn (ablL C mk)) xs) b < 4)) (enA (asg (bzF hh ww) (gDn (ablL C mk)) xs) (mvF hh ww) mo mi g s) 8, spA (asg (bzF hh ww) (gDn (ablL C mk)) xs) 8 4)) _ rfl ⟨hM3.tr (fun q hq => rst_ne (by omega)), ⟨by rw [rst_ne (by omega)]; exact hG3.1, fun b h1 h2 => by rw [rst_ne (by omega)]; exact hG3.2.1 b h1 h2, by rw [rst_ne (by omega)]; exact hG3.2.2.1, fun c h1 h2 => by rw [rst_ne (by omega)]; exact hG3.2.2.2 c h1 h2⟩, fun ys f st he => by cases he; exact ⟨hx1, fun i hi => ⟨by rw [rst_same, pk_cpy_in (Nat.zero_le _) (by omega), Nat.zero_add, Nat.sub_zero]; exact (hX3.2 i hi).1, (hX3.2 i hi).2⟩, hkey⟩⟩ ⟨hx1, fun i hi => by rw [rst_ne (by omega)]; exact hX3.2 i hi⟩ (bstS_t hkey h70) (by unfold lF; dsimp only; omega) (by unfold lS; dsimp only; omega)
  refine x_aload_n G 0 dS_makeBest_0 rfl rfl ?_
  refine x_callV0v G (cS_gather hB hK) 4 rfl rfl (cV G.2.2.2.2.1 wd_249 wd_251 wd_1 wd_54 wd_252 (by decide +kernel) ⟨(Nat.le_of_ble_eq_true rfl), (Nat.le_of_ble_eq_true rfl)⟩) dS_makeBest_1 (Nat.le_of_ble_eq_true rfl) ⟨Nat.zero_le _, Nat.zero_le _⟩ (fun u1 e1 => ?_)
  obtain ⟨σ1, hz⟩ : ∃ z, z = u1 := ⟨_, rfl⟩
  subst hz
  obtain ⟨g1, g2, g3⟩ := e1
  refine x_aload_n G 0 dS_makeBest_4 rfl rfl ?_
  refine x_get G 4 rfl rfl 8 (by decide) rfl (fun w h => .tail _ (iS_ok w h)) (.tail _ wd_198) rfl dS_makeBest_5 ?_
  refine x_if_ne G 13 dS_makeBest_8 (by decide) (fun h8 => ?_) (fun h8 => ?_)
  · have hna : 0 < (cntB (abF C ou) 4) := by rcases Nat.eq_zero_or_pos (cntB (abF C ou) 4) with z | z; (· rw [g1.2.2.1, z] at h8; exact absurd rfl h8); (· exact z)
    refine x_ldc G 1000000 dS_makeBest_13 (by decide +kernel) ?_
    refine x_istore_n G 1 dS_makeBest_15 rfl (by decide) ?_
    refine x_ldc G 1000000 dS_makeBest_16 (by decide +kernel) ?_
    refine x_istore_n G 2 dS_makeBest_18 rfl (by decide) ?_
    refine x_iconst G (1) dS_makeBest_19 (by decide) ?_
    refine x_istore_n G 3 dS_makeBest_20 rfl (by decide) ?_
    refine x_iconst G (0) dS_makeBest_21 (by decide) ?_
    refine x_istore G dS_makeBest_22 (by decide) ?_
    exact loop 165 0 (by omega) σ1 (zrL (cntB (bzF hh ww) 8)) none hna ⟨g3.mo, g1, fun ys f st he => by cases he⟩ ⟨by simp [zrL], fun i hi => by simp [zrL] at hi; rw [g2 i (by omega)]; have e : gDn (zrL (cntB (bzF hh ww) 8)) i = 0 := (by unfold gDn zrL; rw [List.getD_eq_getElem?_getD, List.getElem?_replicate, if_pos (by omega)]; rfl); rw [e]; exact ⟨rfl, hna⟩⟩ (end_of hna hna4 hnb8) rfl (Nat.le_refl _) (Nat.le_refl _)
  · have hna : (cntB (abF C ou) 4) = 0 := by rw [g1.2.2.1, show (0 : Int32) = nI 0 from rfl, nI_eq (by omega) (by omega)] at h8; exact h8
    refine x_iconst G (0) dS_makeBest_11 (by decide) ?_
    exact x_reti G hr hlk rfl dS_makeBest_12 ⟨Or.inl ⟨hna, rfl⟩, g3.mo⟩
