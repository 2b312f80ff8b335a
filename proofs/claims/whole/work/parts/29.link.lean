/-! THE BEST SHARING, AS BOTH FIND IT -/
def BST (n C g s : Nat) (hh ww mo mi : Nat → Nat) (ou : Nat → Bool) : Option (List Nat × Nat × Nat) := if 0 < abS ou C then bstL (keyM n g s hh ww mo mi ou) (enL C 165 (zrL (cntB (bzF hh ww) n))) none else none
theorem nxtL_len {k : Nat} {xs ys : List Nat} (h : nxtL k xs = some ys) : ys.length = xs.length := by
  unfold nxtL at h
  cases hl : lastLt (gDn xs) k xs.length with
  | none => rw [hl] at h; cases h
  | some j => rw [hl] at h; cases h; simp
theorem enL_mem {k nb : Nat} : ∀ {f : Nat} {xs ys : List Nat}, xs.length = nb → (∀ i, i < xs.length → gDn xs i < k) → ys ∈ enL k f xs → ys.length = nb ∧ ∀ i, i < ys.length → gDn ys i < k
  | 0, xs, ys, _, _, h => by simp [enL] at h
  | f + 1, xs, ys, hl, hx, h => by
    rw [enL_s] at h
    rcases List.mem_cons.mp h with rfl | h
    · exact ⟨hl, hx⟩
    · cases hn : nxtL k xs with
      | none => rw [hn] at h; cases h
      | some zs =>
        rw [hn] at h
        have h1 := nxtL_len hn
        exact enL_mem (h1.trans hl) (fun i hi => nxtL_lt hn hx i (by omega)) h
theorem bst_inv {key : List Nat → Option (Nat × Nat)} {P : List Nat → Prop} : ∀ (L : List (List Nat)) (acc : Option (List Nat × Nat × Nat)), (∀ x ∈ L, P x) → (∀ y f s, acc = some (y, f, s) → P y ∧ key y = some (f, s)) → ∀ y f s, bstL key L acc = some (y, f, s) → P y ∧ key y = some (f, s)
  | [], acc, _, h, y, f, s, he => h y f s he
  | x :: L, acc, hL, h, y, f, s, he => by
    rw [bstL_cons] at he
    refine bst_inv L _ (fun z hz => hL z (List.mem_cons_of_mem _ hz)) (fun y' f' s' h' => ?_) y f s he
    unfold bstS at h'
    cases hk : key x with
    | none => rw [hk] at h'; exact h y' f' s' h'
    | some q =>
      obtain ⟨a, b⟩ := q
      rw [hk] at h'
      cases acc with
      | none => cases h'; exact ⟨hL x List.mem_cons_self, hk⟩
      | some r =>
        obtain ⟨y0, f0, s0⟩ := r
        dsimp only at h'
        split at h'
        · cases h'; exact ⟨hL x List.mem_cons_self, hk⟩
        · exact h y' f' s' h'
theorem BST_key {n C g s : Nat} {hh ww mo mi : Nat → Nat} {ou : Nat → Bool} (hC : 1 ≤ C) {ys : List Nat} {f st : Nat} (h : BST n C g s hh ww mo mi ou = some (ys, f, st)) : ys.length = cntB (bzF hh ww) n ∧ (∀ i, i < ys.length → gDn ys i < C) ∧ keyM n g s hh ww mo mi ou ys = some (f, st) ∧ 0 < abS ou C := by
  unfold BST at h
  by_cases ha : 0 < abS ou C
  · rw [if_pos ha] at h
    obtain ⟨h1, h2⟩ := bst_inv (P := fun ys => ys.length = cntB (bzF hh ww) n ∧ ∀ i, i < ys.length → gDn ys i < C) _ none (fun x hx => enL_mem (by simp [zrL]) (fun i hi => by rw [gDn_zr]; omega) hx) (fun y f s he => by cases he) ys f st h
    exact ⟨h1.1, h1.2, h2, ha⟩
  · rw [if_neg ha] at h; cases h
theorem keyM_A {n g s : Nat} {hh ww mo mi : Nat → Nat} {ou : Nat → Bool} {ys : List Nat} {f st : Nat} (h : keyM n g s hh ww mo mi ou ys = some (f, st)) : (apA (sprB (bzF hh ww) ys) 8 g 4).2 = true ∧ f = EJ (sprB (bzF hh ww) ys) (mvF hh ww) mo mi g s 0 ∧ st = spA (sprB (bzF hh ww) ys) 8 4 := by
  unfold keyM at h
  split at h
  · unfold keyA at h
    split at h
    · rename_i h1 h2
      cases h
      exact ⟨h2, rfl, rfl⟩
    · cases h
  · cases h
theorem abS_cnt {ou : Nat → Bool} {C : Nat} : ∀ {k : Nat}, k ≤ C → abS ou k = cntB (abF C ou) k
  | 0, _ => rfl
  | k + 1, h => by
    have ih := abS_cnt (ou := ou) (k := k) (show k ≤ C by omega)
    cases ho : ou k with
    | true => rw [cntB_z (by simp [abF, ho]), ← ih]; simp [abS, ho]
    | false => rw [cntB_s (by simp [abF, ho]; omega), ← ih]; simp [abS, ho]
theorem abS_4 {ou : Nat → Bool} {C : Nat} (hC : C ≤ 4) : abS ou C = cntB (abF C ou) 4 := by
  rw [abS_cnt (Nat.le_refl C)]
  have := cntB_flat (P := abF C ou) (k := C) (fun c hc => by simp [abF]; omega) (4 - C)
  rw [show C + (4 - C) = 4 by omega] at this
  exact this.symm
theorem alw_iff {A : Nat → Nat} {ou : Nat → Bool} : ∀ {n : Nat}, alw A ou n = true ↔ ∀ b, b < n → A b < 4 → ou (A b) = false
  | 0 => by simp [alw]
  | n + 1 => by
    have ih := alw_iff (A := A) (ou := ou) (n := n)
    unfold alw
    rw [Bool.and_eq_true, ih]
    constructor
    · rintro ⟨h1, h2⟩ b hb h4
      rcases (show b < n ∨ b = n by omega) with z | z
      · exact h1 b z h4
      · subst z; simpa [h4] using h2
    · intro h
      refine ⟨fun b hb => h b (by omega), ?_⟩
      by_cases h4 : A n < 4
      · simp [h n (by omega) h4]
      · simp [h4]
theorem gDn_mem {xs : List Nat} {x : Nat} (h : x ∈ xs) : ∃ i, i < xs.length ∧ gDn xs i = x := mem_getD h
theorem alw_all {n C m : Nat} {hh ww : Nat → Nat} {ou : Nat → Bool} (hC4 : C ≤ 4) (hz : ∀ b, bzF hh ww b = true → b < n) (hm : ∀ c, c < C → mskL m c = !ou c) {xs : List Nat} (hl : xs.length = cntB (bzF hh ww) n) (hx : ∀ i, i < xs.length → gDn xs i < C) : alw (sprB (bzF hh ww) xs) ou n = true ↔ xs.all (mskL m) = true := by
  rw [alw_iff, List.all_eq_true]
  constructor
  · intro h x hxm
    obtain ⟨i, hi, rfl⟩ := gDn_mem hxm
    obtain ⟨b, h1, h2, h3⟩ := cntB_has (hl ▸ hi)
    have e : sprB (bzF hh ww) xs b = gDn xs i := by unfold sprB; rw [if_pos h2, h3]
    have := hx i hi
    have h4 := h b h1 (by rw [e]; omega)
    rw [e] at h4
    rw [hm _ this, h4]; rfl
  · intro h b hb h4
    by_cases hzb : bzF hh ww b = true
    · have hi : cntB (bzF hh ww) b < xs.length := by rw [hl]; exact (cntB_lt hzb).mpr hb
      have e : sprB (bzF hh ww) xs b = gDn xs (cntB (bzF hh ww) b) := by unfold sprB; rw [if_pos hzb]
      have h5 := h (gDn xs (cntB (bzF hh ww) b)) (getD_mem hi)
      rw [hm _ (hx _ hi)] at h5
      rw [e]; simpa using h5
    · rw [spr_no hzb] at h4; omega
theorem BST_8 {n : Nat} {hh ww : Nat → Nat} (hn : n ≤ 8) (hz : ∀ b, bzF hh ww b = true → b < n) : cntB (bzF hh ww) 8 = cntB (bzF hh ww) n := by
  have := cntB_flat (P := bzF hh ww) (k := n) (fun c hc => by cases h : bzF hh ww c with | false => rfl | true => have := hz c h; omega) (8 - n)
  rw [show n + (8 - n) = 8 by omega] at this
  exact this
/-- what the class's search leaves is the best of all cranes' sharings -/
theorem MB_BST {u : xSg} {n C m g s : Nat} {hh ww mo mi : Nat → Nat} {ou : Nat → Bool} {r : Int32} (hn : n ≤ 8) (hz : ∀ b, bzF hh ww b = true → b < n) (hC1 : 1 ≤ C) (hC4 : C ≤ 4) (hm2 : m < 2 ^ C) (hm : ∀ c, c < C → mskL m c = !ou c) (h : MB u C m g s hh ww mo mi ou r) :
    (BST n C g s hh ww mo mi ou = none ∧ r = 0) ∨ ∃ ys f st, BST n C g s hh ww mo mi ou = some (ys, f, st) ∧ r = 1 ∧ PLN u (sprB (bzF hh ww) ys) (mvF hh ww) mo mi g s := by
  rcases h with ⟨h1, h2⟩ | ⟨h1, h2, xs, f, st, h3, h4, h5, h6⟩
  · exact Or.inl ⟨by unfold BST; rw [if_neg (by rw [abS_4 hC4, h1]; omega)], h2⟩
  · right
    have hlen := abl_len hC4 hm
    have hab : (ablL C m).isEmpty = false := by
      cases hq : ablL C m with
      | nil => rw [hq] at hlen; simp at hlen; omega
      | cons a t => rfl
    have hbs := best_same (keyA := fun xs => keyA (sprB (bzF hh ww) xs) (mvF hh ww) mo mi g s) (n := cntB (bzF hh ww) n) hC1 hC4 (Nat.le_trans (cntB_le n) hn) hm2 hab
    rw [hlen] at hbs
    rw [BST_8 hn hz] at h3
    have h3' : bstL (fun xs => keyA (sprB (bzF hh ww) (xs.map (gDn (ablL C m)))) (mvF hh ww) mo mi g s) (enL (cntB (abF C ou) 4) 165 (zrL (cntB (bzF hh ww) n))) none = some (xs, f, st) := h3
    rw [h3'] at hbs
    have hk : bstL (keyM n g s hh ww mo mi ou) (enL C 165 (zrL (cntB (bzF hh ww) n))) none = some (xs.map (gDn (ablL C m)), f, st) := by
      refine Eq.trans (bstL_congr (fun x hx => ?_)) hbs
      obtain ⟨q1, q2⟩ := enL_mem (nb := cntB (bzF hh ww) n) (by simp [zrL]) (fun i hi => by rw [gDn_zr]; omega) hx
      have := alw_all (m := m) hC4 hz hm q1 q2
      unfold keyM
      by_cases ha : alw (sprB (bzF hh ww) x) ou n = true
      · rw [if_pos ha, if_pos (this.mp ha)]
      · rw [if_neg ha, if_neg (fun q => ha (this.mpr q))]
    refine ⟨xs.map (gDn (ablL C m)), f, st, ?_, h2, h6⟩
    unfold BST
    rw [if_pos (by rw [abS_4 hC4]; exact h1)]
    exact hk

