/-! the best of a list: the first of least finish, then of fewest steps; key none: not allowed -/
def bstS (key : List Nat → Option (Nat × Nat)) (acc : Option (List Nat × Nat × Nat)) (x : List Nat) : Option (List Nat × Nat × Nat) :=
  match key x with
  | none => acc
  | some (f, s) => match acc with
    | none => some (x, f, s)
    | some (y, f', s') => if f < f' ∨ (f = f' ∧ s < s') then some (x, f, s) else some (y, f', s')
def bstL (key : List Nat → Option (Nat × Nat)) (L : List (List Nat)) (acc : Option (List Nat × Nat × Nat)) : Option (List Nat × Nat × Nat) := L.foldl (bstS key) acc
theorem bstL_nil {key : List Nat → Option (Nat × Nat)} {acc : Option (List Nat × Nat × Nat)} : bstL key [] acc = acc := rfl
theorem bstL_cons {key : List Nat → Option (Nat × Nat)} {x : List Nat} {L : List (List Nat)} {acc : Option (List Nat × Nat × Nat)} : bstL key (x :: L) acc = bstL key L (bstS key acc x) := rfl
theorem bstL_filter {key : List Nat → Option (Nat × Nat)} {P : List Nat → Bool} (h : ∀ x, P x = false → key x = none) : ∀ (L : List (List Nat)) (acc : Option (List Nat × Nat × Nat)), bstL key (L.filter P) acc = bstL key L acc
  | [], acc => rfl
  | x :: L, acc => by
    rw [bstL_cons]
    cases hp : P x with
    | true =>
      rw [List.filter_cons_of_pos (by simpa using hp), bstL_cons]
      exact bstL_filter h L _
    | false =>
      rw [List.filter_cons_of_neg (by simp [hp])]
      have e : bstS key acc x = acc := by unfold bstS; rw [h x hp]
      rw [e]
      exact bstL_filter h L _
theorem bstS_map {key : List Nat → Option (Nat × Nat)} {f : List Nat → List Nat} {acc : Option (List Nat × Nat × Nat)} {x : List Nat} : bstS key (acc.map (fun q => (f q.1, q.2))) (f x) = (bstS (fun z => key (f z)) acc x).map (fun q => (f q.1, q.2)) := by
  unfold bstS
  dsimp only
  cases hk : key (f x) with
  | none => rfl
  | some q =>
    obtain ⟨a, b⟩ := q
    cases acc with
    | none => rfl
    | some r =>
      obtain ⟨y, c, d⟩ := r
      simp only [Option.map_some]
      split <;> rfl
theorem bstL_map {key : List Nat → Option (Nat × Nat)} {f : List Nat → List Nat} : ∀ (L : List (List Nat)) (acc : Option (List Nat × Nat × Nat)), bstL key (L.map f) (acc.map (fun q => (f q.1, q.2))) = (bstL (fun z => key (f z)) L acc).map (fun q => (f q.1, q.2))
  | [], acc => rfl
  | x :: L, acc => by
    rw [List.map_cons, bstL_cons, bstL_cons, bstS_map]
    exact bstL_map L _
/-! rows in order -/
def ahd (bg cr : Nat → Nat) (x y : Nat) : Prop := bg x < bg y ∨ (bg x = bg y ∧ cr x < cr y)
theorem ahd_irr {bg cr : Nat → Nat} {x : Nat} : ¬ ahd bg cr x x := by unfold ahd; omega
theorem ahd_tr {bg cr : Nat → Nat} {x y z : Nat} (h1 : ahd bg cr x y) (h2 : ahd bg cr y z) : ahd bg cr x z := by unfold ahd at *; omega
theorem ahd_as {bg cr : Nat → Nat} {x y : Nat} (h1 : ahd bg cr x y) : ¬ ahd bg cr y x := by unfold ahd at *; omega
theorem ins_ok {bg cr : Nat → Nat} {L : List Nat} {k b : Nat} (hs : L.Pairwise (ahd bg cr)) (h1 : ∀ x ∈ L.drop k, ahd bg cr b x) (h2 : ∀ x ∈ L.take k, ahd bg cr x b) : (L.take k ++ b :: L.drop k).Pairwise (ahd bg cr) := by
  have hs' : (L.take k ++ L.drop k).Pairwise (ahd bg cr) := by rw [List.take_append_drop]; exact hs
  obtain ⟨p1, p2, p3⟩ := List.pairwise_append.mp hs'
  refine List.pairwise_append.mpr ⟨p1, List.pairwise_cons.mpr ⟨fun x hx => h1 x hx, p2⟩, fun x hx y hy => ?_⟩
  rcases List.mem_cons.mp hy with rfl | hy
  · exact h2 x hx
  · exact p3 x hx y hy
theorem cnt_sorted {bg cr : Nat → Nat} : ∀ {L : List Nat}, L.Pairwise (ahd bg cr) → ∀ (i : Nat) (h : i < L.length) (q : Nat → Bool), (∀ x, q x = true ↔ ahd bg cr x (L[i])) → L.countP q = i
  | [], _, i, h, _, _ => by simp at h
  | a :: L, hs, 0, h, q, hq => by
    obtain ⟨p1, p2⟩ := List.pairwise_cons.mp hs
    rw [List.countP_eq_zero]
    intro x hx hqx
    have h1 : ahd bg cr x a := (hq x).mp hqx
    rcases List.mem_cons.mp hx with rfl | hx
    · exact ahd_irr h1
    · exact ahd_as (p1 x hx) h1
  | a :: L, hs, i + 1, h, q, hq => by
    obtain ⟨p1, p2⟩ := List.pairwise_cons.mp hs
    have hi : i < L.length := by simpa using h
    have ha : q a = true := (hq a).mpr (p1 _ (List.getElem_mem hi))
    rw [List.countP_cons_of_pos ha, cnt_sorted p2 i hi q hq]
/-! bays with work, and a sharing of them as what each bay has -/
def cntB (bz : Nat → Bool) : Nat → Nat
  | 0 => 0
  | k + 1 => cntB bz k + (if bz k = true then 1 else 0)
def sprB (bz : Nat → Bool) (xs : List Nat) (b : Nat) : Nat := if bz b = true then gDn xs (cntB bz b) else 9
def lastB (bz : Nat → Bool) (x : Nat → Nat) (k : Nat) : Nat → Option Nat
  | 0 => none
  | b + 1 => if bz b = true ∧ x b + 1 < k then some b else lastB bz x k b
theorem cntB_mono {bz : Nat → Bool} {a : Nat} : ∀ {b : Nat}, a ≤ b → cntB bz a ≤ cntB bz b
  | 0, h => by have : a = 0 := by omega
               subst this; exact Nat.le_refl _
  | b + 1, h => by
    rcases (show a ≤ b ∨ a = b + 1 by omega) with h1 | rfl
    · have := cntB_mono (bz := bz) h1
      have e : cntB bz (b + 1) = cntB bz b + (if bz b = true then 1 else 0) := rfl
      rw [e]
      omega
    · exact Nat.le_refl _
theorem cntB_lt {bz : Nat → Bool} {a b : Nat} (ha : bz a = true) : cntB bz a < cntB bz b ↔ a < b := by
  constructor
  · intro h
    rcases Nat.lt_or_ge a b with q | q
    · exact q
    · have := cntB_mono (bz := bz) q
      omega
  · intro h
    have h1 := cntB_mono (bz := bz) (show a + 1 ≤ b from h)
    have h2 : cntB bz (a + 1) = cntB bz a + 1 := by simp [cntB, ha]
    omega
theorem cntB_inj {bz : Nat → Bool} {a b : Nat} (ha : bz a = true) (hb : bz b = true) (h : cntB bz a = cntB bz b) : a = b := by
  rcases Nat.lt_trichotomy a b with q | q | q
  · have := (cntB_lt (b := b) ha).mpr q; omega
  · exact q
  · have := (cntB_lt (b := a) hb).mpr q; omega
theorem cntB_le {bz : Nat → Bool} : ∀ (k : Nat), cntB bz k ≤ k
  | 0 => Nat.le_refl _
  | k + 1 => by
    have := cntB_le (bz := bz) k
    have e : cntB bz (k + 1) = cntB bz k + (if bz k = true then 1 else 0) := rfl
    rw [e]
    split <;> omega
theorem cntB_has {bz : Nat → Bool} : ∀ {n i : Nat}, i < cntB bz n → ∃ b, b < n ∧ bz b = true ∧ cntB bz b = i
  | 0, i, h => by simp [cntB] at h
  | n + 1, i, h => by
    unfold cntB at h
    rcases Nat.lt_or_ge i (cntB bz n) with q | q
    · obtain ⟨b, h1, h2, h3⟩ := cntB_has q
      exact ⟨b, by omega, h2, h3⟩
    · by_cases hb : bz n = true
      · rw [if_pos hb] at h
        exact ⟨n, by omega, hb, by omega⟩
      · rw [if_neg hb] at h
        omega
theorem lastB_eq {bz : Nat → Bool} {xs : List Nat} {k : Nat} : ∀ (b : Nat), lastLt (gDn xs) k (cntB bz b) = (lastB bz (sprB bz xs) k b).map (cntB bz)
  | 0 => rfl
  | b + 1 => by
    have ih := lastB_eq (bz := bz) (xs := xs) (k := k) b
    by_cases hb : bz b = true
    · have e : cntB bz (b + 1) = cntB bz b + 1 := by simp [cntB, hb]
      have e2 : sprB bz xs b = gDn xs (cntB bz b) := by simp [sprB, hb]
      rw [e]
      unfold lastLt lastB
      rw [e2]
      by_cases hx : gDn xs (cntB bz b) + 1 < k
      · rw [if_pos hx, if_pos ⟨hb, hx⟩]; rfl
      · rw [if_neg hx, if_neg (fun q => hx q.2)]; exact ih
    · have e : cntB bz (b + 1) = cntB bz b := by simp [cntB, hb]
      rw [e]
      unfold lastB
      rw [if_neg (fun q => hb q.1)]
      exact ih
theorem lastB_some {bz : Nat → Bool} {x : Nat → Nat} {k : Nat} : ∀ {n b : Nat}, lastB bz x k n = some b → b < n ∧ bz b = true ∧ x b + 1 < k
  | 0, b, h => by simp [lastB] at h
  | n + 1, b, h => by
    unfold lastB at h
    by_cases hq : bz n = true ∧ x n + 1 < k
    · rw [if_pos hq] at h
      cases h
      exact ⟨by omega, hq.1, hq.2⟩
    · rw [if_neg hq] at h
      obtain ⟨h1, h2, h3⟩ := lastB_some h
      exact ⟨by omega, h2, h3⟩
theorem gDn_map {n i : Nat} {f : Nat → Nat} (h : i < n) : gDn ((List.range n).map f) i = f i := by
  unfold gDn
  simp [List.getD_eq_getElem?_getD, h]
theorem nxtL_none {bz : Nat → Bool} {xs : List Nat} {k n : Nat} (hn : xs.length = cntB bz n) (h : lastB bz (sprB bz xs) k n = none) : nxtL k xs = none := by
  unfold nxtL
  rw [hn, lastB_eq, h]; rfl
theorem nxtL_some {bz : Nat → Bool} {xs : List Nat} {k n b0 : Nat} (hn : xs.length = cntB bz n) (h : lastB bz (sprB bz xs) k n = some b0) :
    ∃ ys, nxtL k xs = some ys ∧ ys.length = xs.length ∧ ∀ b, b < n → sprB bz ys b = if bz b = true then (if b < b0 then sprB bz xs b else sprB bz xs b0 + 1) else 9 := by
  obtain ⟨h1, h2, h3⟩ := lastB_some h
  refine ⟨(List.range xs.length).map (fun j => if j < cntB bz b0 then gDn xs j else gDn xs (cntB bz b0) + 1), ?_, by simp, fun b hb => ?_⟩
  · unfold nxtL
    rw [hn, lastB_eq, h]; rfl
  · by_cases hz : bz b = true
    · have hlt : cntB bz b < xs.length := by rw [hn]; exact (cntB_lt hz).mpr hb
      rw [if_pos hz]
      unfold sprB
      rw [if_pos hz, gDn_map hlt, if_pos h2]
      by_cases hq : b < b0
      · rw [if_pos hq, if_pos ((cntB_lt hz).mpr hq), if_pos hz]
      · rw [if_neg hq, if_neg (fun q => hq ((cntB_lt hz).mp q))]
    · rw [if_neg hz]
      unfold sprB
      rw [if_neg hz]
