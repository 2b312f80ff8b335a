/-! one more bay is given; the sharings of the able cranes among all -/
theorem fstA_is {A : Nat → Nat} {c k f : Nat} (h1 : f < k) (h2 : A f = c) (h3 : ∀ b, b < f → A b ≠ c) : fstA A c k = some f := by
  cases h : fstA A c k with
  | none => exact absurd h2 (fstA_none.mp h f h1)
  | some g =>
    obtain ⟨q1, q2, q3⟩ := fstA_some h
    rcases Nat.lt_trichotomy f g with q | q | q
    · exact absurd h2 (q3 f q)
    · rw [q]
    · exact absurd q2 (h3 g q)
theorem lstA_is {A : Nat → Nat} {c k f : Nat} (h1 : f < k) (h2 : A f = c) (h3 : ∀ b, f < b → b < k → A b ≠ c) : lstA A c k = some f := by
  cases h : lstA A c k with
  | none => exact absurd h2 (lstA_none.mp h f h1)
  | some g =>
    obtain ⟨q1, q2, q3⟩ := lstA_some h
    rcases Nat.lt_trichotomy f g with q | q | q
    · exact absurd q2 (h3 g q q1)
    · rw [q]
    · exact absurd h2 (q3 f q h1)
theorem fstA_congr {A B : Nat → Nat} {c : Nat} : ∀ {k : Nat}, (∀ b, b < k → A b = B b) → fstA A c k = fstA B c k
  | 0, _ => rfl
  | k + 1, h => by
    unfold fstA
    rw [fstA_congr (k := k) (fun b hb => h b (by omega)), h k (by omega)]
theorem lstA_congr {A B : Nat → Nat} {c : Nat} : ∀ {k : Nat}, (∀ b, b < k → A b = B b) → lstA A c k = lstA B c k
  | 0, _ => rfl
  | k + 1, h => by
    unfold lstA
    rw [lstA_congr (k := k) (fun b hb => h b (by omega)), h k (by omega)]
theorem lst_of_fst {A : Nat → Nat} {c k f : Nat} (h : fstA A c k = some f) : ∃ l, lstA A c k = some l ∧ f ≤ l ∧ l < k ∧ A l = c := by
  obtain ⟨h1, h2, h3⟩ := fstA_some h
  cases hl : lstA A c k with
  | none => exact absurd h2 (lstA_none.mp hl f h1)
  | some l =>
    obtain ⟨q1, q2, q3⟩ := lstA_some hl
    refine ⟨l, rfl, ?_, q1, q2⟩
    rcases Nat.lt_or_ge l f with q | q
    · exact absurd q2 (h3 l q)
    · exact q
theorem lst_none_fst {A : Nat → Nat} {c k : Nat} (h : fstA A c k = none) : lstA A c k = none := lstA_none.mpr (fstA_none.mp h)
def upA (A : Nat → Nat) (b c : Nat) : Nat → Nat := fun x => if x = b then c else A x
theorem fstA_up {A : Nat → Nat} {b c k : Nat} (hA : ∀ x, b ≤ x → 4 ≤ A x) (hb : b < k) (hc : c < 4) : fstA (upA A b c) c k = some ((fstA A c k).getD b) := by
  cases h : fstA A c k with
  | none =>
    show _ = some b
    refine fstA_is hb (by simp [upA]) (fun x hx => ?_)
    have := fstA_none.mp h x (by omega)
    simp [upA, show x ≠ b by omega, this]
  | some f =>
    obtain ⟨q1, q2, q3⟩ := fstA_some h
    have hfb : f < b := by
      rcases Nat.lt_or_ge f b with q | q
      · exact q
      · have := hA f q; omega
    show _ = some f
    refine fstA_is q1 (by simp [upA, show f ≠ b by omega, q2]) (fun x hx => ?_)
    simp [upA, show x ≠ b by omega, q3 x hx]
theorem fstA_up' {A : Nat → Nat} {b c d k : Nat} (hd : d ≠ c) (hA : 4 ≤ A b) (hd4 : d < 4) : fstA (upA A b c) d k = fstA A d k := by
  cases h : fstA A d k with
  | none =>
    refine fstA_none.mpr (fun x hx => ?_)
    have := fstA_none.mp h x hx
    by_cases hx : x = b
    · simp [upA, hx]; omega
    · simp [upA, hx, this]
  | some f =>
    obtain ⟨q1, q2, q3⟩ := fstA_some h
    have hfb : f ≠ b := fun q => by rw [q] at q2; omega
    refine fstA_is q1 (by simp [upA, hfb, q2]) (fun x hx => ?_)
    by_cases hx : x = b
    · simp [upA, hx]; omega
    · simp [upA, hx, q3 x (by assumption)]
theorem lstA_up {A : Nat → Nat} {b c k : Nat} (hA : ∀ x, b ≤ x → 4 ≤ A x) (hb : b < k) (hc : c < 4) : lstA (upA A b c) c k = some b := by
  refine lstA_is hb (by simp [upA]) (fun x hx _ => ?_)
  have := hA x (by omega)
  simp [upA, show x ≠ b by omega]
  omega
theorem lstA_up' {A : Nat → Nat} {b c d k : Nat} (hd : d ≠ c) (hA : 4 ≤ A b) (hd4 : d < 4) : lstA (upA A b c) d k = lstA A d k := by
  cases h : lstA A d k with
  | none =>
    refine lstA_none.mpr (fun x hx => ?_)
    have := lstA_none.mp h x hx
    by_cases hx : x = b
    · simp [upA, hx]; omega
    · simp [upA, hx, this]
  | some f =>
    obtain ⟨q1, q2, q3⟩ := lstA_some h
    have hfb : f ≠ b := fun q => by rw [q] at q2; omega
    refine lstA_is q1 (by simp [upA, hfb, q2]) (fun x hx1 hx2 => ?_)
    by_cases hx : x = b
    · simp [upA, hx]; omega
    · simp [upA, hx, q3 x hx1 hx2]
theorem spA_up {A : Nat → Nat} {b c n : Nat} (hA : ∀ x, b ≤ x → 4 ≤ A x) (hb : b < n) (hc : c < 4) : ∀ {k : Nat}, k ≤ 4 → spA (upA A b c) n k = spA A n k + (if c < k then b - (lstA A c n).getD b else 0)
  | 0, _ => by simp [spA]
  | k + 1, hk => by
    have ih := spA_up hA hb hc (k := k) (by omega)
    unfold spA
    rw [ih]
    by_cases hck : c = k
    · subst hck
      rw [if_neg (by omega), if_pos (by omega), lstA_up hA hb hc, fstA_up hA hb hc]
      cases h : fstA A c n with
      | none =>
        rw [lst_none_fst h]
        simp
      | some f =>
        obtain ⟨l, h1, h2, h3, h4⟩ := lst_of_fst h
        rw [h1]
        have hlb : l < b := by
          rcases Nat.lt_or_ge l b with q | q
          · exact q
          · have := hA l q; omega
        simp only [Option.getD_some]
        omega
    · rw [lstA_up' (fun q => hck q.symm) (hA b (Nat.le_refl b)) (by omega), fstA_up' (fun q => hck q.symm) (hA b (Nat.le_refl b)) (by omega)]
      by_cases h1 : c < k
      · rw [if_pos h1, if_pos (by omega)]; omega
      · rw [if_neg h1, if_neg (by omega), Nat.add_zero, Nat.add_zero]
/-- the first i bays with work are given -/
def prA (bz : Nat → Bool) (xs : List Nat) (i b : Nat) : Nat := if bz b = true ∧ cntB bz b < i then gDn xs (cntB bz b) else 9
theorem prA_0 {bz : Nat → Bool} {xs : List Nat} : prA bz xs 0 = fun _ => 9 := by
  funext b; simp [prA]
theorem prA_succ {bz : Nat → Bool} {xs : List Nat} {i b : Nat} (hz : bz b = true) (hi : cntB bz b = i) : prA bz xs (i + 1) = upA (prA bz xs i) b (gDn xs i) := by
  funext x
  unfold upA
  dsimp only [prA]
  by_cases hx : x = b
  · subst hx
    rw [if_pos rfl, if_pos ⟨hz, by omega⟩, hi]
  · rw [if_neg hx]
    by_cases hzx : bz x = true
    · have hne : cntB bz x ≠ i := fun q => hx (cntB_inj hzx hz (by omega))
      by_cases hlt : cntB bz x < i
      · rw [if_pos ⟨hzx, by omega⟩, if_pos ⟨hzx, hlt⟩]
      · rw [if_neg (fun q => hlt (by omega)), if_neg (fun q => hlt q.2)]
    · rw [if_neg (fun q => hzx q.1), if_neg (fun q => hzx q.1)]
theorem prA_above {bz : Nat → Bool} {xs : List Nat} {i b : Nat} (hz : bz b = true) (hi : cntB bz b = i) : ∀ x, b ≤ x → 4 ≤ prA bz xs i x := by
  intro x hx
  unfold prA
  have := cntB_mono (bz := bz) hx
  rw [if_neg (fun q => by omega)]
  omega
theorem prA_all {bz : Nat → Bool} {xs : List Nat} {n b : Nat} (h : ∀ x, bz x = true → x < n) : prA bz xs (cntB bz n) b = sprB bz xs b := by
  unfold prA sprB
  by_cases hz : bz b = true
  · rw [if_pos hz, if_pos ⟨hz, (cntB_lt hz).mpr (h b hz)⟩]
  · rw [if_neg hz, if_neg (fun q => hz q.1)]
theorem bstL_congr {key key' : List Nat → Option (Nat × Nat)} : ∀ {L : List (List Nat)} {acc : Option (List Nat × Nat × Nat)}, (∀ x ∈ L, key x = key' x) → bstL key L acc = bstL key' L acc
  | [], _, _ => rfl
  | x :: L, acc, h => by
    have e : bstS key acc x = bstS key' acc x := by unfold bstS; rw [h x List.mem_cons_self]
    rw [bstL_cons, bstL_cons, e]
    exact bstL_congr (fun y hy => h y (List.mem_cons_of_mem _ hy))
theorem chk_of {C n m : Nat} (h1 : 1 ≤ C) (h4 : C ≤ 4) (hn : n ≤ 8) (hm : m < 2 ^ C) (hab : (ablL C m).isEmpty = false) : (enL C 165 (zrL n)).filter (fun xs => xs.all (mskL m)) = (enL (ablL C m).length 165 (zrL n)).map (fun xs => xs.map (gDn (ablL C m))) := by
  have h := chkA_ok
  unfold chkA at h
  rw [List.all_eq_true] at h
  have q1 := h (C - 1) (List.mem_range.mpr (by omega))
  rw [List.all_eq_true] at q1
  have q2 := q1 n (List.mem_range.mpr (by omega))
  rw [List.all_eq_true] at q2
  have e : C - 1 + 1 = C := by omega
  rw [e] at q2
  have q3 := q2 m (List.mem_range.mpr hm)
  unfold chk1 at q3
  rw [hab, Bool.false_or] at q3
  exact eq_of_beq q3
theorem end_of {C n : Nat} (h1 : 1 ≤ C) (h4 : C ≤ 4) (hn : n ≤ 8) : enE C 165 (zrL n) = true := by
  have h := chkE_ok
  unfold chkE at h
  rw [List.all_eq_true] at h
  have q1 := h (C - 1) (List.mem_range.mpr (by omega))
  rw [List.all_eq_true] at q1
  have q2 := q1 n (List.mem_range.mpr (by omega))
  have e : C - 1 + 1 = C := by omega
  rw [e] at q2
  exact q2
/-- the able cranes' best sharing is the best of all cranes' sharings, those with a crane that is out left aside -/
theorem best_same {keyA : List Nat → Option (Nat × Nat)} {C n m : Nat} (h1 : 1 ≤ C) (h4 : C ≤ 4) (hn : n ≤ 8) (hm : m < 2 ^ C) (hab : (ablL C m).isEmpty = false) :
    bstL (fun xs => if xs.all (mskL m) = true then keyA xs else none) (enL C 165 (zrL n)) none = (bstL (fun xs => keyA (xs.map (gDn (ablL C m)))) (enL (ablL C m).length 165 (zrL n)) none).map (fun q => (q.1.map (gDn (ablL C m)), q.2)) := by
  have h := chk_of h1 h4 hn hm hab
  rw [← bstL_filter (P := fun xs => xs.all (mskL m)) (fun x hx => by simp [hx]), h]
  have e := bstL_map (key := fun xs => if xs.all (mskL m) = true then keyA xs else none) (f := fun xs => xs.map (gDn (ablL C m))) (enL (ablL C m).length 165 (zrL n)) none
  rw [show (none : Option (List Nat × Nat × Nat)).map (fun q => (q.1.map (gDn (ablL C m)), q.2)) = none from rfl] at e
  rw [e]
  congr 1
  refine bstL_congr (fun x hx => ?_)
  have hmem : x.map (gDn (ablL C m)) ∈ (enL C 165 (zrL n)).filter (fun xs => xs.all (mskL m)) := by
    rw [h]; exact List.mem_map.mpr ⟨x, hx, rfl⟩
  have := (List.mem_filter.mp hmem).2
  simp only [this, if_true]
/-! the work done by a time -/
theorem cdv_lt {x v m : Nat} (hm : 0 < m) (h : x < cdv v m) : x * m < v := by
  unfold cdv at h
  have h1 : x + 1 ≤ (v + m - 1) / m := h
  have h2 := (Nat.le_div_iff_mul_le hm).mp h1
  rw [Nat.add_mul] at h2
  omega
theorem done_le {t a mo mi : Nat} (hm : 0 < mo) (hi : 0 < mi) (h : t < cdv (a * mi) mo) : t * mo / mi ≤ a := by
  have h1 := cdv_lt hm h
  have h2 : t * mo / mi ≤ a * mi / mi := Nat.div_le_div_right (Nat.le_of_lt h1)
  rw [Nat.mul_div_cancel _ hi] at h2
  exact h2
