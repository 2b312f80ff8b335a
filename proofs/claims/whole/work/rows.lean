section
/-! PURE ROWS: times, sharings, the best of a list, rows in order. No machine here. -/
/-- rounded up -/
def cdv (a b : Nat) : Nat := (a + b - 1) / b
theorem cdv_le {a b : Nat} (hb : 0 < b) : cdv a b ≤ a := by
  unfold cdv
  cases a with
  | zero => rw [Nat.div_eq_of_lt (by omega)]; exact Nat.le_refl 0
  | succ a =>
    have h : a + 1 + b - 1 = a + b := by omega
    rw [h, Nat.add_div_right _ hb]
    have := Nat.div_le_self a b
    omega
theorem cdv_eq {v m : Nat} (hm : 0 < m) : v / m + (if 0 < v % m then 1 else 0) = cdv v m := by
  have h := Nat.div_add_mod v m
  have hlt := Nat.mod_lt v hm
  unfold cdv
  by_cases h0 : 0 < v % m
  · rw [if_pos h0]
    have e : v + m - 1 = m * (v / m + 1) + (v % m - 1) := by rw [Nat.mul_add]; omega
    rw [e, Nat.mul_add_div hm, show (v % m - 1) / m = 0 from Nat.div_eq_of_lt (by omega)]
  · rw [if_neg h0]
    have e : v + m - 1 = m * (v / m) + (m - 1) := by omega
    rw [e, Nat.mul_add_div hm, show (m - 1) / m = 0 from Nat.div_eq_of_lt (by omega)]
theorem cdv_pos {a b : Nat} (ha : 0 < a) (hb : 0 < b) : 0 < cdv a b := by
  unfold cdv
  exact Nat.div_pos (by omega) hb
/-- a crane's first and last bay among the bays below k -/
def fstA (A : Nat → Nat) (c : Nat) : Nat → Option Nat
  | 0 => none
  | k + 1 => match fstA A c k with
    | some b => some b
    | none => if A k = c then some k else none
def lstA (A : Nat → Nat) (c : Nat) : Nat → Option Nat
  | 0 => none
  | k + 1 => if A k = c then some k else lstA A c k
theorem fstA_none {A : Nat → Nat} {c : Nat} : ∀ {k : Nat}, fstA A c k = none ↔ ∀ b, b < k → A b ≠ c
  | 0 => by simp [fstA]
  | k + 1 => by
    have ih := fstA_none (A := A) (c := c) (k := k)
    unfold fstA
    cases hf : fstA A c k with
    | some b =>
      simp only [hf] at ih
      constructor
      · intro h; cases h
      · intro h
        exact absurd (ih.mpr fun b hb => h b (by omega)) (by simp)
    | none =>
      have h0 := ih.mp hf
      by_cases hk : A k = c
      · simp only [if_pos hk]
        constructor
        · intro h; cases h
        · intro h; exact absurd hk (h k (by omega))
      · simp only [if_neg hk, true_iff]
        intro b hb
        rcases (show b < k ∨ b = k by omega) with h | rfl
        · exact h0 b h
        · exact hk
theorem fstA_some {A : Nat → Nat} {c : Nat} : ∀ {k f : Nat}, fstA A c k = some f → f < k ∧ A f = c ∧ ∀ b, b < f → A b ≠ c
  | 0, f, h => by simp [fstA] at h
  | k + 1, f, h => by
    unfold fstA at h
    cases hf : fstA A c k with
    | some b =>
      rw [hf] at h
      cases h
      obtain ⟨h1, h2, h3⟩ := fstA_some hf
      exact ⟨by omega, h2, h3⟩
    | none =>
      rw [hf] at h
      by_cases hk : A k = c
      · simp only [if_pos hk] at h
        cases h
        exact ⟨by omega, hk, fstA_none.mp hf⟩
      · simp [if_neg hk] at h
theorem lstA_none {A : Nat → Nat} {c : Nat} : ∀ {k : Nat}, lstA A c k = none ↔ ∀ b, b < k → A b ≠ c
  | 0 => by simp [lstA]
  | k + 1 => by
    have ih := lstA_none (A := A) (c := c) (k := k)
    unfold lstA
    by_cases hk : A k = c
    · simp only [if_pos hk]
      constructor
      · intro h; cases h
      · intro h; exact absurd hk (h k (by omega))
    · simp only [if_neg hk]
      rw [ih]
      constructor
      · intro h b hb
        rcases (show b < k ∨ b = k by omega) with h1 | rfl
        · exact h b h1
        · exact hk
      · intro h b hb
        exact h b (by omega)
theorem lstA_some {A : Nat → Nat} {c : Nat} : ∀ {k f : Nat}, lstA A c k = some f → f < k ∧ A f = c ∧ ∀ b, f < b → b < k → A b ≠ c
  | 0, f, h => by simp [lstA] at h
  | k + 1, f, h => by
    unfold lstA at h
    by_cases hk : A k = c
    · simp only [if_pos hk] at h
      cases h
      exact ⟨by omega, hk, fun b h1 h2 => by omega⟩
    · simp only [if_neg hk] at h
      obtain ⟨h1, h2, h3⟩ := lstA_some h
      refine ⟨by omega, h2, fun b hb1 hb2 => ?_⟩
      rcases (show b < k ∨ b = k by omega) with q | rfl
      · exact h3 b hb1 q
      · exact hk
/-- when a crane comes to a bay: du its work there, f its first bay, w when the next crane came to a bay -/
def tim (du : Nat → Nat) (f g s : Nat) (w : Nat → Nat) : Nat → Nat
  | 0 => 0
  | b + 1 => if b + 1 ≤ f then 0 else max (tim du f g s w b + du b) (w (b + 2 + g)) + s
theorem tim_low {du : Nat → Nat} {f g s : Nat} {w : Nat → Nat} : ∀ {b : Nat}, b ≤ f → tim du f g s w b = 0
  | 0, _ => rfl
  | b + 1, h => by simp [tim, h]
theorem tim_up {du : Nat → Nat} {f g s : Nat} {w : Nat → Nat} {b : Nat} (h : f ≤ b) : tim du f g s w (b + 1) = max (tim du f g s w b + du b) (w (b + 2 + g)) + s := by
  simp only [tim]
  rw [if_neg (by omega)]
theorem tim_le {du w : Nat → Nat} {f g s K : Nat} (hd : ∀ b, du b ≤ 25000) (hw : ∀ b, w b ≤ 25020 * (b + K)) (hg : g ≤ 3) (hs : s ≤ 20) : ∀ b, tim du f g s w b ≤ 25020 * (b + (K + 5))
  | 0 => by simp [tim]
  | b + 1 => by
    have ih := tim_le (f := f) hd hw hg hs b
    have h1 := hd b
    have h2 := hw (b + 2 + g)
    simp only [tim]
    by_cases hb : b + 1 ≤ f
    · rw [if_pos hb]; omega
    · rw [if_neg hb]
      have h3 : max (tim du f g s w b + du b) (w (b + 2 + g)) ≤ 25020 * (b + (K + 5)) + 25000 := Nat.max_le.mpr ⟨by omega, by omega⟩
      omega
/-- how long a crane works at a bay -/
def tkA (mv mo mi : Nat → Nat) (c b : Nat) : Nat := cdv (mv b * mi c) (mo c)
def duA (A mv mo mi : Nat → Nat) (c b : Nat) : Nat := if A b = c then tkA mv mo mi c b else 0
/-- when the next crane with bays, of the j last ones of four, came to a bay -/
def wtA (A mv mo mi : Nat → Nat) (n g s : Nat) : Nat → Nat → Nat
  | 0 => fun _ => 0
  | j + 1 => match fstA A (3 - j) n with
    | none => wtA A mv mo mi n g s j
    | some f => tim (duA A mv mo mi (3 - j)) f g s (wtA A mv mo mi n g s j)
/-- when crane c comes to bay b -/
def cmA (A mv mo mi : Nat → Nat) (n g s c b : Nat) : Nat := tim (duA A mv mo mi c) ((fstA A c n).getD 0) g s (wtA A mv mo mi n g s (3 - c)) b
theorem tkA_le {mv mo mi : Nat → Nat} {c b : Nat} (h1 : mv b ≤ 250) (h2 : mi c ≤ 100) (h3 : 0 < mo c) : tkA mv mo mi c b ≤ 25000 := by
  have h := cdv_le (a := mv b * mi c) h3
  have h4 : mv b * mi c ≤ 250 * 100 := Nat.mul_le_mul h1 h2
  unfold tkA
  omega
theorem duA_le {A mv mo mi : Nat → Nat} {c : Nat} (h1 : ∀ b, mv b ≤ 250) (h2 : mi c ≤ 100) (h3 : 0 < mo c) (b : Nat) : duA A mv mo mi c b ≤ 25000 := by
  unfold duA
  split
  · exact tkA_le (h1 b) h2 h3
  · omega
theorem wtA_le {A mv mo mi : Nat → Nat} {n g s : Nat} (h1 : ∀ b, mv b ≤ 250) (h2 : ∀ c, c < 4 → mi c ≤ 100) (h3 : ∀ c, c < 4 → 0 < mo c) (hg : g ≤ 3) (hs : s ≤ 20) : ∀ (j : Nat), j ≤ 4 → ∀ b, wtA A mv mo mi n g s j b ≤ 25020 * (b + 5 * j)
  | 0, _, b => by simp [wtA]
  | j + 1, hj, b => by
    have ih := wtA_le (A := A) (n := n) h1 h2 h3 hg hs j (by omega)
    unfold wtA
    cases hf : fstA A (3 - j) n with
    | none =>
      have := ih b
      show wtA A mv mo mi n g s j b ≤ _
      omega
    | some f =>
      have := tim_le (f := f) (K := 5 * j) (duA_le (A := A) h1 (h2 (3 - j) (by omega)) (h3 (3 - j) (by omega))) ih hg hs b
      show tim _ _ _ _ _ b ≤ _
      omega
theorem cmA_le {A mv mo mi : Nat → Nat} {n g s c b : Nat} (h1 : ∀ b, mv b ≤ 250) (h2 : ∀ c, c < 4 → mi c ≤ 100) (h3 : ∀ c, c < 4 → 0 < mo c) (hg : g ≤ 3) (hs : s ≤ 20) (hc : c < 4) (hb : b < 8) : cmA A mv mo mi n g s c b ≤ 675540 := by
  have h := tim_le (f := (fstA A c n).getD 0) (K := 5 * (3 - c)) (duA_le (A := A) h1 (h2 c hc) (h3 c hc)) (wtA_le (A := A) (n := n) h1 h2 h3 hg hs (3 - c) (by omega)) hg hs b
  unfold cmA
  omega
/-- when all work ends: of the bays below k -/
def fiA (A mv mo mi : Nat → Nat) (n g s : Nat) : Nat → Nat
  | 0 => 0
  | k + 1 => if A k < 4 then max (fiA A mv mo mi n g s k) (cmA A mv mo mi n g s (A k) k + tkA mv mo mi (A k) k) else fiA A mv mo mi n g s k
theorem fiA_le {A mv mo mi : Nat → Nat} {n g s : Nat} (h1 : ∀ b, mv b ≤ 250) (h2 : ∀ c, c < 4 → mi c ≤ 100) (h3 : ∀ c, c < 4 → 0 < mo c) (hg : g ≤ 3) (hs : s ≤ 20) : ∀ (k : Nat), k ≤ 8 → fiA A mv mo mi n g s k ≤ 700540
  | 0, _ => by simp [fiA]
  | k + 1, hk => by
    have ih := fiA_le (A := A) (n := n) h1 h2 h3 hg hs k (by omega)
    unfold fiA
    by_cases ha : A k < 4
    · rw [if_pos ha]
      have q1 := cmA_le (A := A) (n := n) h1 h2 h3 hg hs ha (show k < 8 by omega)
      have q2 := tkA_le (mo := mo) (h1 k) (h2 (A k) ha) (h3 (A k) ha)
      exact Nat.max_le.mpr ⟨ih, by omega⟩
    · rw [if_neg ha]; exact ih
/-- the steps of the cranes below k -/
def spA (A : Nat → Nat) (n : Nat) : Nat → Nat
  | 0 => 0
  | c + 1 => spA A n c + ((lstA A c n).getD 0 - (fstA A c n).getD 0)
/-- of the cranes below k: the last one with bays; whether they keep apart -/
def apA (A : Nat → Nat) (n g : Nat) : Nat → Option Nat × Bool
  | 0 => (none, true)
  | c + 1 => match fstA A c n with
    | none => apA A n g c
    | some f => (some c, (apA A n g c).2 && match (apA A n g c).1 with
      | none => true
      | some d => decide ((fstA A d n).getD 0 + g < f) && decide ((lstA A d n).getD 0 + g < (lstA A c n).getD 0))
/-! sharings -/
def lastLt (x : Nat → Nat) (k : Nat) : Nat → Option Nat
  | 0 => none
  | i + 1 => if x i + 1 < k then some i else lastLt x k i
def gDn (xs : List Nat) (i : Nat) : Nat := xs.getD i 0
def nxtL (k : Nat) (xs : List Nat) : Option (List Nat) := (lastLt (gDn xs) k xs.length).map (fun i => (List.range xs.length).map (fun j => if j < i then gDn xs j else gDn xs i + 1))
def enL (k : Nat) : Nat → List Nat → List (List Nat)
  | 0, _ => []
  | f + 1, xs => xs :: (match nxtL k xs with
    | none => []
    | some ys => enL k f ys)
def enE (k : Nat) : Nat → List Nat → Bool
  | 0, _ => false
  | f + 1, xs => match nxtL k xs with
    | none => true
    | some ys => enE k f ys
def zrL (n : Nat) : List Nat := List.replicate n 0
def mskL (m c : Nat) : Bool := m / 2 ^ c % 2 == 0
def ablL (C m : Nat) : List Nat := (List.range C).filter (mskL m)
def chk1 (C n m : Nat) : Bool := (ablL C m).isEmpty || ((enL C 165 (zrL n)).filter (fun xs => xs.all (mskL m)) == (enL (ablL C m).length 165 (zrL n)).map (fun xs => xs.map (gDn (ablL C m))))
def chkA : Bool := (List.range 4).all fun C => (List.range 9).all fun n => (List.range (2 ^ (C + 1))).all fun m => chk1 (C + 1) n m
def chkE : Bool := (List.range 4).all fun C => (List.range 9).all fun n => enE (C + 1) 165 (zrL n)
set_option maxRecDepth 100000 in
theorem chkE_ok : chkE = true := by decide +kernel
set_option maxRecDepth 100000 in
theorem chkA_ok : chkA = true := by decide +kernel
end
section
/-! the best of a list: the first of least finish, then of fewest steps; key none: not allowed -/
def bstS (key : List Nat → Option (Nat × Nat)) (acc : Option (List Nat × Nat × Nat)) (x : List Nat) : Option (List Nat × Nat × Nat) :=
  match key x with
  | none => acc
  | some (f, s) => match acc with
    | none => some (x, f, s)
    | some (y, f', s') => if f < f' ∨ (f = f' ∧ s < s') then some (x, f, s) else some (y, f', s')
def bstL (key : List Nat → Option (Nat × Nat)) (L : List (List Nat)) (acc : Option (List Nat × Nat × Nat)) : Option (List Nat × Nat × Nat) := L.foldl (bstS key) acc
theorem bstL_nil {key : List Nat → Option (Nat × Nat)} {acc : Option (List Nat × Nat × Nat)} : bstL key [] acc = acc := rfl
theorem bstL_cons {key : List Nat → Option (Nat × Nat)} {x : List Nat} {L : List (List Nat)} {acc : Option (List Nat × Nat × Nat)} : bstL key (x :: L) acc = bstL key L (bstS key acc x) := rfl
theorem bstL_filter {key : List Nat → Option (Nat × Nat)} {P : List Nat → Bool} (h : ∀ x, P x = false → key x = none) : ∀ (L : List (List Nat)) (acc : Option (List Nat × Nat × Nat)), bstL key (L.filter P) acc = bstL key L acc
  | [], acc => rfl
  | x :: L, acc => by
    rw [bstL_cons]
    cases hp : P x with
    | true =>
      rw [List.filter_cons_of_pos (by simpa using hp), bstL_cons]
      exact bstL_filter h L _
    | false =>
      rw [List.filter_cons_of_neg (by simp [hp])]
      have e : bstS key acc x = acc := by unfold bstS; rw [h x hp]
      rw [e]
      exact bstL_filter h L _
theorem bstS_map {key : List Nat → Option (Nat × Nat)} {f : List Nat → List Nat} {acc : Option (List Nat × Nat × Nat)} {x : List Nat} : bstS key (acc.map (fun q => (f q.1, q.2))) (f x) = (bstS (fun z => key (f z)) acc x).map (fun q => (f q.1, q.2)) := by
  unfold bstS
  dsimp only
  cases hk : key (f x) with
  | none => rfl
  | some q =>
    obtain ⟨a, b⟩ := q
    cases acc with
    | none => rfl
    | some r =>
      obtain ⟨y, c, d⟩ := r
      simp only [Option.map_some]
      split <;> rfl
theorem bstL_map {key : List Nat → Option (Nat × Nat)} {f : List Nat → List Nat} : ∀ (L : List (List Nat)) (acc : Option (List Nat × Nat × Nat)), bstL key (L.map f) (acc.map (fun q => (f q.1, q.2))) = (bstL (fun z => key (f z)) L acc).map (fun q => (f q.1, q.2))
  | [], acc => rfl
  | x :: L, acc => by
    rw [List.map_cons, bstL_cons, bstL_cons, bstS_map]
    exact bstL_map L _
/-! rows in order -/
def ahd (bg cr : Nat → Nat) (x y : Nat) : Prop := bg x < bg y ∨ (bg x = bg y ∧ cr x < cr y)
theorem ahd_irr {bg cr : Nat → Nat} {x : Nat} : ¬ ahd bg cr x x := by unfold ahd; omega
theorem ahd_tr {bg cr : Nat → Nat} {x y z : Nat} (h1 : ahd bg cr x y) (h2 : ahd bg cr y z) : ahd bg cr x z := by unfold ahd at *; omega
theorem ahd_as {bg cr : Nat → Nat} {x y : Nat} (h1 : ahd bg cr x y) : ¬ ahd bg cr y x := by unfold ahd at *; omega
theorem ins_ok {bg cr : Nat → Nat} {L : List Nat} {k b : Nat} (hs : L.Pairwise (ahd bg cr)) (h1 : ∀ x ∈ L.drop k, ahd bg cr b x) (h2 : ∀ x ∈ L.take k, ahd bg cr x b) : (L.take k ++ b :: L.drop k).Pairwise (ahd bg cr) := by
  have hs' : (L.take k ++ L.drop k).Pairwise (ahd bg cr) := by rw [List.take_append_drop]; exact hs
  obtain ⟨p1, p2, p3⟩ := List.pairwise_append.mp hs'
  refine List.pairwise_append.mpr ⟨p1, List.pairwise_cons.mpr ⟨fun x hx => h1 x hx, p2⟩, fun x hx y hy => ?_⟩
  rcases List.mem_cons.mp hy with rfl | hy
  · exact h2 x hx
  · exact p3 x hx y hy
theorem cnt_sorted {bg cr : Nat → Nat} : ∀ {L : List Nat}, L.Pairwise (ahd bg cr) → ∀ (i : Nat) (h : i < L.length) (q : Nat → Bool), (∀ x, q x = true ↔ ahd bg cr x (L[i])) → L.countP q = i
  | [], _, i, h, _, _ => by simp at h
  | a :: L, hs, 0, h, q, hq => by
    obtain ⟨p1, p2⟩ := List.pairwise_cons.mp hs
    rw [List.countP_eq_zero]
    intro x hx hqx
    have h1 : ahd bg cr x a := (hq x).mp hqx
    rcases List.mem_cons.mp hx with rfl | hx
    · exact ahd_irr h1
    · exact ahd_as (p1 x hx) h1
  | a :: L, hs, i + 1, h, q, hq => by
    obtain ⟨p1, p2⟩ := List.pairwise_cons.mp hs
    have hi : i < L.length := by simpa using h
    have ha : q a = true := (hq a).mpr (p1 _ (List.getElem_mem hi))
    rw [List.countP_cons_of_pos ha, cnt_sorted p2 i hi q hq]
/-! bays with work, and a sharing of them as what each bay has -/
def cntB (bz : Nat → Bool) : Nat → Nat
  | 0 => 0
  | k + 1 => cntB bz k + (if bz k = true then 1 else 0)
def sprB (bz : Nat → Bool) (xs : List Nat) (b : Nat) : Nat := if bz b = true then gDn xs (cntB bz b) else 9
def lastB (bz : Nat → Bool) (x : Nat → Nat) (k : Nat) : Nat → Option Nat
  | 0 => none
  | b + 1 => if bz b = true ∧ x b + 1 < k then some b else lastB bz x k b
theorem cntB_mono {bz : Nat → Bool} {a : Nat} : ∀ {b : Nat}, a ≤ b → cntB bz a ≤ cntB bz b
  | 0, h => by have : a = 0 := by omega
               subst this; exact Nat.le_refl _
  | b + 1, h => by
    rcases (show a ≤ b ∨ a = b + 1 by omega) with h1 | rfl
    · have := cntB_mono (bz := bz) h1
      have e : cntB bz (b + 1) = cntB bz b + (if bz b = true then 1 else 0) := rfl
      rw [e]
      omega
    · exact Nat.le_refl _
theorem cntB_lt {bz : Nat → Bool} {a b : Nat} (ha : bz a = true) : cntB bz a < cntB bz b ↔ a < b := by
  constructor
  · intro h
    rcases Nat.lt_or_ge a b with q | q
    · exact q
    · have := cntB_mono (bz := bz) q
      omega
  · intro h
    have h1 := cntB_mono (bz := bz) (show a + 1 ≤ b from h)
    have h2 : cntB bz (a + 1) = cntB bz a + 1 := by simp [cntB, ha]
    omega
theorem cntB_inj {bz : Nat → Bool} {a b : Nat} (ha : bz a = true) (hb : bz b = true) (h : cntB bz a = cntB bz b) : a = b := by
  rcases Nat.lt_trichotomy a b with q | q | q
  · have := (cntB_lt (b := b) ha).mpr q; omega
  · exact q
  · have := (cntB_lt (b := a) hb).mpr q; omega
theorem cntB_le {bz : Nat → Bool} : ∀ (k : Nat), cntB bz k ≤ k
  | 0 => Nat.le_refl _
  | k + 1 => by
    have := cntB_le (bz := bz) k
    have e : cntB bz (k + 1) = cntB bz k + (if bz k = true then 1 else 0) := rfl
    rw [e]
    split <;> omega
theorem cntB_has {bz : Nat → Bool} : ∀ {n i : Nat}, i < cntB bz n → ∃ b, b < n ∧ bz b = true ∧ cntB bz b = i
  | 0, i, h => by simp [cntB] at h
  | n + 1, i, h => by
    unfold cntB at h
    rcases Nat.lt_or_ge i (cntB bz n) with q | q
    · obtain ⟨b, h1, h2, h3⟩ := cntB_has q
      exact ⟨b, by omega, h2, h3⟩
    · by_cases hb : bz n = true
      · rw [if_pos hb] at h
        exact ⟨n, by omega, hb, by omega⟩
      · rw [if_neg hb] at h
        omega
theorem lastB_eq {bz : Nat → Bool} {xs : List Nat} {k : Nat} : ∀ (b : Nat), lastLt (gDn xs) k (cntB bz b) = (lastB bz (sprB bz xs) k b).map (cntB bz)
  | 0 => rfl
  | b + 1 => by
    have ih := lastB_eq (bz := bz) (xs := xs) (k := k) b
    by_cases hb : bz b = true
    · have e : cntB bz (b + 1) = cntB bz b + 1 := by simp [cntB, hb]
      have e2 : sprB bz xs b = gDn xs (cntB bz b) := by simp [sprB, hb]
      rw [e]
      unfold lastLt lastB
      rw [e2]
      by_cases hx : gDn xs (cntB bz b) + 1 < k
      · rw [if_pos hx, if_pos ⟨hb, hx⟩]; rfl
      · rw [if_neg hx, if_neg (fun q => hx q.2)]; exact ih
    · have e : cntB bz (b + 1) = cntB bz b := by simp [cntB, hb]
      rw [e]
      unfold lastB
      rw [if_neg (fun q => hb q.1)]
      exact ih
theorem lastB_some {bz : Nat → Bool} {x : Nat → Nat} {k : Nat} : ∀ {n b : Nat}, lastB bz x k n = some b → b < n ∧ bz b = true ∧ x b + 1 < k
  | 0, b, h => by simp [lastB] at h
  | n + 1, b, h => by
    unfold lastB at h
    by_cases hq : bz n = true ∧ x n + 1 < k
    · rw [if_pos hq] at h
      cases h
      exact ⟨by omega, hq.1, hq.2⟩
    · rw [if_neg hq] at h
      obtain ⟨h1, h2, h3⟩ := lastB_some h
      exact ⟨by omega, h2, h3⟩
theorem gDn_map {n i : Nat} {f : Nat → Nat} (h : i < n) : gDn ((List.range n).map f) i = f i := by
  unfold gDn
  simp [List.getD_eq_getElem?_getD, h]
theorem nxtL_none {bz : Nat → Bool} {xs : List Nat} {k n : Nat} (hn : xs.length = cntB bz n) (h : lastB bz (sprB bz xs) k n = none) : nxtL k xs = none := by
  unfold nxtL
  rw [hn, lastB_eq, h]; rfl
theorem nxtL_some {bz : Nat → Bool} {xs : List Nat} {k n b0 : Nat} (hn : xs.length = cntB bz n) (h : lastB bz (sprB bz xs) k n = some b0) :
    ∃ ys, nxtL k xs = some ys ∧ ys.length = xs.length ∧ ∀ b, b < n → sprB bz ys b = if bz b = true then (if b < b0 then sprB bz xs b else sprB bz xs b0 + 1) else 9 := by
  obtain ⟨h1, h2, h3⟩ := lastB_some h
  refine ⟨(List.range xs.length).map (fun j => if j < cntB bz b0 then gDn xs j else gDn xs (cntB bz b0) + 1), ?_, by simp, fun b hb => ?_⟩
  · unfold nxtL
    rw [hn, lastB_eq, h]; rfl
  · by_cases hz : bz b = true
    · have hlt : cntB bz b < xs.length := by rw [hn]; exact (cntB_lt hz).mpr hb
      rw [if_pos hz]
      unfold sprB
      rw [if_pos hz, gDn_map hlt, if_pos h2]
      by_cases hq : b < b0
      · rw [if_pos hq, if_pos ((cntB_lt hz).mpr hq), if_pos hz]
      · rw [if_neg hq, if_neg (fun q => hq ((cntB_lt hz).mp q))]
    · rw [if_neg hz]
      unfold sprB
      rw [if_neg hz]
end
section
/-! one more bay is given; the sharings of the able cranes among all -/
theorem fstA_is {A : Nat → Nat} {c k f : Nat} (h1 : f < k) (h2 : A f = c) (h3 : ∀ b, b < f → A b ≠ c) : fstA A c k = some f := by
  cases h : fstA A c k with
  | none => exact absurd h2 (fstA_none.mp h f h1)
  | some g =>
    obtain ⟨q1, q2, q3⟩ := fstA_some h
    rcases Nat.lt_trichotomy f g with q | q | q
    · exact absurd h2 (q3 f q)
    · rw [q]
    · exact absurd q2 (h3 g q)
theorem lstA_is {A : Nat → Nat} {c k f : Nat} (h1 : f < k) (h2 : A f = c) (h3 : ∀ b, f < b → b < k → A b ≠ c) : lstA A c k = some f := by
  cases h : lstA A c k with
  | none => exact absurd h2 (lstA_none.mp h f h1)
  | some g =>
    obtain ⟨q1, q2, q3⟩ := lstA_some h
    rcases Nat.lt_trichotomy f g with q | q | q
    · exact absurd q2 (h3 g q q1)
    · rw [q]
    · exact absurd h2 (q3 f q h1)
theorem fstA_congr {A B : Nat → Nat} {c : Nat} : ∀ {k : Nat}, (∀ b, b < k → A b = B b) → fstA A c k = fstA B c k
  | 0, _ => rfl
  | k + 1, h => by
    unfold fstA
    rw [fstA_congr (k := k) (fun b hb => h b (by omega)), h k (by omega)]
theorem lstA_congr {A B : Nat → Nat} {c : Nat} : ∀ {k : Nat}, (∀ b, b < k → A b = B b) → lstA A c k = lstA B c k
  | 0, _ => rfl
  | k + 1, h => by
    unfold lstA
    rw [lstA_congr (k := k) (fun b hb => h b (by omega)), h k (by omega)]
theorem lst_of_fst {A : Nat → Nat} {c k f : Nat} (h : fstA A c k = some f) : ∃ l, lstA A c k = some l ∧ f ≤ l ∧ l < k ∧ A l = c := by
  obtain ⟨h1, h2, h3⟩ := fstA_some h
  cases hl : lstA A c k with
  | none => exact absurd h2 (lstA_none.mp hl f h1)
  | some l =>
    obtain ⟨q1, q2, q3⟩ := lstA_some hl
    refine ⟨l, rfl, ?_, q1, q2⟩
    rcases Nat.lt_or_ge l f with q | q
    · exact absurd q2 (h3 l q)
    · exact q
theorem lst_none_fst {A : Nat → Nat} {c k : Nat} (h : fstA A c k = none) : lstA A c k = none := lstA_none.mpr (fstA_none.mp h)
def upA (A : Nat → Nat) (b c : Nat) : Nat → Nat := fun x => if x = b then c else A x
theorem fstA_up {A : Nat → Nat} {b c k : Nat} (hA : ∀ x, b ≤ x → 4 ≤ A x) (hb : b < k) (hc : c < 4) : fstA (upA A b c) c k = some ((fstA A c k).getD b) := by
  cases h : fstA A c k with
  | none =>
    show _ = some b
    refine fstA_is hb (by simp [upA]) (fun x hx => ?_)
    have := fstA_none.mp h x (by omega)
    simp [upA, show x ≠ b by omega, this]
  | some f =>
    obtain ⟨q1, q2, q3⟩ := fstA_some h
    have hfb : f < b := by
      rcases Nat.lt_or_ge f b with q | q
      · exact q
      · have := hA f q; omega
    show _ = some f
    refine fstA_is q1 (by simp [upA, show f ≠ b by omega, q2]) (fun x hx => ?_)
    simp [upA, show x ≠ b by omega, q3 x hx]
theorem fstA_up' {A : Nat → Nat} {b c d k : Nat} (hd : d ≠ c) (hA : 4 ≤ A b) (hd4 : d < 4) : fstA (upA A b c) d k = fstA A d k := by
  cases h : fstA A d k with
  | none =>
    refine fstA_none.mpr (fun x hx => ?_)
    have := fstA_none.mp h x hx
    by_cases hx : x = b
    · simp [upA, hx]; omega
    · simp [upA, hx, this]
  | some f =>
    obtain ⟨q1, q2, q3⟩ := fstA_some h
    have hfb : f ≠ b := fun q => by rw [q] at q2; omega
    refine fstA_is q1 (by simp [upA, hfb, q2]) (fun x hx => ?_)
    by_cases hx : x = b
    · simp [upA, hx]; omega
    · simp [upA, hx, q3 x (by assumption)]
theorem lstA_up {A : Nat → Nat} {b c k : Nat} (hA : ∀ x, b ≤ x → 4 ≤ A x) (hb : b < k) (hc : c < 4) : lstA (upA A b c) c k = some b := by
  refine lstA_is hb (by simp [upA]) (fun x hx _ => ?_)
  have := hA x (by omega)
  simp [upA, show x ≠ b by omega]
  omega
theorem lstA_up' {A : Nat → Nat} {b c d k : Nat} (hd : d ≠ c) (hA : 4 ≤ A b) (hd4 : d < 4) : lstA (upA A b c) d k = lstA A d k := by
  cases h : lstA A d k with
  | none =>
    refine lstA_none.mpr (fun x hx => ?_)
    have := lstA_none.mp h x hx
    by_cases hx : x = b
    · simp [upA, hx]; omega
    · simp [upA, hx, this]
  | some f =>
    obtain ⟨q1, q2, q3⟩ := lstA_some h
    have hfb : f ≠ b := fun q => by rw [q] at q2; omega
    refine lstA_is q1 (by simp [upA, hfb, q2]) (fun x hx1 hx2 => ?_)
    by_cases hx : x = b
    · simp [upA, hx]; omega
    · simp [upA, hx, q3 x hx1 hx2]
theorem spA_up {A : Nat → Nat} {b c n : Nat} (hA : ∀ x, b ≤ x → 4 ≤ A x) (hb : b < n) (hc : c < 4) : ∀ {k : Nat}, k ≤ 4 → spA (upA A b c) n k = spA A n k + (if c < k then b - (lstA A c n).getD b else 0)
  | 0, _ => by simp [spA]
  | k + 1, hk => by
    have ih := spA_up hA hb hc (k := k) (by omega)
    unfold spA
    rw [ih]
    by_cases hck : c = k
    · subst hck
      rw [if_neg (by omega), if_pos (by omega), lstA_up hA hb hc, fstA_up hA hb hc]
      cases h : fstA A c n with
      | none =>
        rw [lst_none_fst h]
        simp
      | some f =>
        obtain ⟨l, h1, h2, h3, h4⟩ := lst_of_fst h
        rw [h1]
        have hlb : l < b := by
          rcases Nat.lt_or_ge l b with q | q
          · exact q
          · have := hA l q; omega
        simp only [Option.getD_some]
        omega
    · rw [lstA_up' (fun q => hck q.symm) (hA b (Nat.le_refl b)) (by omega), fstA_up' (fun q => hck q.symm) (hA b (Nat.le_refl b)) (by omega)]
      by_cases h1 : c < k
      · rw [if_pos h1, if_pos (by omega)]; omega
      · rw [if_neg h1, if_neg (by omega), Nat.add_zero, Nat.add_zero]
/-- the first i bays with work are given -/
def prA (bz : Nat → Bool) (xs : List Nat) (i b : Nat) : Nat := if bz b = true ∧ cntB bz b < i then gDn xs (cntB bz b) else 9
theorem prA_0 {bz : Nat → Bool} {xs : List Nat} : prA bz xs 0 = fun _ => 9 := by
  funext b; simp [prA]
theorem prA_succ {bz : Nat → Bool} {xs : List Nat} {i b : Nat} (hz : bz b = true) (hi : cntB bz b = i) : prA bz xs (i + 1) = upA (prA bz xs i) b (gDn xs i) := by
  funext x
  unfold upA
  dsimp only [prA]
  by_cases hx : x = b
  · subst hx
    rw [if_pos rfl, if_pos ⟨hz, by omega⟩, hi]
  · rw [if_neg hx]
    by_cases hzx : bz x = true
    · have hne : cntB bz x ≠ i := fun q => hx (cntB_inj hzx hz (by omega))
      by_cases hlt : cntB bz x < i
      · rw [if_pos ⟨hzx, by omega⟩, if_pos ⟨hzx, hlt⟩]
      · rw [if_neg (fun q => hlt (by omega)), if_neg (fun q => hlt q.2)]
    · rw [if_neg (fun q => hzx q.1), if_neg (fun q => hzx q.1)]
theorem prA_above {bz : Nat → Bool} {xs : List Nat} {i b : Nat} (hz : bz b = true) (hi : cntB bz b = i) : ∀ x, b ≤ x → 4 ≤ prA bz xs i x := by
  intro x hx
  unfold prA
  have := cntB_mono (bz := bz) hx
  rw [if_neg (fun q => by omega)]
  omega
theorem prA_all {bz : Nat → Bool} {xs : List Nat} {n b : Nat} (h : ∀ x, bz x = true → x < n) : prA bz xs (cntB bz n) b = sprB bz xs b := by
  unfold prA sprB
  by_cases hz : bz b = true
  · rw [if_pos hz, if_pos ⟨hz, (cntB_lt hz).mpr (h b hz)⟩]
  · rw [if_neg hz, if_neg (fun q => hz q.1)]
theorem bstL_congr {key key' : List Nat → Option (Nat × Nat)} : ∀ {L : List (List Nat)} {acc : Option (List Nat × Nat × Nat)}, (∀ x ∈ L, key x = key' x) → bstL key L acc = bstL key' L acc
  | [], _, _ => rfl
  | x :: L, acc, h => by
    have e : bstS key acc x = bstS key' acc x := by unfold bstS; rw [h x List.mem_cons_self]
    rw [bstL_cons, bstL_cons, e]
    exact bstL_congr (fun y hy => h y (List.mem_cons_of_mem _ hy))
theorem chk_of {C n m : Nat} (h1 : 1 ≤ C) (h4 : C ≤ 4) (hn : n ≤ 8) (hm : m < 2 ^ C) (hab : (ablL C m).isEmpty = false) : (enL C 165 (zrL n)).filter (fun xs => xs.all (mskL m)) = (enL (ablL C m).length 165 (zrL n)).map (fun xs => xs.map (gDn (ablL C m))) := by
  have h := chkA_ok
  unfold chkA at h
  rw [List.all_eq_true] at h
  have q1 := h (C - 1) (List.mem_range.mpr (by omega))
  rw [List.all_eq_true] at q1
  have q2 := q1 n (List.mem_range.mpr (by omega))
  rw [List.all_eq_true] at q2
  have e : C - 1 + 1 = C := by omega
  rw [e] at q2
  have q3 := q2 m (List.mem_range.mpr hm)
  unfold chk1 at q3
  rw [hab, Bool.false_or] at q3
  exact eq_of_beq q3
theorem end_of {C n : Nat} (h1 : 1 ≤ C) (h4 : C ≤ 4) (hn : n ≤ 8) : enE C 165 (zrL n) = true := by
  have h := chkE_ok
  unfold chkE at h
  rw [List.all_eq_true] at h
  have q1 := h (C - 1) (List.mem_range.mpr (by omega))
  rw [List.all_eq_true] at q1
  have q2 := q1 n (List.mem_range.mpr (by omega))
  have e : C - 1 + 1 = C := by omega
  rw [e] at q2
  exact q2
/-- the able cranes' best sharing is the best of all cranes' sharings, those with a crane that is out left aside -/
theorem best_same {keyA : List Nat → Option (Nat × Nat)} {C n m : Nat} (h1 : 1 ≤ C) (h4 : C ≤ 4) (hn : n ≤ 8) (hm : m < 2 ^ C) (hab : (ablL C m).isEmpty = false) :
    bstL (fun xs => if xs.all (mskL m) = true then keyA xs else none) (enL C 165 (zrL n)) none = (bstL (fun xs => keyA (xs.map (gDn (ablL C m)))) (enL (ablL C m).length 165 (zrL n)) none).map (fun q => (q.1.map (gDn (ablL C m)), q.2)) := by
  have h := chk_of h1 h4 hn hm hab
  rw [← bstL_filter (P := fun xs => xs.all (mskL m)) (fun x hx => by simp [hx]), h]
  have e := bstL_map (key := fun xs => if xs.all (mskL m) = true then keyA xs else none) (f := fun xs => xs.map (gDn (ablL C m))) (enL (ablL C m).length 165 (zrL n)) none
  rw [show (none : Option (List Nat × Nat × Nat)).map (fun q => (q.1.map (gDn (ablL C m)), q.2)) = none from rfl] at e
  rw [e]
  congr 1
  refine bstL_congr (fun x hx => ?_)
  have hmem : x.map (gDn (ablL C m)) ∈ (enL C 165 (zrL n)).filter (fun xs => xs.all (mskL m)) := by
    rw [h]; exact List.mem_map.mpr ⟨x, hx, rfl⟩
  have := (List.mem_filter.mp hmem).2
  simp only [this, if_true]
/-! the work done by a time -/
theorem cdv_lt {x v m : Nat} (hm : 0 < m) (h : x < cdv v m) : x * m < v := by
  unfold cdv at h
  have h1 : x + 1 ≤ (v + m - 1) / m := h
  have h2 := (Nat.le_div_iff_mul_le hm).mp h1
  rw [Nat.add_mul] at h2
  omega
theorem done_le {t a mo mi : Nat} (hm : 0 < mo) (hi : 0 < mi) (h : t < cdv (a * mi) mo) : t * mo / mi ≤ a := by
  have h1 := cdv_lt hm h
  have h2 : t * mo / mi ≤ a * mi / mi := Nat.div_le_div_right (Nat.le_of_lt h1)
  rw [Nat.mul_div_cancel _ hi] at h2
  exact h2
end
section
/-! the greatest of some numbers, one more of them -/
def fiG (P : Nat → Bool) (E : Nat → Nat) : Nat → Nat
  | 0 => 0
  | k + 1 => if P k = true then max (fiG P E k) (E k) else fiG P E k
theorem fiG_congr {P P' : Nat → Bool} {E E' : Nat → Nat} : ∀ {k : Nat}, (∀ b, b < k → P b = P' b) → (∀ b, b < k → P b = true → E b = E' b) → fiG P E k = fiG P' E' k
  | 0, _, _ => rfl
  | k + 1, h1, h2 => by
    have ih := fiG_congr (P := P) (P' := P') (E := E) (E' := E') (k := k) (fun b hb => h1 b (by omega)) (fun b hb => h2 b (by omega))
    unfold fiG
    rw [ih, h1 k (by omega)]
    by_cases hp : P' k = true
    · rw [if_pos hp, if_pos hp, h2 k (by omega) (by rw [h1 k (by omega)]; exact hp)]
    · rw [if_neg hp, if_neg hp]
theorem fiG_add {P : Nat → Bool} {E : Nat → Nat} {b0 : Nat} : ∀ {k : Nat}, fiG (fun b => P b || b == b0) E k = if b0 < k then max (fiG P E k) (E b0) else fiG P E k
  | 0 => by simp [fiG]
  | k + 1 => by
    have ih := fiG_add (P := P) (E := E) (b0 := b0) (k := k)
    unfold fiG
    rw [ih]
    by_cases hk : k = b0
    · subst hk
      have e : (P k || k == k) = true := by simp
      rw [if_pos e, if_neg (Nat.lt_irrefl k), if_pos (Nat.lt_succ_self k)]
      by_cases hp : P k = true
      · rw [if_pos hp]; omega
      · rw [if_neg hp]
    · have e : (P k || k == b0) = P k := by simp [hk]
      rw [e]
      by_cases hb : b0 < k
      · have hb1 : b0 < k + 1 := by omega
        rw [if_pos hb, if_pos hb1]
        by_cases hp : P k = true
        · rw [if_pos hp, if_pos hp]; omega
        · rw [if_neg hp, if_neg hp]
      · have hb1 : ¬ b0 < k + 1 := by omega
        rw [if_neg hb, if_neg hb1]
theorem fiG_le {P : Nat → Bool} {E : Nat → Nat} {M : Nat} : ∀ {k : Nat}, (∀ b, b < k → P b = true → E b ≤ M) → fiG P E k ≤ M
  | 0, _ => Nat.zero_le _
  | k + 1, h => by
    have ih := fiG_le (P := P) (E := E) (M := M) (k := k) (fun b hb => h b (by omega))
    unfold fiG
    by_cases hp : P k = true
    · rw [if_pos hp]; exact Nat.max_le.mpr ⟨ih, h k (by omega) hp⟩
    · rw [if_neg hp]; exact ih
/-! all cranes' rates together: the class adds fractions, the reference multiplies all minutes first -/
def prM (ab : Nat → Bool) (mi : Nat → Nat) : Nat → Nat
  | 0 => 1
  | c + 1 => if ab c = true then prM ab mi c * mi c else prM ab mi c
def abv (ab : Nat → Bool) (mo mi : Nat → Nat) : Nat → Nat
  | 0 => 0
  | c + 1 => if ab c = true then abv ab mo mi c * mi c + mo c * prM ab mi c else abv ab mo mi c
def ratS (ab : Nat → Bool) (mo mi : Nat → Nat) (P : Nat) : Nat → Nat
  | 0 => 0
  | c + 1 => ratS ab mo mi P c + (if ab c = true then P / mi c * mo c else 0)
theorem prM_pos {ab : Nat → Bool} {mi : Nat → Nat} (h : ∀ c, 0 < mi c) : ∀ c, 0 < prM ab mi c
  | 0 => by simp [prM]
  | c + 1 => by
    unfold prM
    split
    · exact Nat.mul_pos (prM_pos h c) (h c)
    · exact prM_pos h c
theorem rat_same {ab : Nat → Bool} {mo mi : Nat → Nat} (h : ∀ c, 0 < mi c) {P : Nat} : ∀ (c q : Nat), P = prM ab mi c * q → abv ab mo mi c * q = ratS ab mo mi P c
  | 0, q, _ => by simp [abv, ratS]
  | c + 1, q, hP => by
    unfold abv ratS
    by_cases ha : ab c = true
    · have e : prM ab mi (c + 1) = prM ab mi c * mi c := by simp [prM, ha]
      rw [e] at hP
      have ih := rat_same (ab := ab) (mo := mo) (P := P) h c (mi c * q) (by rw [hP, Nat.mul_assoc])
      rw [if_pos ha, if_pos ha, ← ih]
      have hd : P / mi c = prM ab mi c * q := by
        rw [hP, Nat.mul_right_comm]
        exact Nat.mul_div_cancel _ (h c)
      rw [hd, Nat.add_mul, Nat.mul_assoc, Nat.mul_assoc, Nat.mul_comm (mo c)]
    · have e : prM ab mi (c + 1) = prM ab mi c := by simp [prM, ha]
      rw [e] at hP
      rw [if_neg ha, if_neg ha, Nat.add_zero]
      exact rat_same h c q hP
theorem rat_eq {ab : Nat → Bool} {mo mi : Nat → Nat} (h : ∀ c, 0 < mi c) (c : Nat) : ratS ab mo mi (prM ab mi c) c = abv ab mo mi c := by
  have := rat_same (mo := mo) h c 1 (by rw [Nat.mul_one] : prM ab mi c = prM ab mi c * 1)
  rw [Nat.mul_one] at this
  exact this.symm
theorem prM_le {ab : Nat → Bool} {mi : Nat → Nat} (h : ∀ c, mi c ≤ 100) : ∀ c, prM ab mi c ≤ 100 ^ c
  | 0 => by simp [prM]
  | c + 1 => by
    have ih := prM_le (ab := ab) h c
    unfold prM
    rw [Nat.pow_succ]
    split
    · exact Nat.mul_le_mul ih (h c)
    · omega
theorem abv_le {ab : Nat → Bool} {mo mi : Nat → Nat} (h : ∀ c, mi c ≤ 100) (ho : ∀ c, mo c ≤ 100) : ∀ c, abv ab mo mi c ≤ c * 100 ^ c
  | 0 => by simp [abv]
  | c + 1 => by
    have ih := abv_le (ab := ab) h ho c
    have hp := prM_le (ab := ab) h c
    have h1 : abv ab mo mi c * mi c ≤ c * 100 ^ c * 100 := Nat.mul_le_mul ih (h c)
    have h2 : mo c * prM ab mi c ≤ 100 * 100 ^ c := Nat.mul_le_mul (ho c) hp
    have e : (c + 1) * 100 ^ (c + 1) = c * 100 ^ c * 100 + 100 * 100 ^ c := by
      rw [Nat.pow_succ, Nat.add_mul, Nat.mul_assoc, Nat.one_mul, Nat.mul_comm (100 ^ c) 100, Nat.mul_comm 100 (100 ^ c)]
    unfold abv
    rw [e]
    split
    · omega
    · have : c * 100 ^ c ≤ c * 100 ^ c * 100 := Nat.le_mul_of_pos_right _ (by omega)
      omega
end
section
/-! ONE JUDGEMENT FOR A WALK IN A WHOLE WORLD. X .. ws vs pc st: with the world ws, the locals vs (.null: nothing known), at pc with the stack st. -/
abbrev xSg : Type := Nat → Nat → Int32
def sst (σ : xSg) (q i : Nat) (v : Int32) : xSg := fun a j => if a = q ∧ j = i then v else σ a j
theorem sst_same {σ : xSg} {q i : Nat} {v : Int32} : sst σ q i v q i = v := by simp [sst]
theorem sst_q {σ : xSg} {q i a j : Nat} {v : Int32} (h : a ≠ q) : sst σ q i v a j = σ a j := by simp [sst, h]
theorem sst_i {σ : xSg} {q i a j : Nat} {v : Int32} (h : j ≠ i) : sst σ q i v a j = σ a j := by simp [sst, h]
def xLV (ls : Array Slot) (nL : Nat) (vs : List Value) : Prop := ls.size = nL ∧ lv_wf ls ∧ ∀ (i : Nat) (v : Value), vs[i]? = some v → v ≠ .null → ls[i]? = some (.val v)
def asP (vs : List Value) (j : Nat) : Option (Nat × Value) := match vs[j]? with
  | none => none
  | some .null => none
  | some v => some (j, v)
def asL (vs : List Value) : List (Nat × Value) := (List.range vs.length).filterMap (asP vs)
theorem asP_some {vs : List Value} {j : Nat} {q : Nat × Value} : asP vs j = some q ↔ q.1 = j ∧ vs[j]? = some q.2 ∧ q.2 ≠ .null := by
  obtain ⟨a, b⟩ := q
  cases h : vs[j]? with
  | none =>
    have e : asP vs j = none := by unfold asP; rw [h]
    rw [e]; simp
  | some v =>
    by_cases hv : v = .null
    · subst hv
      have e : asP vs j = none := by unfold asP; rw [h]
      rw [e]
      constructor
      · intro h1; cases h1
      · rintro ⟨-, h2, h3⟩; exact absurd (Option.some.inj h2).symm h3
    · have e : asP vs j = some (j, v) := by
        unfold asP; rw [h]
        cases v <;> first | rfl | exact absurd rfl hv
      rw [e]
      constructor
      · intro h1; cases h1; exact ⟨rfl, rfl, hv⟩
      · rintro ⟨h1, h2, -⟩
        cases h2
        have h1 : a = j := h1
        rw [h1]
theorem asL_mem {vs : List Value} {j : Nat} {v : Value} : (j, v) ∈ asL vs ↔ vs[j]? = some v ∧ v ≠ .null := by
  unfold asL
  rw [List.mem_filterMap]
  constructor
  · rintro ⟨a, -, h⟩
    obtain ⟨h1, h2, h3⟩ := asP_some.mp h
    cases h1
    exact ⟨h2, h3⟩
  · rintro ⟨h1, h2⟩
    exact ⟨j, List.mem_range.mpr (List.getElem?_eq_some_iff.mp h1).1, asP_some.mpr ⟨rfl, h1, h2⟩⟩
theorem xLV.has {ls : Array Slot} {nL : Nat} {vs : List Value} (h : xLV ls nL vs) : lv_has ls nL (asL vs) := ⟨h.1, h.2.1, fun q hq => h.2.2 q.1 q.2 (asL_mem.mp hq).1 (asL_mem.mp hq).2⟩
theorem xLV.of {ls : Array Slot} {nL : Nat} {vs : List Value} (h : lv_has ls nL (asL vs)) : xLV ls nL vs := ⟨h.1, h.2.1, fun i v h1 h2 => h.2.2 (i, v) (asL_mem.mpr ⟨h1, h2⟩)⟩
def lkill (vs : List Value) : Nat → List Value
  | 0 => vs
  | i + 1 => match vs[i]? with
    | some (.long _) => vs.set i .null
    | some (.double _) => vs.set i .null
    | _ => vs
def lset (vs : List Value) (i : Nat) (v : Value) : List Value := (lkill vs i).set i v
def lset2 (vs : List Value) (i : Nat) (v : Value) : List Value := ((lkill vs i).set i v).set (i + 1) .null
theorem lkill_spec {vs : List Value} {j : Nat} {v : Value} (hv : v ≠ .null) : ∀ {i : Nat}, (lkill vs i)[j]? = some v → vs[j]? = some v ∧ ¬ (j + 1 = i ∧ v.category = 2)
  | 0, h => ⟨h, fun q => by omega⟩
  | i + 1, h => by
    have key : ∀ (x : Value), (vs.set i .null)[j]? = some v → vs[j]? = some v ∧ ¬ (j + 1 = i + 1 ∧ v.category = 2) := by
      intro x hx
      by_cases hj : j = i
      · subst hj
        rw [List.getElem?_set_self'] at hx
        cases hy : vs[j]? with
        | none => rw [hy] at hx; cases hx
        | some y => rw [hy] at hx; cases hx; exact absurd rfl hv
      · rw [List.getElem?_set_ne (fun q => hj q.symm)] at hx
        exact ⟨hx, fun q => hj (by omega)⟩
    have h : (match vs[i]? with
      | some (.long _) => vs.set i .null
      | some (.double _) => vs.set i .null
      | _ => vs)[j]? = some v := h
    cases hi : vs[i]? with
    | none =>
      rw [hi] at h
      refine ⟨h, fun q => ?_⟩
      have : j = i := by omega
      subst this
      rw [hi] at h; cases h
    | some y =>
      rw [hi] at h
      cases y with
      | long z => exact key .null h
      | double z => exact key .null h
      | int z => exact ⟨h, fun q => by have : j = i := by omega
                                       subst this
                                       rw [hi] at h; cases h; exact absurd q.2 (by simp [Value.category])⟩
      | float z => exact ⟨h, fun q => by have : j = i := by omega
                                         subst this
                                         rw [hi] at h; cases h; exact absurd q.2 (by simp [Value.category])⟩
      | ref z => exact ⟨h, fun q => by have : j = i := by omega
                                       subst this
                                       rw [hi] at h; cases h; exact absurd q.2 (by simp [Value.category])⟩
      | retAddr z => exact ⟨h, fun q => by have : j = i := by omega
                                           subst this
                                           rw [hi] at h; cases h; exact absurd q.2 (by simp [Value.category])⟩
      | null => exact ⟨h, fun q => by have : j = i := by omega
                                      subst this
                                      rw [hi] at h; cases h; exact absurd q.2 (by simp [Value.category])⟩
theorem lset_of {ls : Array Slot} {nL : Nat} {vs : List Value} {i : Nat} {v : Value} (h : lv_has ls nL ((i, v) :: (asL vs).filter (fun q => !(q.1 == i) && !(q.1 + 1 == i && q.2.category == 2)))) : xLV ls nL (lset vs i v) := by
  refine ⟨h.1, h.2.1, fun j x hj hx => ?_⟩
  unfold lset at hj
  by_cases hji : j = i
  · subst hji
    have e : x = v := by
      rw [List.getElem?_set_self'] at hj
      cases hy : (lkill vs j)[j]? with
      | none => rw [hy] at hj; cases hj
      | some y => rw [hy] at hj; cases hj; rfl
    subst e
    exact h.2.2 (j, x) List.mem_cons_self
  · rw [List.getElem?_set_ne (fun q => hji q.symm)] at hj
    obtain ⟨h1, h2⟩ := lkill_spec hx hj
    refine h.2.2 (j, x) (List.mem_cons_of_mem _ (List.mem_filter.mpr ⟨asL_mem.mpr ⟨h1, hx⟩, ?_⟩))
    simp only [Bool.and_eq_true, Bool.not_eq_true', beq_eq_false_iff_ne, ne_eq, Bool.and_eq_false_iff]
    refine ⟨hji, ?_⟩
    by_cases hq : j + 1 = i
    · exact Or.inr (fun q => h2 ⟨hq, q⟩)
    · exact Or.inl hq
theorem lset2_of {ls : Array Slot} {nL : Nat} {vs : List Value} {i : Nat} {v : Value} (h : lv_has ls nL ((i, v) :: (asL vs).filter (fun q => !(q.1 == i) && (!(q.1 == i + 1) && !(q.1 + 1 == i && q.2.category == 2))))) : xLV ls nL (lset2 vs i v) := by
  refine ⟨h.1, h.2.1, fun j x hj hx => ?_⟩
  unfold lset2 at hj
  by_cases hj1 : j = i + 1
  · subst hj1
    rw [List.getElem?_set_self'] at hj
    cases hy : ((lkill vs i).set i v)[i + 1]? with
    | none => rw [hy] at hj; cases hj
    | some y => rw [hy] at hj; cases hj; exact absurd rfl hx
  rw [List.getElem?_set_ne (fun q => hj1 q.symm)] at hj
  by_cases hji : j = i
  · subst hji
    have e : x = v := by
      rw [List.getElem?_set_self'] at hj
      cases hy : (lkill vs j)[j]? with
      | none => rw [hy] at hj; cases hj
      | some y => rw [hy] at hj; cases hj; rfl
    subst e
    exact h.2.2 (j, x) List.mem_cons_self
  · rw [List.getElem?_set_ne (fun q => hji q.symm)] at hj
    obtain ⟨h1, h2⟩ := lkill_spec hx hj
    refine h.2.2 (j, x) (List.mem_cons_of_mem _ (List.mem_filter.mpr ⟨asL_mem.mpr ⟨h1, hx⟩, ?_⟩))
    simp only [Bool.and_eq_true, Bool.not_eq_true', beq_eq_false_iff_ne, ne_eq, Bool.and_eq_false_iff]
    refine ⟨hji, hj1, ?_⟩
    by_cases hq : j + 1 = i
    · exact Or.inr (fun q => h2 ⟨hq, q⟩)
    · exact Or.inl hq
def isNest : Cond → Bool
  | .fieldLinkNest .. => true
  | .methodLinkNest .. => true
  | _ => false
theorem nest_warm {c : Cond} (h : isNest c = true) {s U : State} (hW : s.WarmedH U.vm) (hZ : va_Nw c s) : va_Nw c U := by
  cases c <;> first | exact va_Nw.warmF hW hZ | exact va_Nw.warmM hW hZ | (simp [isNest] at h)
theorem nest_same {c : Cond} (h : isNest c = true) {s U : State} (hW : s.vm = U.vm) (hZ : va_Nw c s) : va_Nw c U := by
  cases c <;> first | exact va_Nw.same rfl hW hZ | (simp [isNest] at h)
theorem nest_use {c : Cond} (h : isNest c = true) {s : State} (hZ : va_Nw c s) {a : Array Value} : c.before a s = true := by
  cases c <;> first | exact va_Nw.use rfl hZ | (simp [isNest] at h)
def xG (p : Program) (s : State) (m : MethodId) (args : Array Value) (c : Code) (cc : ByteArray) (nL : Nat) (own : String) (Ts NW : List Cond) (D : va_G) (cl : List vw_C) (tys : List (ClassId × FieldType)) (A : Nat → Prop) : Prop :=
  p.tables.exec = Jvm.exec ∧ c.code = cc ∧ c.maxLocals = nL ∧ s.vm.findClass own = some m.cls ∧ (∀ w ∈ Ts, w.before args s = true) ∧ va_K D cl tys s ∧ (∀ c ∈ NW, isNest c = true ∧ va_Nw c s) ∧ ∀ q : Nat, s.heap.size ≤ q → A q
def xJ (p : Program) (l : Launch) (e : Env) (R : Room) (s : State) (m : MethodId) (args : Array Value) (below : List Frame) (meth : Method) (c : Code) (cells slots : Nat) (Q : State → Prop) (D : va_G) (cl : List vw_C) (A : Nat → Prop) (nL : Nat) (S : Heap → List Loc → Prop) (ws : va_W) (vs : List Value) (pc : Nat) (st : List Value) : Prop :=
  ∀ (H : Heap) (locs : List Loc) (ls : Array Slot), va_P D cl ws H → va_D A ws → S H locs → xLV ls nL vs → W p l e R s m args below meth c H locs cells slots Q (F0 m pc ls st)
section XL
variable {p : Program} {l : Launch} {e : Env} {R : Room} {s : State} {m : MethodId} {args : Array Value} {below : List Frame} {meth : Method} {c : Code} {cells slots : Nat} {Q : State → Prop} {D : va_G} {cl : List vw_C} {A : Nat → Prop} {nL : Nat} {S : Heap → List Loc → Prop} {ws : va_W} {vs : List Value} {pc : Nat} {st : List Value} {cc : ByteArray} {own : String} {Ts NW : List Cond} {tys : List (ClassId × FieldType)}
theorem x_iconst (G : xG p s m args c cc nL own Ts NW D cl tys A) {n : Int} (v : Int32) (d : decode cc pc = .ok (.iconst n, 1)) (hv : Int32.ofInt n = v) (k : xJ p l e R s m args below meth c cells slots Q D cl A nL (S) (ws) (vs) (pc + 1) (.int v :: st)) : xJ p l e R s m args below meth c cells slots Q D cl A nL (S) (ws) (vs) (pc) (st) := fun H locs ls hP hD hS hl => lv_iconst G.1 G.2.1 d hv (k H locs ls hP hD hS hl)
theorem x_bipush (G : xG p s m args c cc nL own Ts NW D cl tys A) {n : Int} (v : Int32) (d : decode cc pc = .ok (.bipush n, 2)) (hv : (Int8.ofInt n).toInt32 = v) (k : xJ p l e R s m args below meth c cells slots Q D cl A nL (S) (ws) (vs) (pc + 2) (.int v :: st)) : xJ p l e R s m args below meth c cells slots Q D cl A nL (S) (ws) (vs) (pc) (st) := fun H locs ls hP hD hS hl => lv_bipush G.1 G.2.1 d hv (k H locs ls hP hD hS hl)
theorem x_sipush (G : xG p s m args c cc nL own Ts NW D cl tys A) {n : Int} (v : Int32) (d : decode cc pc = .ok (.sipush n, 3)) (hv : (Int16.ofInt n).toInt32 = v) (k : xJ p l e R s m args below meth c cells slots Q D cl A nL (S) (ws) (vs) (pc + 3) (.int v :: st)) : xJ p l e R s m args below meth c cells slots Q D cl A nL (S) (ws) (vs) (pc) (st) := fun H locs ls hP hD hS hl => lv_sipush G.1 G.2.1 d hv (k H locs ls hP hD hS hl)
theorem x_lconst (G : xG p s m args c cc nL own Ts NW D cl tys A) {n : Fin 2} (v : Int64) (d : decode cc pc = .ok (.lconst n, 1)) (hv : Int64.ofNat (n : Nat) = v) (k : xJ p l e R s m args below meth c cells slots Q D cl A nL (S) (ws) (vs) (pc + 1) (.long v :: st)) : xJ p l e R s m args below meth c cells slots Q D cl A nL (S) (ws) (vs) (pc) (st) := fun H locs ls hP hD hS hl => lv_lconst G.1 G.2.1 d hv (k H locs ls hP hD hS hl)
theorem x_ldc (G : xG p s m args c cc nL own Ts NW D cl tys A) {index : Nat} (v : Int32) (d : decode cc pc = .ok (.ldc index, 2)) (hc : Cond.constant own index v ∈ Ts) (k : xJ p l e R s m args below meth c cells slots Q D cl A nL (S) (ws) (vs) (pc + 2) (.int v :: st)) : xJ p l e R s m args below meth c cells slots Q D cl A nL (S) (ws) (vs) (pc) (st) := fun H locs ls hP hD hS hl => lv_ldc G.1 G.2.1 G.2.2.2.1 (G.2.2.2.2.1 _ hc) d (k H locs ls hP hD hS hl)
theorem x_iload_n (G : xG p s m args c cc nL own Ts NW D cl tys A) {kk : Fin 4} {x : Int32} (i : Nat) (d : decode cc pc = .ok (.iload_n kk, 1)) (hi : (kk : Nat) = i) (hv : vs[i]? = some (.int x)) (k : xJ p l e R s m args below meth c cells slots Q D cl A nL (S) (ws) (vs) (pc + 1) (.int x :: st)) : xJ p l e R s m args below meth c cells slots Q D cl A nL (S) (ws) (vs) (pc) (st) := fun H locs ls hP hD hS hl => lv_iload_n G.1 G.2.1 d hi (hl.2.2 i (.int x) hv (fun h => by cases h)) (k H locs ls hP hD hS hl)
theorem x_iload (G : xG p s m args c cc nL own Ts NW D cl tys A) {i : Nat} {x : Int32} (d : decode cc pc = .ok (.iload i, 2)) (hv : vs[i]? = some (.int x)) (k : xJ p l e R s m args below meth c cells slots Q D cl A nL (S) (ws) (vs) (pc + 2) (.int x :: st)) : xJ p l e R s m args below meth c cells slots Q D cl A nL (S) (ws) (vs) (pc) (st) := fun H locs ls hP hD hS hl => lv_iload G.1 G.2.1 d (hl.2.2 i (.int x) hv (fun h => by cases h)) (k H locs ls hP hD hS hl)
theorem x_istore_n (G : xG p s m args c cc nL own Ts NW D cl tys A) {kk : Fin 4} {x : Int32} (i : Nat) (d : decode cc pc = .ok (.istore_n kk, 1)) (hi : (kk : Nat) = i) (hn : i < nL) (k : xJ p l e R s m args below meth c cells slots Q D cl A nL (S) (ws) (lset vs i (.int x)) (pc + 1) (st)) : xJ p l e R s m args below meth c cells slots Q D cl A nL (S) (ws) (vs) (pc) (.int x :: st) := fun H locs ls hP hD hS hl => lv_istore_n G.1 G.2.1 d hi hl.has hn rfl (fun ls' hl' => k H locs ls' hP hD hS (lset_of hl'))
theorem x_istore (G : xG p s m args c cc nL own Ts NW D cl tys A) {i : Nat} {x : Int32} (d : decode cc pc = .ok (.istore i, 2)) (hn : i < nL) (k : xJ p l e R s m args below meth c cells slots Q D cl A nL (S) (ws) (lset vs i (.int x)) (pc + 2) (st)) : xJ p l e R s m args below meth c cells slots Q D cl A nL (S) (ws) (vs) (pc) (.int x :: st) := fun H locs ls hP hD hS hl => lv_istore G.1 G.2.1 d hl.has hn rfl (fun ls' hl' => k H locs ls' hP hD hS (lset_of hl'))
theorem x_lload_n (G : xG p s m args c cc nL own Ts NW D cl tys A) {kk : Fin 4} {x : Int64} (i : Nat) (d : decode cc pc = .ok (.lload_n kk, 1)) (hi : (kk : Nat) = i) (hv : vs[i]? = some (.long x)) (k : xJ p l e R s m args below meth c cells slots Q D cl A nL (S) (ws) (vs) (pc + 1) (.long x :: st)) : xJ p l e R s m args below meth c cells slots Q D cl A nL (S) (ws) (vs) (pc) (st) := fun H locs ls hP hD hS hl => lv_lload_n G.1 G.2.1 d hi (hl.2.2 i (.long x) hv (fun h => by cases h)) (k H locs ls hP hD hS hl)
theorem x_lload (G : xG p s m args c cc nL own Ts NW D cl tys A) {i : Nat} {x : Int64} (d : decode cc pc = .ok (.lload i, 2)) (hv : vs[i]? = some (.long x)) (k : xJ p l e R s m args below meth c cells slots Q D cl A nL (S) (ws) (vs) (pc + 2) (.long x :: st)) : xJ p l e R s m args below meth c cells slots Q D cl A nL (S) (ws) (vs) (pc) (st) := fun H locs ls hP hD hS hl => lv_lload G.1 G.2.1 d (hl.2.2 i (.long x) hv (fun h => by cases h)) (k H locs ls hP hD hS hl)
theorem x_lstore_n (G : xG p s m args c cc nL own Ts NW D cl tys A) {kk : Fin 4} {x : Int64} (i : Nat) (d : decode cc pc = .ok (.lstore_n kk, 1)) (hi : (kk : Nat) = i) (hn : i + 1 < nL) (k : xJ p l e R s m args below meth c cells slots Q D cl A nL (S) (ws) (lset2 vs i (.long x)) (pc + 1) (st)) : xJ p l e R s m args below meth c cells slots Q D cl A nL (S) (ws) (vs) (pc) (.long x :: st) := fun H locs ls hP hD hS hl => lv_lstore_n G.1 G.2.1 d hi hl.has hn rfl (fun ls' hl' => k H locs ls' hP hD hS (lset2_of hl'))
theorem x_lstore (G : xG p s m args c cc nL own Ts NW D cl tys A) {i : Nat} {x : Int64} (d : decode cc pc = .ok (.lstore i, 2)) (hn : i + 1 < nL) (k : xJ p l e R s m args below meth c cells slots Q D cl A nL (S) (ws) (lset2 vs i (.long x)) (pc + 2) (st)) : xJ p l e R s m args below meth c cells slots Q D cl A nL (S) (ws) (vs) (pc) (.long x :: st) := fun H locs ls hP hD hS hl => lv_lstore G.1 G.2.1 d hl.has hn rfl (fun ls' hl' => k H locs ls' hP hD hS (lset2_of hl'))
theorem x_aload_n (G : xG p s m args c cc nL own Ts NW D cl tys A) {kk : Fin 4} {x : Nat} (i : Nat) (d : decode cc pc = .ok (.aload_n kk, 1)) (hi : (kk : Nat) = i) (hv : vs[i]? = some (.ref x)) (k : xJ p l e R s m args below meth c cells slots Q D cl A nL (S) (ws) (vs) (pc + 1) (.ref x :: st)) : xJ p l e R s m args below meth c cells slots Q D cl A nL (S) (ws) (vs) (pc) (st) := fun H locs ls hP hD hS hl => lv_aload_n G.1 G.2.1 d hi (hl.2.2 i (.ref x) hv (fun h => by cases h)) (k H locs ls hP hD hS hl)
theorem x_aload (G : xG p s m args c cc nL own Ts NW D cl tys A) {i : Nat} {x : Nat} (d : decode cc pc = .ok (.aload i, 2)) (hv : vs[i]? = some (.ref x)) (k : xJ p l e R s m args below meth c cells slots Q D cl A nL (S) (ws) (vs) (pc + 2) (.ref x :: st)) : xJ p l e R s m args below meth c cells slots Q D cl A nL (S) (ws) (vs) (pc) (st) := fun H locs ls hP hD hS hl => lv_aload G.1 G.2.1 d (hl.2.2 i (.ref x) hv (fun h => by cases h)) (k H locs ls hP hD hS hl)
theorem x_astore_n (G : xG p s m args c cc nL own Ts NW D cl tys A) {kk : Fin 4} {x : Nat} (i : Nat) (d : decode cc pc = .ok (.astore_n kk, 1)) (hi : (kk : Nat) = i) (hn : i < nL) (k : xJ p l e R s m args below meth c cells slots Q D cl A nL (S) (ws) (lset vs i (.ref x)) (pc + 1) (st)) : xJ p l e R s m args below meth c cells slots Q D cl A nL (S) (ws) (vs) (pc) (.ref x :: st) := fun H locs ls hP hD hS hl => lv_astore_n G.1 G.2.1 d hi hl.has hn rfl (fun ls' hl' => k H locs ls' hP hD hS (lset_of hl'))
theorem x_astore (G : xG p s m args c cc nL own Ts NW D cl tys A) {i : Nat} {x : Nat} (d : decode cc pc = .ok (.astore i, 2)) (hn : i < nL) (k : xJ p l e R s m args below meth c cells slots Q D cl A nL (S) (ws) (lset vs i (.ref x)) (pc + 2) (st)) : xJ p l e R s m args below meth c cells slots Q D cl A nL (S) (ws) (vs) (pc) (.ref x :: st) := fun H locs ls hP hD hS hl => lv_astore G.1 G.2.1 d hl.has hn rfl (fun ls' hl' => k H locs ls' hP hD hS (lset_of hl'))
theorem x_iinc (G : xG p s m args c cc nL own Ts NW D cl tys A) {i : Nat} {n : Int} {x : Int32} (v : Int32) (d : decode cc pc = .ok (.iinc i n, 3)) (hv : vs[i]? = some (.int x)) (he : x + Int32.ofInt n = v) (hn : i < nL) (k : xJ p l e R s m args below meth c cells slots Q D cl A nL (S) (ws) (lset vs i (.int v)) (pc + 3) (st)) : xJ p l e R s m args below meth c cells slots Q D cl A nL (S) (ws) (vs) (pc) (st) := fun H locs ls hP hD hS hl => by
  obtain ⟨j, hj⟩ := List.mem_iff_getElem?.mp (asL_mem.mpr ⟨hv, fun h => by cases h⟩)
  exact lv_iinc G.1 G.2.1 d hl.has hj he hn rfl (fun ls' hl' => k H locs ls' hP hD hS (lset_of hl'))
theorem x_iadd (G : xG p s m args c cc nL own Ts NW D cl tys A) {x y : Int32} (d : decode cc pc = .ok (.iadd, 1)) (k : xJ p l e R s m args below meth c cells slots Q D cl A nL (S) (ws) (vs) (pc + 1) (.int (x + y) :: st)) : xJ p l e R s m args below meth c cells slots Q D cl A nL (S) (ws) (vs) (pc) (.int y :: .int x :: st) := fun H locs ls hP hD hS hl => lv_iadd G.1 G.2.1 d (k H locs ls hP hD hS hl)
theorem x_isub (G : xG p s m args c cc nL own Ts NW D cl tys A) {x y : Int32} (d : decode cc pc = .ok (.isub, 1)) (k : xJ p l e R s m args below meth c cells slots Q D cl A nL (S) (ws) (vs) (pc + 1) (.int (x - y) :: st)) : xJ p l e R s m args below meth c cells slots Q D cl A nL (S) (ws) (vs) (pc) (.int y :: .int x :: st) := fun H locs ls hP hD hS hl => lv_isub G.1 G.2.1 d (k H locs ls hP hD hS hl)
theorem x_imul (G : xG p s m args c cc nL own Ts NW D cl tys A) {x y : Int32} (d : decode cc pc = .ok (.imul, 1)) (k : xJ p l e R s m args below meth c cells slots Q D cl A nL (S) (ws) (vs) (pc + 1) (.int (x * y) :: st)) : xJ p l e R s m args below meth c cells slots Q D cl A nL (S) (ws) (vs) (pc) (.int y :: .int x :: st) := fun H locs ls hP hD hS hl => lv_imul G.1 G.2.1 d (k H locs ls hP hD hS hl)
theorem x_iand (G : xG p s m args c cc nL own Ts NW D cl tys A) {x y : Int32} (d : decode cc pc = .ok (.iand, 1)) (k : xJ p l e R s m args below meth c cells slots Q D cl A nL (S) (ws) (vs) (pc + 1) (.int (x &&& y) :: st)) : xJ p l e R s m args below meth c cells slots Q D cl A nL (S) (ws) (vs) (pc) (.int y :: .int x :: st) := fun H locs ls hP hD hS hl => lv_iand G.1 G.2.1 d (k H locs ls hP hD hS hl)
theorem x_idiv (G : xG p s m args c cc nL own Ts NW D cl tys A) {x y : Int32} (d : decode cc pc = .ok (.idiv, 1)) (hne : ¬ y = 0) (k : xJ p l e R s m args below meth c cells slots Q D cl A nL (S) (ws) (vs) (pc + 1) (.int (x / y) :: st)) : xJ p l e R s m args below meth c cells slots Q D cl A nL (S) (ws) (vs) (pc) (.int y :: .int x :: st) := fun H locs ls hP hD hS hl => lv_idiv G.1 G.2.1 d hne (k H locs ls hP hD hS hl)
theorem x_irem (G : xG p s m args c cc nL own Ts NW D cl tys A) {x y : Int32} (d : decode cc pc = .ok (.irem, 1)) (hne : ¬ y = 0) (k : xJ p l e R s m args below meth c cells slots Q D cl A nL (S) (ws) (vs) (pc + 1) (.int (x - x / y * y) :: st)) : xJ p l e R s m args below meth c cells slots Q D cl A nL (S) (ws) (vs) (pc) (.int y :: .int x :: st) := fun H locs ls hP hD hS hl => lv_irem G.1 G.2.1 d hne (k H locs ls hP hD hS hl)
theorem x_ladd (G : xG p s m args c cc nL own Ts NW D cl tys A) {x y : Int64} (d : decode cc pc = .ok (.ladd, 1)) (k : xJ p l e R s m args below meth c cells slots Q D cl A nL (S) (ws) (vs) (pc + 1) (.long (x + y) :: st)) : xJ p l e R s m args below meth c cells slots Q D cl A nL (S) (ws) (vs) (pc) (.long y :: .long x :: st) := fun H locs ls hP hD hS hl => lv_ladd G.1 G.2.1 d (k H locs ls hP hD hS hl)
theorem x_lsub (G : xG p s m args c cc nL own Ts NW D cl tys A) {x y : Int64} (d : decode cc pc = .ok (.lsub, 1)) (k : xJ p l e R s m args below meth c cells slots Q D cl A nL (S) (ws) (vs) (pc + 1) (.long (x - y) :: st)) : xJ p l e R s m args below meth c cells slots Q D cl A nL (S) (ws) (vs) (pc) (.long y :: .long x :: st) := fun H locs ls hP hD hS hl => lv_lsub G.1 G.2.1 d (k H locs ls hP hD hS hl)
theorem x_lmul (G : xG p s m args c cc nL own Ts NW D cl tys A) {x y : Int64} (d : decode cc pc = .ok (.lmul, 1)) (k : xJ p l e R s m args below meth c cells slots Q D cl A nL (S) (ws) (vs) (pc + 1) (.long (x * y) :: st)) : xJ p l e R s m args below meth c cells slots Q D cl A nL (S) (ws) (vs) (pc) (.long y :: .long x :: st) := fun H locs ls hP hD hS hl => lv_lmul G.1 G.2.1 d (k H locs ls hP hD hS hl)
theorem x_ldiv (G : xG p s m args c cc nL own Ts NW D cl tys A) {x y : Int64} (d : decode cc pc = .ok (.ldiv, 1)) (hne : ¬ y = 0) (k : xJ p l e R s m args below meth c cells slots Q D cl A nL (S) (ws) (vs) (pc + 1) (.long (x / y) :: st)) : xJ p l e R s m args below meth c cells slots Q D cl A nL (S) (ws) (vs) (pc) (.long y :: .long x :: st) := fun H locs ls hP hD hS hl => lv_ldiv G.1 G.2.1 d hne (k H locs ls hP hD hS hl)
theorem x_lcmp (G : xG p s m args c cc nL own Ts NW D cl tys A) {x y : Int64} (d : decode cc pc = .ok (.lcmp, 1)) (k : xJ p l e R s m args below meth c cells slots Q D cl A nL (S) (ws) (vs) (pc + 1) (.int (lg_cmp x y) :: st)) : xJ p l e R s m args below meth c cells slots Q D cl A nL (S) (ws) (vs) (pc) (.long y :: .long x :: st) := fun H locs ls hP hD hS hl => W.lcmp G.1 G.2.1 d (k H locs ls hP hD hS hl)
theorem x_i2l (G : xG p s m args c cc nL own Ts NW D cl tys A) {x : Int32} (d : decode cc pc = .ok (.i2l, 1)) (k : xJ p l e R s m args below meth c cells slots Q D cl A nL (S) (ws) (vs) (pc + 1) (.long x.toInt64 :: st)) : xJ p l e R s m args below meth c cells slots Q D cl A nL (S) (ws) (vs) (pc) (.int x :: st) := fun H locs ls hP hD hS hl => lv_i2l G.1 G.2.1 d rfl (k H locs ls hP hD hS hl)
theorem x_l2i (G : xG p s m args c cc nL own Ts NW D cl tys A) {x : Int64} (d : decode cc pc = .ok (.l2i, 1)) (k : xJ p l e R s m args below meth c cells slots Q D cl A nL (S) (ws) (vs) (pc + 1) (.int x.toInt32 :: st)) : xJ p l e R s m args below meth c cells slots Q D cl A nL (S) (ws) (vs) (pc) (.long x :: st) := fun H locs ls hP hD hS hl => lv_l2i G.1 G.2.1 d rfl (k H locs ls hP hD hS hl)
theorem x_dup (G : xG p s m args c cc nL own Ts NW D cl tys A) {v : Value} (d : decode cc pc = .ok (.dup, 1)) (h1 : v.category = 1) (k : xJ p l e R s m args below meth c cells slots Q D cl A nL (S) (ws) (vs) (pc + 1) (v :: v :: st)) : xJ p l e R s m args below meth c cells slots Q D cl A nL (S) (ws) (vs) (pc) (v :: st) := fun H locs ls hP hD hS hl => lv_dup G.1 G.2.1 d h1 (k H locs ls hP hD hS hl)
theorem x_pop (G : xG p s m args c cc nL own Ts NW D cl tys A) {v : Value} (d : decode cc pc = .ok (.pop, 1)) (h1 : v.category = 1) (k : xJ p l e R s m args below meth c cells slots Q D cl A nL (S) (ws) (vs) (pc + 1) (st)) : xJ p l e R s m args below meth c cells slots Q D cl A nL (S) (ws) (vs) (pc) (v :: st) := fun H locs ls hP hD hS hl => lv_pop G.1 G.2.1 d h1 (k H locs ls hP hD hS hl)
theorem x_dup_x1 (G : xG p s m args c cc nL own Ts NW D cl tys A) {v u : Value} (d : decode cc pc = .ok (.dup_x1, 1)) (h1 : v.category = 1) (h2 : u.category = 1) (k : xJ p l e R s m args below meth c cells slots Q D cl A nL (S) (ws) (vs) (pc + 1) (v :: u :: v :: st)) : xJ p l e R s m args below meth c cells slots Q D cl A nL (S) (ws) (vs) (pc) (v :: u :: st) := fun H locs ls hP hD hS hl => lv_dup_x1 G.1 G.2.1 d h1 h2 (k H locs ls hP hD hS hl)
theorem x_dup2 (G : xG p s m args c cc nL own Ts NW D cl tys A) {v u : Value} (d : decode cc pc = .ok (.dup2, 1)) (h1 : v.category = 1) (h2 : u.category = 1) (k : xJ p l e R s m args below meth c cells slots Q D cl A nL (S) (ws) (vs) (pc + 1) (v :: u :: v :: u :: st)) : xJ p l e R s m args below meth c cells slots Q D cl A nL (S) (ws) (vs) (pc) (v :: u :: st) := fun H locs ls hP hD hS hl => lv_dup2_11 G.1 G.2.1 d h1 h2 (k H locs ls hP hD hS hl)
theorem x_if_eq (G : xG p s m args c cc nL own Ts NW D cl tys A) {x : Int32} {off : Int} (tgt : Nat) (d : decode cc pc = .ok (.ifCond .eq off, 3)) (ht : (pc : Int) + off = (tgt : Int)) (kt : x = 0 → xJ p l e R s m args below meth c cells slots Q D cl A nL (S) (ws) (vs) (tgt) (st)) (kf : ¬ x = 0 → xJ p l e R s m args below meth c cells slots Q D cl A nL (S) (ws) (vs) (pc + 3) (st)) : xJ p l e R s m args below meth c cells slots Q D cl A nL (S) (ws) (vs) (pc) (.int x :: st) := fun H locs ls hP hD hS hl => lv_if_eq G.1 G.2.1 d ht (fun h => kt h H locs ls hP hD hS hl) (fun h => kf h H locs ls hP hD hS hl)
theorem x_icmp_eq (G : xG p s m args c cc nL own Ts NW D cl tys A) {x y : Int32} {off : Int} (tgt : Nat) (d : decode cc pc = .ok (.if_icmp .eq off, 3)) (ht : (pc : Int) + off = (tgt : Int)) (kt : x = y → xJ p l e R s m args below meth c cells slots Q D cl A nL (S) (ws) (vs) (tgt) (st)) (kf : ¬ x = y → xJ p l e R s m args below meth c cells slots Q D cl A nL (S) (ws) (vs) (pc + 3) (st)) : xJ p l e R s m args below meth c cells slots Q D cl A nL (S) (ws) (vs) (pc) (.int y :: .int x :: st) := fun H locs ls hP hD hS hl => lv_icmp_eq G.1 G.2.1 d ht (fun h => kt h H locs ls hP hD hS hl) (fun h => kf h H locs ls hP hD hS hl)
theorem x_if_ne (G : xG p s m args c cc nL own Ts NW D cl tys A) {x : Int32} {off : Int} (tgt : Nat) (d : decode cc pc = .ok (.ifCond .ne off, 3)) (ht : (pc : Int) + off = (tgt : Int)) (kt : ¬ x = 0 → xJ p l e R s m args below meth c cells slots Q D cl A nL (S) (ws) (vs) (tgt) (st)) (kf : x = 0 → xJ p l e R s m args below meth c cells slots Q D cl A nL (S) (ws) (vs) (pc + 3) (st)) : xJ p l e R s m args below meth c cells slots Q D cl A nL (S) (ws) (vs) (pc) (.int x :: st) := fun H locs ls hP hD hS hl => lv_if_ne G.1 G.2.1 d ht (fun h => kt h H locs ls hP hD hS hl) (fun h => kf h H locs ls hP hD hS hl)
theorem x_icmp_ne (G : xG p s m args c cc nL own Ts NW D cl tys A) {x y : Int32} {off : Int} (tgt : Nat) (d : decode cc pc = .ok (.if_icmp .ne off, 3)) (ht : (pc : Int) + off = (tgt : Int)) (kt : ¬ x = y → xJ p l e R s m args below meth c cells slots Q D cl A nL (S) (ws) (vs) (tgt) (st)) (kf : x = y → xJ p l e R s m args below meth c cells slots Q D cl A nL (S) (ws) (vs) (pc + 3) (st)) : xJ p l e R s m args below meth c cells slots Q D cl A nL (S) (ws) (vs) (pc) (.int y :: .int x :: st) := fun H locs ls hP hD hS hl => lv_icmp_ne G.1 G.2.1 d ht (fun h => kt h H locs ls hP hD hS hl) (fun h => kf h H locs ls hP hD hS hl)
theorem x_if_lt (G : xG p s m args c cc nL own Ts NW D cl tys A) {x : Int32} {off : Int} (tgt : Nat) (d : decode cc pc = .ok (.ifCond .lt off, 3)) (ht : (pc : Int) + off = (tgt : Int)) (kt : x < 0 → xJ p l e R s m args below meth c cells slots Q D cl A nL (S) (ws) (vs) (tgt) (st)) (kf : ¬ x < 0 → xJ p l e R s m args below meth c cells slots Q D cl A nL (S) (ws) (vs) (pc + 3) (st)) : xJ p l e R s m args below meth c cells slots Q D cl A nL (S) (ws) (vs) (pc) (.int x :: st) := fun H locs ls hP hD hS hl => lv_if_lt G.1 G.2.1 d ht (fun h => kt h H locs ls hP hD hS hl) (fun h => kf h H locs ls hP hD hS hl)
theorem x_icmp_lt (G : xG p s m args c cc nL own Ts NW D cl tys A) {x y : Int32} {off : Int} (tgt : Nat) (d : decode cc pc = .ok (.if_icmp .lt off, 3)) (ht : (pc : Int) + off = (tgt : Int)) (kt : x < y → xJ p l e R s m args below meth c cells slots Q D cl A nL (S) (ws) (vs) (tgt) (st)) (kf : ¬ x < y → xJ p l e R s m args below meth c cells slots Q D cl A nL (S) (ws) (vs) (pc + 3) (st)) : xJ p l e R s m args below meth c cells slots Q D cl A nL (S) (ws) (vs) (pc) (.int y :: .int x :: st) := fun H locs ls hP hD hS hl => lv_icmp_lt G.1 G.2.1 d ht (fun h => kt h H locs ls hP hD hS hl) (fun h => kf h H locs ls hP hD hS hl)
theorem x_if_ge (G : xG p s m args c cc nL own Ts NW D cl tys A) {x : Int32} {off : Int} (tgt : Nat) (d : decode cc pc = .ok (.ifCond .ge off, 3)) (ht : (pc : Int) + off = (tgt : Int)) (kt : 0 ≤ x → xJ p l e R s m args below meth c cells slots Q D cl A nL (S) (ws) (vs) (tgt) (st)) (kf : ¬ 0 ≤ x → xJ p l e R s m args below meth c cells slots Q D cl A nL (S) (ws) (vs) (pc + 3) (st)) : xJ p l e R s m args below meth c cells slots Q D cl A nL (S) (ws) (vs) (pc) (.int x :: st) := fun H locs ls hP hD hS hl => lv_if_ge G.1 G.2.1 d ht (fun h => kt h H locs ls hP hD hS hl) (fun h => kf h H locs ls hP hD hS hl)
theorem x_icmp_ge (G : xG p s m args c cc nL own Ts NW D cl tys A) {x y : Int32} {off : Int} (tgt : Nat) (d : decode cc pc = .ok (.if_icmp .ge off, 3)) (ht : (pc : Int) + off = (tgt : Int)) (kt : y ≤ x → xJ p l e R s m args below meth c cells slots Q D cl A nL (S) (ws) (vs) (tgt) (st)) (kf : ¬ y ≤ x → xJ p l e R s m args below meth c cells slots Q D cl A nL (S) (ws) (vs) (pc + 3) (st)) : xJ p l e R s m args below meth c cells slots Q D cl A nL (S) (ws) (vs) (pc) (.int y :: .int x :: st) := fun H locs ls hP hD hS hl => lv_icmp_ge G.1 G.2.1 d ht (fun h => kt h H locs ls hP hD hS hl) (fun h => kf h H locs ls hP hD hS hl)
theorem x_if_gt (G : xG p s m args c cc nL own Ts NW D cl tys A) {x : Int32} {off : Int} (tgt : Nat) (d : decode cc pc = .ok (.ifCond .gt off, 3)) (ht : (pc : Int) + off = (tgt : Int)) (kt : 0 < x → xJ p l e R s m args below meth c cells slots Q D cl A nL (S) (ws) (vs) (tgt) (st)) (kf : ¬ 0 < x → xJ p l e R s m args below meth c cells slots Q D cl A nL (S) (ws) (vs) (pc + 3) (st)) : xJ p l e R s m args below meth c cells slots Q D cl A nL (S) (ws) (vs) (pc) (.int x :: st) := fun H locs ls hP hD hS hl => lv_if_gt G.1 G.2.1 d ht (fun h => kt h H locs ls hP hD hS hl) (fun h => kf h H locs ls hP hD hS hl)
theorem x_icmp_gt (G : xG p s m args c cc nL own Ts NW D cl tys A) {x y : Int32} {off : Int} (tgt : Nat) (d : decode cc pc = .ok (.if_icmp .gt off, 3)) (ht : (pc : Int) + off = (tgt : Int)) (kt : y < x → xJ p l e R s m args below meth c cells slots Q D cl A nL (S) (ws) (vs) (tgt) (st)) (kf : ¬ y < x → xJ p l e R s m args below meth c cells slots Q D cl A nL (S) (ws) (vs) (pc + 3) (st)) : xJ p l e R s m args below meth c cells slots Q D cl A nL (S) (ws) (vs) (pc) (.int y :: .int x :: st) := fun H locs ls hP hD hS hl => lv_icmp_gt G.1 G.2.1 d ht (fun h => kt h H locs ls hP hD hS hl) (fun h => kf h H locs ls hP hD hS hl)
theorem x_if_le (G : xG p s m args c cc nL own Ts NW D cl tys A) {x : Int32} {off : Int} (tgt : Nat) (d : decode cc pc = .ok (.ifCond .le off, 3)) (ht : (pc : Int) + off = (tgt : Int)) (kt : x ≤ 0 → xJ p l e R s m args below meth c cells slots Q D cl A nL (S) (ws) (vs) (tgt) (st)) (kf : ¬ x ≤ 0 → xJ p l e R s m args below meth c cells slots Q D cl A nL (S) (ws) (vs) (pc + 3) (st)) : xJ p l e R s m args below meth c cells slots Q D cl A nL (S) (ws) (vs) (pc) (.int x :: st) := fun H locs ls hP hD hS hl => lv_if_le G.1 G.2.1 d ht (fun h => kt h H locs ls hP hD hS hl) (fun h => kf h H locs ls hP hD hS hl)
theorem x_icmp_le (G : xG p s m args c cc nL own Ts NW D cl tys A) {x y : Int32} {off : Int} (tgt : Nat) (d : decode cc pc = .ok (.if_icmp .le off, 3)) (ht : (pc : Int) + off = (tgt : Int)) (kt : x ≤ y → xJ p l e R s m args below meth c cells slots Q D cl A nL (S) (ws) (vs) (tgt) (st)) (kf : ¬ x ≤ y → xJ p l e R s m args below meth c cells slots Q D cl A nL (S) (ws) (vs) (pc + 3) (st)) : xJ p l e R s m args below meth c cells slots Q D cl A nL (S) (ws) (vs) (pc) (.int y :: .int x :: st) := fun H locs ls hP hD hS hl => lv_icmp_le G.1 G.2.1 d ht (fun h => kt h H locs ls hP hD hS hl) (fun h => kf h H locs ls hP hD hS hl)
theorem x_goto (G : xG p s m args c cc nL own Ts NW D cl tys A) {off : Int} (tgt : Nat) (d : decode cc pc = .ok (.goto off, 3)) (ht : (pc : Int) + off = (tgt : Int)) (k : xJ p l e R s m args below meth c cells slots Q D cl A nL (S) (ws) (vs) (tgt) (st)) : xJ p l e R s m args below meth c cells slots Q D cl A nL (S) (ws) (vs) (pc) (st) := fun H locs ls hP hD hS hl => lv_goto G.1 G.2.1 d ht (k H locs ls hP hD hS hl)
theorem x_tableOut (G : xG p s m args c cc nL own Ts NW D cl tys A) {dflt lo hi : Int} {offs : Array Int} {len : Nat} {x : Int32} (tgt : Nat) (d : decode cc pc = .ok (.tableswitch dflt lo hi offs, len)) (h : x.toInt < lo ∨ hi < x.toInt) (ht : (pc : Int) + dflt = (tgt : Int)) (k : xJ p l e R s m args below meth c cells slots Q D cl A nL (S) (ws) (vs) (tgt) (st)) : xJ p l e R s m args below meth c cells slots Q D cl A nL (S) (ws) (vs) (pc) (.int x :: st) := fun H locs ls hP hD hS hl => lv_tableOut G.1 G.2.1 d h ht (k H locs ls hP hD hS hl)
theorem x_tableIn (G : xG p s m args c cc nL own Ts NW D cl tys A) {dflt lo hi : Int} {offs : Array Int} {len : Nat} {x : Int32} {off : Int} (tgt : Nat) (d : decode cc pc = .ok (.tableswitch dflt lo hi offs, len)) (h1 : ¬ x.toInt < lo) (h2 : ¬ hi < x.toInt) (ho : offs[(x.toInt - lo).toNat]? = some off) (ht : (pc : Int) + off = (tgt : Int)) (k : xJ p l e R s m args below meth c cells slots Q D cl A nL (S) (ws) (vs) (tgt) (st)) : xJ p l e R s m args below meth c cells slots Q D cl A nL (S) (ws) (vs) (pc) (.int x :: st) := fun H locs ls hP hD hS hl => lv_tableIn G.1 G.2.1 d h1 h2 ho ht (k H locs ls hP hD hS hl)
theorem x_get (G : xG p s m args c cc nL own Ts NW D cl tys A) {ref C : String} {T : u_T} {N ci index : Nat} {a : Nat} (q0 : Nat) {fs : List Value} {v : Value} (he : ws[q0]? = some (a, .inr (ci, fs))) (hc : cl[ci]? = some (C, T, N)) (kf : Nat) (hk : kf < N) (hv : fs[kf]? = some v) (hin : ∀ w ∈ u_ws C T N, w ∈ Ts) (hlink : Cond.fieldLink own index ref (T kf).2.1 (T kf).2.2.1 ∈ Ts) (hsame : ref = (T kf).1) (d : decode cc pc = .ok (.getfield index, 3)) (k : xJ p l e R s m args below meth c cells slots Q D cl A nL (S) (ws) (vs) (pc + 3) (v :: st)) : xJ p l e R s m args below meth c cells slots Q D cl A nL (S) (ws) (vs) (pc) (.ref a :: st) := fun H locs ls hP hD hS hl => va_get G.1 G.2.1 G.2.2.2.2.1 hin G.2.2.2.1 G.2.2.2.2.2.1 hP q0 he hc kf hk (G.2.2.2.2.1 _ hlink) (fun _ h => by rw [hsame]; exact h) hv d (k H locs ls hP hD hS hl)
theorem x_getN (G : xG p s m args c cc nL own Ts NW D cl tys A) {ref C : String} {T : u_T} {N ci index : Nat} {a : Nat} {host : String} (q0 : Nat) {fs : List Value} {v : Value} (he : ws[q0]? = some (a, .inr (ci, fs))) (hc : cl[ci]? = some (C, T, N)) (kf : Nat) (hk : kf < N) (hv : fs[kf]? = some v) (hin : ∀ w ∈ u_ws C T N, w ∈ Ts) (hlink : Cond.fieldLinkNest own index ref (T kf).2.1 (T kf).2.2.1 host ∈ NW) (hsame : ref = (T kf).1) (d : decode cc pc = .ok (.getfield index, 3)) (k : xJ p l e R s m args below meth c cells slots Q D cl A nL (S) (ws) (vs) (pc + 3) (v :: st)) : xJ p l e R s m args below meth c cells slots Q D cl A nL (S) (ws) (vs) (pc) (.ref a :: st) := fun H locs ls hP hD hS hl => va_getN G.1 G.2.1 G.2.2.2.2.1 hin G.2.2.2.1 G.2.2.2.2.2.1 hP q0 he hc kf hk (nest_use (G.2.2.2.2.2.2.1 _ hlink).1 (G.2.2.2.2.2.2.1 _ hlink).2) (fun _ h => by rw [hsame]; exact h) hv d (k H locs ls hP hD hS hl)
theorem x_put (G : xG p s m args c cc nL own Ts NW D cl tys A) {ref C : String} {T : u_T} {N ci index : Nat} {a : Nat} {ty0 : Nat → FieldType} (q0 : Nat) {fs : List Value} {v : Value} {ty : FieldType} {ws' : va_W} (he : ws[q0]? = some (a, .inr (ci, fs))) (hc : cl[ci]? = some (C, T, N)) (kf : Nat) (hk : kf < N) (hl0 : kf < fs.length) (hw : ws.set q0 (a, .inr (ci, fs.set kf v)) = ws') (hin : ∀ w ∈ u_ws C T N, w ∈ Ts) (hty : ∀ k, k < N → parseFieldDescriptor (T k).2.2.1 = some (ty0 k)) (hnm : ∀ a, a < N → ∀ b, b < N → a ≠ b → (T a).2.1 ≠ (T b).2.1) (hlink : Cond.fieldLink own index ref (T kf).2.1 (T kf).2.2.1 ∈ Ts) (hsame : ref = (T kf).1) (hfin : (T kf).2.2.2 = false) (hd : parseFieldDescriptor (T kf).2.2.1 = some ty) (hn : narrow ty v = v) (hfit : fits ty v = true) (d : decode cc pc = .ok (.putfield index, 3)) (k : xJ p l e R s m args below meth c cells slots Q D cl A nL (va_S A s.heap) (ws') (vs) (pc + 3) (st)) : xJ p l e R s m args below meth c cells slots Q D cl A nL (va_S A s.heap) (ws) (vs) (pc) (v :: .ref a :: st) := fun H locs ls hP hD hS hl => va_put G.1 G.2.1 G.2.2.2.2.1 hin ty0 hty hnm G.2.2.2.1 G.2.2.2.2.2.1 hP hD hS q0 he hc kf hk (G.2.2.2.2.1 _ hlink) (fun _ h => by rw [hsame]; exact h) hfin hd hn hfit hl0 d (fun H1 locs1 hP hD hS => k H1 locs1 ls (hw ▸ hP) (hw ▸ hD) hS hl)
theorem x_putN (G : xG p s m args c cc nL own Ts NW D cl tys A) {ref C : String} {T : u_T} {N ci index : Nat} {a : Nat} {ty0 : Nat → FieldType} (q0 : Nat) {fs : List Value} {v : Value} {ty : FieldType} {ws' : va_W} (he : ws[q0]? = some (a, .inr (ci, fs))) (hc : cl[ci]? = some (C, T, N)) (kf : Nat) (hk : kf < N) (hl0 : kf < fs.length) (hw : ws.set q0 (a, .inr (ci, fs.set kf v)) = ws') (hin : ∀ w ∈ u_ws C T N, w ∈ Ts) (hty : ∀ k, k < N → parseFieldDescriptor (T k).2.2.1 = some (ty0 k)) (hnm : ∀ a, a < N → ∀ b, b < N → a ≠ b → (T a).2.1 ≠ (T b).2.1) {host : String} (hlink : Cond.fieldLinkNest own index ref (T kf).2.1 (T kf).2.2.1 host ∈ NW) (hsame : ref = (T kf).1) (hfin : (T kf).2.2.2 = false) (hd : parseFieldDescriptor (T kf).2.2.1 = some ty) (hn : narrow ty v = v) (hfit : fits ty v = true) (d : decode cc pc = .ok (.putfield index, 3)) (k : xJ p l e R s m args below meth c cells slots Q D cl A nL (va_S A s.heap) (ws') (vs) (pc + 3) (st)) : xJ p l e R s m args below meth c cells slots Q D cl A nL (va_S A s.heap) (ws) (vs) (pc) (v :: .ref a :: st) := fun H locs ls hP hD hS hl => va_putN G.1 G.2.1 G.2.2.2.2.1 hin ty0 hty hnm G.2.2.2.1 G.2.2.2.2.2.1 hP hD hS q0 he hc kf hk (nest_use (G.2.2.2.2.2.2.1 _ hlink).1 (G.2.2.2.2.2.2.1 _ hlink).2) (fun _ h => by rw [hsame]; exact h) hfin hd hn hfit hl0 d (fun H1 locs1 hP hD hS => k H1 locs1 ls (hw ▸ hP) (hw ▸ hD) hS hl)
theorem x_iald (G : xG p s m args c cc nL own Ts NW D cl tys A) {a : Nat} (q0 t0 : Nat) {cA : ClassId} {n : Nat} {f : Nat → Int32} (ha : ws[q0]? = some (a, .inl (cA, n, .inl f))) (ht : tys[t0]? = some (cA, .int)) {i : Int32} (hin : vp_in i n) (d : decode cc pc = .ok (.iaload, 1)) (k : xJ p l e R s m args below meth c cells slots Q D cl A nL (S) (ws) (vs) (pc + 1) (.int (f i.toNatClampNeg) :: st)) : xJ p l e R s m args below meth c cells slots Q D cl A nL (S) (ws) (vs) (pc) (.int i :: .ref a :: st) := fun H locs ls hP hD hS hl => va_iald G.1 G.2.1 G.2.2.2.2.2.1 hP q0 t0 ha ht hin d (k H locs ls hP hD hS hl)
theorem x_zald (G : xG p s m args c cc nL own Ts NW D cl tys A) {a : Nat} (q0 t0 : Nat) {cA : ClassId} {n : Nat} {f : Nat → Int32} (ha : ws[q0]? = some (a, .inl (cA, n, .inl f))) (ht : tys[t0]? = some (cA, .boolean)) {i : Int32} (hin : vp_in i n) (d : decode cc pc = .ok (.baload, 1)) (k : xJ p l e R s m args below meth c cells slots Q D cl A nL (S) (ws) (vs) (pc + 1) (.int (f i.toNatClampNeg) :: st)) : xJ p l e R s m args below meth c cells slots Q D cl A nL (S) (ws) (vs) (pc) (.int i :: .ref a :: st) := fun H locs ls hP hD hS hl => va_zald G.1 G.2.1 G.2.2.2.2.2.1 hP q0 t0 ha ht hin d (k H locs ls hP hD hS hl)
theorem x_lald (G : xG p s m args c cc nL own Ts NW D cl tys A) {a : Nat} (q0 t0 : Nat) {cA : ClassId} {n : Nat} {f : Nat → Int64} (ha : ws[q0]? = some (a, .inl (cA, n, .inr (.inl f)))) (ht : tys[t0]? = some (cA, .long)) {i : Int32} (hin : vp_in i n) (d : decode cc pc = .ok (.laload, 1)) (k : xJ p l e R s m args below meth c cells slots Q D cl A nL (S) (ws) (vs) (pc + 1) (.long (f i.toNatClampNeg) :: st)) : xJ p l e R s m args below meth c cells slots Q D cl A nL (S) (ws) (vs) (pc) (.int i :: .ref a :: st) := fun H locs ls hP hD hS hl => va_lald G.1 G.2.1 G.2.2.2.2.2.1 hP q0 t0 ha ht hin d (k H locs ls hP hD hS hl)
theorem x_iast (G : xG p s m args c cc nL own Ts NW D cl tys A) {a : Nat} (q0 t0 : Nat) {cA : ClassId} {n : Nat} {f : Nat → Int32} {ws' : va_W} {i x : Int32} (ha : ws[q0]? = some (a, .inl (cA, n, .inl f))) (ht : tys[t0]? = some (cA, .int)) (hw : ws.set q0 (a, .inl (cA, n, .inl (upd f i.toNatClampNeg x))) = ws') (hin : vp_in i n) (d : decode cc pc = .ok (.iastore, 1)) (k : xJ p l e R s m args below meth c cells slots Q D cl A nL (va_S A s.heap) (ws') (vs) (pc + 1) (st)) : xJ p l e R s m args below meth c cells slots Q D cl A nL (va_S A s.heap) (ws) (vs) (pc) (.int x :: .int i :: .ref a :: st) := fun H locs ls hP hD hS hl => va_iast G.1 G.2.1 G.2.2.2.2.2.1 hP hD hS q0 t0 ha ht hin d (fun H1 locs1 hP hD hS => k H1 locs1 ls (hw ▸ hP) (hw ▸ hD) hS hl)
theorem x_zast (G : xG p s m args c cc nL own Ts NW D cl tys A) {a : Nat} (q0 t0 : Nat) {cA : ClassId} {n : Nat} {f : Nat → Int32} {ws' : va_W} {i x : Int32} (ha : ws[q0]? = some (a, .inl (cA, n, .inl f))) (ht : tys[t0]? = some (cA, .boolean)) (hx : vp_nar .boolean x = x) (hw : ws.set q0 (a, .inl (cA, n, .inl (upd f i.toNatClampNeg x))) = ws') (hin : vp_in i n) (d : decode cc pc = .ok (.bastore, 1)) (k : xJ p l e R s m args below meth c cells slots Q D cl A nL (va_S A s.heap) (ws') (vs) (pc + 1) (st)) : xJ p l e R s m args below meth c cells slots Q D cl A nL (va_S A s.heap) (ws) (vs) (pc) (.int x :: .int i :: .ref a :: st) := fun H locs ls hP hD hS hl => va_zast G.1 G.2.1 G.2.2.2.2.2.1 hP hD hS q0 t0 ha ht hin d (fun H1 locs1 hP hD hS => k H1 locs1 ls (hw ▸ (hx ▸ hP)) (hw ▸ (hx ▸ hD)) hS hl)
theorem x_last (G : xG p s m args c cc nL own Ts NW D cl tys A) {a : Nat} (q0 t0 : Nat) {cA : ClassId} {n : Nat} {f : Nat → Int64} {ws' : va_W} {i : Int32} {x : Int64} (ha : ws[q0]? = some (a, .inl (cA, n, .inr (.inl f)))) (ht : tys[t0]? = some (cA, .long)) (hw : ws.set q0 (a, .inl (cA, n, .inr (.inl (vp_updL f i.toNatClampNeg x)))) = ws') (hin : vp_in i n) (d : decode cc pc = .ok (.lastore, 1)) (k : xJ p l e R s m args below meth c cells slots Q D cl A nL (va_S A s.heap) (ws') (vs) (pc + 1) (st)) : xJ p l e R s m args below meth c cells slots Q D cl A nL (va_S A s.heap) (ws) (vs) (pc) (.long x :: .int i :: .ref a :: st) := fun H locs ls hP hD hS hl => va_last G.1 G.2.1 G.2.2.2.2.2.1 hP hD hS q0 t0 ha ht hin d (fun H1 locs1 hP hD hS => k H1 locs1 ls (hw ▸ hP) (hw ▸ hD) hS hl)
theorem x_alen (G : xG p s m args c cc nL own Ts NW D cl tys A) {a : Nat} (q0 t0 : Nat) {cA : ClassId} {x : vp_A} (ha : ws[q0]? = some (a, .inl (cA, x))) {ty : FieldType} (ht : tys[t0]? = some (cA, ty)) (v : Int32) (hv : Int32.ofNat x.1 = v) (d : decode cc pc = .ok (.arraylength, 1)) (k : xJ p l e R s m args below meth c cells slots Q D cl A nL (S) (ws) (vs) (pc + 1) (.int v :: st)) : xJ p l e R s m args below meth c cells slots Q D cl A nL (S) (ws) (vs) (pc) (.ref a :: st) := fun H locs ls hP hD hS hl => va_alen G.1 G.2.1 G.2.2.2.2.2.1 hP q0 t0 ha ht hv d (k H locs ls hP hD hS hl)
theorem x_mmax (G : xG p s m args c cc nL own Ts NW D cl tys A) {index : Nat} {x y : Int32} (hlink : Cond.methodLink own index Lib.Math.max.name ∈ Ts) (hstat : Cond.static Lib.Math.max.name ∈ Ts) (hini : Cond.initialized "java/lang/Math" ∈ Ts) (hcode : Cond.code Lib.Math.max.name Lib.Math.max.code 2 (some .int) ∈ Ts) (hR : 1 ≤ R.frames ∧ (st.map fun v => v.category).sum + 13 ≤ R.locals ∧ cells ≤ R.cells ∧ slots ≤ R.slots) (d : decode cc pc = .ok (.invokestatic index, 3)) (k : xJ p l e R s m args below meth c cells slots Q D cl A nL (S) (ws) (vs) (pc + 3) (.int (if x < y then y else x) :: st)) : xJ p l e R s m args below meth c cells slots Q D cl A nL (S) (ws) (vs) (pc) (.int y :: .int x :: st) := fun H locs ls hP hD hS hl => va_mmax G.1 G.2.1 (G.2.2.1.trans hl.1.symm) G.2.2.2.1 (G.2.2.2.2.1 _ hlink) (G.2.2.2.2.1 _ hstat) (G.2.2.2.2.1 _ hini) (G.2.2.2.2.1 _ hcode) hR.1 hR.2.1 hR.2.2.1 hR.2.2.2 d (k H locs ls hP hD hS hl)
theorem x_mmin (G : xG p s m args c cc nL own Ts NW D cl tys A) {index : Nat} {x y : Int32} (hlink : Cond.methodLink own index Lib.Math.min.name ∈ Ts) (hstat : Cond.static Lib.Math.min.name ∈ Ts) (hini : Cond.initialized "java/lang/Math" ∈ Ts) (hcode : Cond.code Lib.Math.min.name Lib.Math.min.code 2 (some .int) ∈ Ts) (hR : 1 ≤ R.frames ∧ (st.map fun v => v.category).sum + 13 ≤ R.locals ∧ cells ≤ R.cells ∧ slots ≤ R.slots) (d : decode cc pc = .ok (.invokestatic index, 3)) (k : xJ p l e R s m args below meth c cells slots Q D cl A nL (S) (ws) (vs) (pc + 3) (.int (if y < x then y else x) :: st)) : xJ p l e R s m args below meth c cells slots Q D cl A nL (S) (ws) (vs) (pc) (.int y :: .int x :: st) := fun H locs ls hP hD hS hl => va_mmin G.1 G.2.1 (G.2.2.1.trans hl.1.symm) G.2.2.2.1 (G.2.2.2.2.1 _ hlink) (G.2.2.2.2.1 _ hstat) (G.2.2.2.2.1 _ hini) (G.2.2.2.2.1 _ hcode) hR.1 hR.2.1 hR.2.2.1 hR.2.2.2 d (k H locs ls hP hD hS hl)
theorem x_name {x : Int32} (k : ∀ z : Int32, z = x → xJ p l e R s m args below meth c cells slots Q D cl A nL (S) (ws) (vs) (pc) (.int z :: st)) : xJ p l e R s m args below meth c cells slots Q D cl A nL (S) (ws) (vs) (pc) (.int x :: st) := k x rfl
theorem x_top {x z : Int32} (h : x = z) (k : xJ p l e R s m args below meth c cells slots Q D cl A nL (S) (ws) (vs) (pc) (.int z :: st)) : xJ p l e R s m args below meth c cells slots Q D cl A nL (S) (ws) (vs) (pc) (.int x :: st) := h ▸ k
theorem x_topl {x z : Int64} (h : x = z) (k : xJ p l e R s m args below meth c cells slots Q D cl A nL (S) (ws) (vs) (pc) (.long z :: st)) : xJ p l e R s m args below meth c cells slots Q D cl A nL (S) (ws) (vs) (pc) (.long x :: st) := h ▸ k
theorem x_eq {ws2 : va_W} {vs2 : List Value} {pc2 : Nat} {st2 : List Value} (hw : ws = ws2) (hv : vs = vs2) (hp : pc = pc2) (ht : st = st2) (k : xJ p l e R s m args below meth c cells slots Q D cl A nL (S) (ws2) (vs2) (pc2) (st2)) : xJ p l e R s m args below meth c cells slots Q D cl A nL (S) (ws) (vs) (pc) (st) := by subst hw; subst hv; subst hp; subst ht; exact k
def xCi (l : Launch) (D : va_G) (cl : List vw_C) (tys : List (ClassId × FieldType)) (NW : List Cond) (wf : xSg → va_W) (y : MethodName) (Ts : List Cond) (d : Nat) (as : List Value) (σ : xSg) (post : Int32 → xSg → Prop) : Prop := ∀ sz : Nat, Met l y Ts { frames := d, cells := 0, slots := 0, locals := 40 * d } (va_Pc as (fun U => U.heap.size = sz ∧ va_P D cl (wf σ) U.heap ∧ va_K D cl tys U ∧ (∀ c ∈ NW, isNest c = true ∧ va_Nw c U) ∧ va_D (fun _ => True) (wf σ))) (va_Qi post (fun u t => va_P D cl (wf u) t.heap ∧ va_D (va_A (wf σ) sz) (wf u)) (va_A (wf σ) sz)) 0 0 (va_A (wf σ) sz)
theorem x_reti (G : xG p s m args c cc nL own Ts NW D cl tys A) {wf : xSg → va_W} {σ : xSg} {post : Int32 → xSg → Prop} {v : Int32} {rt : FieldType} (hr : meth.sig.returnType = some rt) (hlk : meth.locks = false) (hn : narrow rt (.int v) = .int v) (d : decode cc pc = .ok (.ireturn, 1)) (hp : post v σ) : xJ p l e R s m args below meth c 0 0 (MQ below (va_Qi post (fun u t => va_P D cl (wf u) t.heap ∧ va_D A (wf u)) A) args s 0 0 A) D cl A nL (va_S A s.heap) (wf σ) vs pc [.int v] := fun H locs ls hP hD hS hl => W.zret G.1 G.2.1 hr hn (fun t ht hW => ⟨⟨v, σ, rfl, hp, by rw [ht]; exact hP, hD⟩, hS.F ht⟩) hS.2.2 d hlk
theorem xCi.of {wf : xSg → va_W} {y : MethodName} {d : Nat} {as : List Value} {σ : xSg} {post : Int32 → xSg → Prop} {ret : Option FieldType} {Ts' : List Cond} (hT : Ts = Cond.code y cc nL ret :: Ts') (hy : plainName y.cls = true) (vs : List Value) (hvs : asL vs = lv_args 0 as) (hlen : (lg_sl as).length ≤ nL)
    (body : ∀ (p : Program) (e : Env) (s : State) (m : MethodId) (args : Array Value) (below : List Frame) (meth : Method) (c : Code) (A : Nat → Prop), xG p s m args c cc nL y.cls Ts NW D cl tys A → meth.sig.returnType = ret → meth.locks = false → xJ p l e { frames := d, cells := 0, slots := 0, locals := 40 * d } s m args below meth c 0 0 (MQ below (va_Qi post (fun u t => va_P D cl (wf u) t.heap ∧ va_D A (wf u)) A) args s 0 0 A) D cl A nL (va_S A s.heap) (wf σ) vs 0 []) : xCi l D cl tys NW wf y Ts d as σ post := by
  intro sz
  refine Met.ofW (cc := cc) (maxL := nL) (ret := ret) hy hT ?_
  intro p e s m args below meth c s₁ B hml hv
  obtain ⟨rfl, hsz, hP, hK, hN, hD0⟩ := hv
  subst hsz
  have hD := hD0.self (sz := s.heap.size)
  have hl := lv_entry as (n := nL) hlen
  rw [lg_entry_eq]
  generalize (lg_sl as ++ List.replicate (nL - (lg_sl as).length) Slot.unset).toArray = ls at hl ⊢
  rw [← hvs] at hl
  exact body p e s m _ below meth c (va_A (wf σ) s.heap.size) ⟨B.exec, B.bytes, hml, findClass_of_methodNamed B.named, atoms_spec (ws := Ts) B.pre, hK, hN, fun q h => Or.inr h⟩ B.returns B.notSynchronized s.heap [] ls hP hD va_S.rf (xLV.of hl)
def xCl (l : Launch) (D : va_G) (cl : List vw_C) (tys : List (ClassId × FieldType)) (NW : List Cond) (wf : xSg → va_W) (y : MethodName) (Ts : List Cond) (d : Nat) (as : List Value) (σ : xSg) (post : Int64 → xSg → Prop) : Prop := ∀ sz : Nat, Met l y Ts { frames := d, cells := 0, slots := 0, locals := 40 * d } (va_Pc as (fun U => U.heap.size = sz ∧ va_P D cl (wf σ) U.heap ∧ va_K D cl tys U ∧ (∀ c ∈ NW, isNest c = true ∧ va_Nw c U) ∧ va_D (fun _ => True) (wf σ))) (va_Ql post (fun u t => va_P D cl (wf u) t.heap ∧ va_D (va_A (wf σ) sz) (wf u)) (va_A (wf σ) sz)) 0 0 (va_A (wf σ) sz)
theorem x_retl (G : xG p s m args c cc nL own Ts NW D cl tys A) {wf : xSg → va_W} {σ : xSg} {post : Int64 → xSg → Prop} {v : Int64} (hr : meth.sig.returnType = some .long) (hlk : meth.locks = false) (d : decode cc pc = .ok (.lreturn, 1)) (hp : post v σ) : xJ p l e R s m args below meth c 0 0 (MQ below (va_Ql post (fun u t => va_P D cl (wf u) t.heap ∧ va_D A (wf u)) A) args s 0 0 A) D cl A nL (va_S A s.heap) (wf σ) vs pc [.long v] := fun H locs ls hP hD hS hl => W.lret G.1 G.2.1 hr (fun t ht hW => ⟨⟨v, σ, rfl, hp, by rw [ht]; exact hP, hD⟩, hS.F ht⟩) hS.2.2 d hlk
theorem xCl.of {wf : xSg → va_W} {y : MethodName} {d : Nat} {as : List Value} {σ : xSg} {post : Int64 → xSg → Prop} {ret : Option FieldType} {Ts' : List Cond} (hT : Ts = Cond.code y cc nL ret :: Ts') (hy : plainName y.cls = true) (vs : List Value) (hvs : asL vs = lv_args 0 as) (hlen : (lg_sl as).length ≤ nL)
    (body : ∀ (p : Program) (e : Env) (s : State) (m : MethodId) (args : Array Value) (below : List Frame) (meth : Method) (c : Code) (A : Nat → Prop), xG p s m args c cc nL y.cls Ts NW D cl tys A → meth.sig.returnType = ret → meth.locks = false → xJ p l e { frames := d, cells := 0, slots := 0, locals := 40 * d } s m args below meth c 0 0 (MQ below (va_Ql post (fun u t => va_P D cl (wf u) t.heap ∧ va_D A (wf u)) A) args s 0 0 A) D cl A nL (va_S A s.heap) (wf σ) vs 0 []) : xCl l D cl tys NW wf y Ts d as σ post := by
  intro sz
  refine Met.ofW (cc := cc) (maxL := nL) (ret := ret) hy hT ?_
  intro p e s m args below meth c s₁ B hml hv
  obtain ⟨rfl, hsz, hP, hK, hN, hD0⟩ := hv
  subst hsz
  have hD := hD0.self (sz := s.heap.size)
  have hl := lv_entry as (n := nL) hlen
  rw [lg_entry_eq]
  generalize (lg_sl as ++ List.replicate (nL - (lg_sl as).length) Slot.unset).toArray = ls at hl ⊢
  rw [← hvs] at hl
  exact body p e s m _ below meth c (va_A (wf σ) s.heap.size) ⟨B.exec, B.bytes, hml, findClass_of_methodNamed B.named, atoms_spec (ws := Ts) B.pre, hK, hN, fun q h => Or.inr h⟩ B.returns B.notSynchronized s.heap [] ls hP hD va_S.rf (xLV.of hl)
def xCv (l : Launch) (D : va_G) (cl : List vw_C) (tys : List (ClassId × FieldType)) (NW : List Cond) (wf : xSg → va_W) (y : MethodName) (Ts : List Cond) (d : Nat) (as : List Value) (σ : xSg) (post : xSg → Prop) : Prop := ∀ sz : Nat, Met l y Ts { frames := d, cells := 0, slots := 0, locals := 40 * d } (va_Pc as (fun U => U.heap.size = sz ∧ va_P D cl (wf σ) U.heap ∧ va_K D cl tys U ∧ (∀ c ∈ NW, isNest c = true ∧ va_Nw c U) ∧ va_D (fun _ => True) (wf σ))) (va_Qv post (fun u t => va_P D cl (wf u) t.heap ∧ va_D (va_A (wf σ) sz) (wf u)) (va_A (wf σ) sz)) 0 0 (va_A (wf σ) sz)
theorem x_retv (G : xG p s m args c cc nL own Ts NW D cl tys A) {wf : xSg → va_W} {σ : xSg} {post : xSg → Prop} (hr : meth.sig.returnType = none) (hlk : meth.locks = false) (d : decode cc pc = .ok (.return_, 1)) (hp : post σ) : xJ p l e R s m args below meth c 0 0 (MQ below (va_Qv post (fun u t => va_P D cl (wf u) t.heap ∧ va_D A (wf u)) A) args s 0 0 A) D cl A nL (va_S A s.heap) (wf σ) vs pc [] := fun H locs ls hP hD hS hl => W.vret G.1 G.2.1 hr (fun t ht hW => ⟨⟨σ, rfl, hp, by rw [ht]; exact hP, hD⟩, hS.F ht⟩) hS.2.2 d hlk
theorem xCv.of {wf : xSg → va_W} {y : MethodName} {d : Nat} {as : List Value} {σ : xSg} {post : xSg → Prop} {ret : Option FieldType} {Ts' : List Cond} (hT : Ts = Cond.code y cc nL ret :: Ts') (hy : plainName y.cls = true) (vs : List Value) (hvs : asL vs = lv_args 0 as) (hlen : (lg_sl as).length ≤ nL)
    (body : ∀ (p : Program) (e : Env) (s : State) (m : MethodId) (args : Array Value) (below : List Frame) (meth : Method) (c : Code) (A : Nat → Prop), xG p s m args c cc nL y.cls Ts NW D cl tys A → meth.sig.returnType = ret → meth.locks = false → xJ p l e { frames := d, cells := 0, slots := 0, locals := 40 * d } s m args below meth c 0 0 (MQ below (va_Qv post (fun u t => va_P D cl (wf u) t.heap ∧ va_D A (wf u)) A) args s 0 0 A) D cl A nL (va_S A s.heap) (wf σ) vs 0 []) : xCv l D cl tys NW wf y Ts d as σ post := by
  intro sz
  refine Met.ofW (cc := cc) (maxL := nL) (ret := ret) hy hT ?_
  intro p e s m args below meth c s₁ B hml hv
  obtain ⟨rfl, hsz, hP, hK, hN, hD0⟩ := hv
  subst hsz
  have hD := hD0.self (sz := s.heap.size)
  have hl := lv_entry as (n := nL) hlen
  rw [lg_entry_eq]
  generalize (lg_sl as ++ List.replicate (nL - (lg_sl as).length) Slot.unset).toArray = ls at hl ⊢
  rw [← hvs] at hl
  exact body p e s m _ below meth c (va_A (wf σ) s.heap.size) ⟨B.exec, B.bytes, hml, findClass_of_methodNamed B.named, atoms_spec (ws := Ts) B.pre, hK, hN, fun q h => Or.inr h⟩ B.returns B.notSynchronized s.heap [] ls hP hD va_S.rf (xLV.of hl)
theorem x_free {ws : va_W} {H0 H : Heap} {locs : List Loc} {A : Nat → Prop} (hD : va_D A ws) (hS : va_S A H0 H locs) (hA : ∀ q : Nat, H0.size ≤ q → A q) : ∀ q, va_A ws H.size q → A q := fun q h => by
  rcases h with ⟨k, e, hk⟩ | h
  · exact hD.2 k _ hk
  · exact hA q (Nat.le_trans hS.1 h)
theorem x_callV0i (G : xG p s m args c cc nL own Ts NW D cl tys A) {wf : xSg → va_W} {σ : xSg} {b : Nat} {C : String} {y : MethodName} {bytes : ByteArray} {maxL index d : Nat} {ret : Option FieldType} {Tc : List Cond} {post : Int32 → xSg → Prop} (hM : xCi l D cl tys NW wf y Tc d [.ref b] σ post) (q0 : Nat) {fs : List Value} {ci : Nat} {T : u_T} {N : Nat} (he : (wf σ)[q0]? = some (b, .inr (ci, fs))) (hc : cl[ci]? = some (C, T, N)) (cw : CallW R s args own C index y bytes maxL ret Tc { frames := d, cells := 0, slots := 0, locals := 40 * d } 0 0 0) (dd : decode cc pc = .ok (.invokevirtual index, 3)) (hroom : (st.map fun v => v.category).sum ≤ 8) (hcs : cells ≤ R.cells ∧ slots ≤ R.slots) (k : ∀ (r : Int32) (u : xSg), post r u → xJ p l e R s m args below meth c cells slots Q D cl A nL (va_S A s.heap) (wf u) (vs) (pc + 3) (.int r :: st)) : xJ p l e R s m args below meth c cells slots Q D cl A nL (va_S A s.heap) (wf σ) (vs) (pc) (.ref b :: st) := fun H locs ls hP hD hS hl => by
  have hFc := x_free hD hS G.2.2.2.2.2.2.2
  refine va_calli (va_runV (As := []) (rest := st) ⟨G.1, G.2.1, G.2.2.1, G.2.2.2.1, G.2.2.2.2.1⟩ (hM H.size) cw ⟨fun a U g mk q => by obtain ⟨q0, q1, qP, qK, qN, qD⟩ := q; exact ⟨q0, q1, qP, va_K.moved (u := U) (U := U.calling g mk a) (Vm.Alike.refl U.vm) qK, fun c hc => ⟨(qN c hc).1, nest_same (s := U) (U := U.calling g mk a) (qN c hc).1 rfl (qN c hc).2⟩, qD⟩, va_recv G.2.2.2.2.2.1 hP hc he, fun U hU hW => ⟨rfl, by rw [hU], by rw [hU]; exact hP, va_K.moved hW.alike G.2.2.2.2.2.1, fun c hc => ⟨(G.2.2.2.2.2.2.1 c hc).1, nest_warm (G.2.2.2.2.2.2.1 c hc).1 hW (G.2.2.2.2.2.2.1 c hc).2⟩, hD.weaken (fun _ _ _ _ => trivial)⟩⟩ rfl rfl hl.1 rfl (lv_room hroom) dd ⟨hcs.1, hcs.2⟩) hS (fun q _ h => hFc q h) hFc (fun r u t H1 locs1 ht hvm hw hB hz1 hk1 hS1 => ?_)
  obtain ⟨hP1, hD1⟩ := hB
  rw [ht] at hP1
  exact k r u hw H1 locs1 ls hP1 (hD1.weaken (fun _ q _ h => hFc q.1 h)) hS1 hl
theorem x_callV0l (G : xG p s m args c cc nL own Ts NW D cl tys A) {wf : xSg → va_W} {σ : xSg} {b : Nat} {C : String} {y : MethodName} {bytes : ByteArray} {maxL index d : Nat} {ret : Option FieldType} {Tc : List Cond} {post : Int64 → xSg → Prop} (hM : xCl l D cl tys NW wf y Tc d [.ref b] σ post) (q0 : Nat) {fs : List Value} {ci : Nat} {T : u_T} {N : Nat} (he : (wf σ)[q0]? = some (b, .inr (ci, fs))) (hc : cl[ci]? = some (C, T, N)) (cw : CallW R s args own C index y bytes maxL ret Tc { frames := d, cells := 0, slots := 0, locals := 40 * d } 0 0 0) (dd : decode cc pc = .ok (.invokevirtual index, 3)) (hroom : (st.map fun v => v.category).sum ≤ 8) (hcs : cells ≤ R.cells ∧ slots ≤ R.slots) (k : ∀ (r : Int64) (u : xSg), post r u → xJ p l e R s m args below meth c cells slots Q D cl A nL (va_S A s.heap) (wf u) (vs) (pc + 3) (.long r :: st)) : xJ p l e R s m args below meth c cells slots Q D cl A nL (va_S A s.heap) (wf σ) (vs) (pc) (.ref b :: st) := fun H locs ls hP hD hS hl => by
  have hFc := x_free hD hS G.2.2.2.2.2.2.2
  refine va_calll (va_runV (As := []) (rest := st) ⟨G.1, G.2.1, G.2.2.1, G.2.2.2.1, G.2.2.2.2.1⟩ (hM H.size) cw ⟨fun a U g mk q => by obtain ⟨q0, q1, qP, qK, qN, qD⟩ := q; exact ⟨q0, q1, qP, va_K.moved (u := U) (U := U.calling g mk a) (Vm.Alike.refl U.vm) qK, fun c hc => ⟨(qN c hc).1, nest_same (s := U) (U := U.calling g mk a) (qN c hc).1 rfl (qN c hc).2⟩, qD⟩, va_recv G.2.2.2.2.2.1 hP hc he, fun U hU hW => ⟨rfl, by rw [hU], by rw [hU]; exact hP, va_K.moved hW.alike G.2.2.2.2.2.1, fun c hc => ⟨(G.2.2.2.2.2.2.1 c hc).1, nest_warm (G.2.2.2.2.2.2.1 c hc).1 hW (G.2.2.2.2.2.2.1 c hc).2⟩, hD.weaken (fun _ _ _ _ => trivial)⟩⟩ rfl rfl hl.1 rfl (lv_room hroom) dd ⟨hcs.1, hcs.2⟩) hS (fun q _ h => hFc q h) hFc (fun r u t H1 locs1 ht hvm hw hB hz1 hk1 hS1 => ?_)
  obtain ⟨hP1, hD1⟩ := hB
  rw [ht] at hP1
  exact k r u hw H1 locs1 ls hP1 (hD1.weaken (fun _ q _ h => hFc q.1 h)) hS1 hl
theorem x_callV0v (G : xG p s m args c cc nL own Ts NW D cl tys A) {wf : xSg → va_W} {σ : xSg} {b : Nat} {C : String} {y : MethodName} {bytes : ByteArray} {maxL index d : Nat} {ret : Option FieldType} {Tc : List Cond} {post : xSg → Prop} (hM : xCv l D cl tys NW wf y Tc d [.ref b] σ post) (q0 : Nat) {fs : List Value} {ci : Nat} {T : u_T} {N : Nat} (he : (wf σ)[q0]? = some (b, .inr (ci, fs))) (hc : cl[ci]? = some (C, T, N)) (cw : CallW R s args own C index y bytes maxL ret Tc { frames := d, cells := 0, slots := 0, locals := 40 * d } 0 0 0) (dd : decode cc pc = .ok (.invokevirtual index, 3)) (hroom : (st.map fun v => v.category).sum ≤ 8) (hcs : cells ≤ R.cells ∧ slots ≤ R.slots) (k : ∀ (u : xSg), post u → xJ p l e R s m args below meth c cells slots Q D cl A nL (va_S A s.heap) (wf u) (vs) (pc + 3) (st)) : xJ p l e R s m args below meth c cells slots Q D cl A nL (va_S A s.heap) (wf σ) (vs) (pc) (.ref b :: st) := fun H locs ls hP hD hS hl => by
  have hFc := x_free hD hS G.2.2.2.2.2.2.2
  refine va_callv (va_runV (As := []) (rest := st) ⟨G.1, G.2.1, G.2.2.1, G.2.2.2.1, G.2.2.2.2.1⟩ (hM H.size) cw ⟨fun a U g mk q => by obtain ⟨q0, q1, qP, qK, qN, qD⟩ := q; exact ⟨q0, q1, qP, va_K.moved (u := U) (U := U.calling g mk a) (Vm.Alike.refl U.vm) qK, fun c hc => ⟨(qN c hc).1, nest_same (s := U) (U := U.calling g mk a) (qN c hc).1 rfl (qN c hc).2⟩, qD⟩, va_recv G.2.2.2.2.2.1 hP hc he, fun U hU hW => ⟨rfl, by rw [hU], by rw [hU]; exact hP, va_K.moved hW.alike G.2.2.2.2.2.1, fun c hc => ⟨(G.2.2.2.2.2.2.1 c hc).1, nest_warm (G.2.2.2.2.2.2.1 c hc).1 hW (G.2.2.2.2.2.2.1 c hc).2⟩, hD.weaken (fun _ _ _ _ => trivial)⟩⟩ rfl rfl hl.1 rfl (lv_room hroom) dd ⟨hcs.1, hcs.2⟩) hS (fun q _ h => hFc q h) hFc (fun u t H1 locs1 ht hvm hw hB hz1 hk1 hS1 => ?_)
  obtain ⟨hP1, hD1⟩ := hB
  rw [ht] at hP1
  exact k u hw H1 locs1 ls hP1 (hD1.weaken (fun _ q _ h => hFc q.1 h)) hS1 hl
theorem x_callVN0i (G : xG p s m args c cc nL own Ts NW D cl tys A) {wf : xSg → va_W} {σ : xSg} {b : Nat} {C : String} {host : String} {y : MethodName} {bytes : ByteArray} {maxL index d : Nat} {ret : Option FieldType} {Tc : List Cond} {post : Int32 → xSg → Prop} (hM : xCi l D cl tys NW wf y Tc d [.ref b] σ post) (q0 : Nat) {fs : List Value} {ci : Nat} {T : u_T} {N : Nat} (he : (wf σ)[q0]? = some (b, .inr (ci, fs))) (hc : cl[ci]? = some (C, T, N)) (cw : (va_CN R s args own index y host bytes maxL ret Tc { frames := d, cells := 0, slots := 0, locals := 40 * d } 0 0 0 ∧ (Cond.instanceMethod y).before args s = true ∧ (Cond.selects C y y).before args s = true)) (dd : decode cc pc = .ok (.invokevirtual index, 3)) (hroom : (st.map fun v => v.category).sum ≤ 8) (hcs : cells ≤ R.cells ∧ slots ≤ R.slots) (k : ∀ (r : Int32) (u : xSg), post r u → xJ p l e R s m args below meth c cells slots Q D cl A nL (va_S A s.heap) (wf u) (vs) (pc + 3) (.int r :: st)) : xJ p l e R s m args below meth c cells slots Q D cl A nL (va_S A s.heap) (wf σ) (vs) (pc) (.ref b :: st) := fun H locs ls hP hD hS hl => by
  have hFc := x_free hD hS G.2.2.2.2.2.2.2
  refine va_calli (va_runVN (As := []) (rest := st) ⟨G.1, G.2.1, G.2.2.1, G.2.2.2.1, G.2.2.2.2.1⟩ (hM H.size) cw ⟨fun a U g mk q => by obtain ⟨q0, q1, qP, qK, qN, qD⟩ := q; exact ⟨q0, q1, qP, va_K.moved (u := U) (U := U.calling g mk a) (Vm.Alike.refl U.vm) qK, fun c hc => ⟨(qN c hc).1, nest_same (s := U) (U := U.calling g mk a) (qN c hc).1 rfl (qN c hc).2⟩, qD⟩, va_recv G.2.2.2.2.2.1 hP hc he, fun U hU hW => ⟨rfl, by rw [hU], by rw [hU]; exact hP, va_K.moved hW.alike G.2.2.2.2.2.1, fun c hc => ⟨(G.2.2.2.2.2.2.1 c hc).1, nest_warm (G.2.2.2.2.2.2.1 c hc).1 hW (G.2.2.2.2.2.2.1 c hc).2⟩, hD.weaken (fun _ _ _ _ => trivial)⟩⟩ rfl rfl hl.1 rfl (lv_room hroom) dd ⟨hcs.1, hcs.2⟩) hS (fun q _ h => hFc q h) hFc (fun r u t H1 locs1 ht hvm hw hB hz1 hk1 hS1 => ?_)
  obtain ⟨hP1, hD1⟩ := hB
  rw [ht] at hP1
  exact k r u hw H1 locs1 ls hP1 (hD1.weaken (fun _ q _ h => hFc q.1 h)) hS1 hl
theorem x_callVN0l (G : xG p s m args c cc nL own Ts NW D cl tys A) {wf : xSg → va_W} {σ : xSg} {b : Nat} {C : String} {host : String} {y : MethodName} {bytes : ByteArray} {maxL index d : Nat} {ret : Option FieldType} {Tc : List Cond} {post : Int64 → xSg → Prop} (hM : xCl l D cl tys NW wf y Tc d [.ref b] σ post) (q0 : Nat) {fs : List Value} {ci : Nat} {T : u_T} {N : Nat} (he : (wf σ)[q0]? = some (b, .inr (ci, fs))) (hc : cl[ci]? = some (C, T, N)) (cw : (va_CN R s args own index y host bytes maxL ret Tc { frames := d, cells := 0, slots := 0, locals := 40 * d } 0 0 0 ∧ (Cond.instanceMethod y).before args s = true ∧ (Cond.selects C y y).before args s = true)) (dd : decode cc pc = .ok (.invokevirtual index, 3)) (hroom : (st.map fun v => v.category).sum ≤ 8) (hcs : cells ≤ R.cells ∧ slots ≤ R.slots) (k : ∀ (r : Int64) (u : xSg), post r u → xJ p l e R s m args below meth c cells slots Q D cl A nL (va_S A s.heap) (wf u) (vs) (pc + 3) (.long r :: st)) : xJ p l e R s m args below meth c cells slots Q D cl A nL (va_S A s.heap) (wf σ) (vs) (pc) (.ref b :: st) := fun H locs ls hP hD hS hl => by
  have hFc := x_free hD hS G.2.2.2.2.2.2.2
  refine va_calll (va_runVN (As := []) (rest := st) ⟨G.1, G.2.1, G.2.2.1, G.2.2.2.1, G.2.2.2.2.1⟩ (hM H.size) cw ⟨fun a U g mk q => by obtain ⟨q0, q1, qP, qK, qN, qD⟩ := q; exact ⟨q0, q1, qP, va_K.moved (u := U) (U := U.calling g mk a) (Vm.Alike.refl U.vm) qK, fun c hc => ⟨(qN c hc).1, nest_same (s := U) (U := U.calling g mk a) (qN c hc).1 rfl (qN c hc).2⟩, qD⟩, va_recv G.2.2.2.2.2.1 hP hc he, fun U hU hW => ⟨rfl, by rw [hU], by rw [hU]; exact hP, va_K.moved hW.alike G.2.2.2.2.2.1, fun c hc => ⟨(G.2.2.2.2.2.2.1 c hc).1, nest_warm (G.2.2.2.2.2.2.1 c hc).1 hW (G.2.2.2.2.2.2.1 c hc).2⟩, hD.weaken (fun _ _ _ _ => trivial)⟩⟩ rfl rfl hl.1 rfl (lv_room hroom) dd ⟨hcs.1, hcs.2⟩) hS (fun q _ h => hFc q h) hFc (fun r u t H1 locs1 ht hvm hw hB hz1 hk1 hS1 => ?_)
  obtain ⟨hP1, hD1⟩ := hB
  rw [ht] at hP1
  exact k r u hw H1 locs1 ls hP1 (hD1.weaken (fun _ q _ h => hFc q.1 h)) hS1 hl
theorem x_callVN0v (G : xG p s m args c cc nL own Ts NW D cl tys A) {wf : xSg → va_W} {σ : xSg} {b : Nat} {C : String} {host : String} {y : MethodName} {bytes : ByteArray} {maxL index d : Nat} {ret : Option FieldType} {Tc : List Cond} {post : xSg → Prop} (hM : xCv l D cl tys NW wf y Tc d [.ref b] σ post) (q0 : Nat) {fs : List Value} {ci : Nat} {T : u_T} {N : Nat} (he : (wf σ)[q0]? = some (b, .inr (ci, fs))) (hc : cl[ci]? = some (C, T, N)) (cw : (va_CN R s args own index y host bytes maxL ret Tc { frames := d, cells := 0, slots := 0, locals := 40 * d } 0 0 0 ∧ (Cond.instanceMethod y).before args s = true ∧ (Cond.selects C y y).before args s = true)) (dd : decode cc pc = .ok (.invokevirtual index, 3)) (hroom : (st.map fun v => v.category).sum ≤ 8) (hcs : cells ≤ R.cells ∧ slots ≤ R.slots) (k : ∀ (u : xSg), post u → xJ p l e R s m args below meth c cells slots Q D cl A nL (va_S A s.heap) (wf u) (vs) (pc + 3) (st)) : xJ p l e R s m args below meth c cells slots Q D cl A nL (va_S A s.heap) (wf σ) (vs) (pc) (.ref b :: st) := fun H locs ls hP hD hS hl => by
  have hFc := x_free hD hS G.2.2.2.2.2.2.2
  refine va_callv (va_runVN (As := []) (rest := st) ⟨G.1, G.2.1, G.2.2.1, G.2.2.2.1, G.2.2.2.2.1⟩ (hM H.size) cw ⟨fun a U g mk q => by obtain ⟨q0, q1, qP, qK, qN, qD⟩ := q; exact ⟨q0, q1, qP, va_K.moved (u := U) (U := U.calling g mk a) (Vm.Alike.refl U.vm) qK, fun c hc => ⟨(qN c hc).1, nest_same (s := U) (U := U.calling g mk a) (qN c hc).1 rfl (qN c hc).2⟩, qD⟩, va_recv G.2.2.2.2.2.1 hP hc he, fun U hU hW => ⟨rfl, by rw [hU], by rw [hU]; exact hP, va_K.moved hW.alike G.2.2.2.2.2.1, fun c hc => ⟨(G.2.2.2.2.2.2.1 c hc).1, nest_warm (G.2.2.2.2.2.2.1 c hc).1 hW (G.2.2.2.2.2.2.1 c hc).2⟩, hD.weaken (fun _ _ _ _ => trivial)⟩⟩ rfl rfl hl.1 rfl (lv_room hroom) dd ⟨hcs.1, hcs.2⟩) hS (fun q _ h => hFc q h) hFc (fun u t H1 locs1 ht hvm hw hB hz1 hk1 hS1 => ?_)
  obtain ⟨hP1, hD1⟩ := hB
  rw [ht] at hP1
  exact k u hw H1 locs1 ls hP1 (hD1.weaken (fun _ q _ h => hFc q.1 h)) hS1 hl
theorem x_callS0i (G : xG p s m args c cc nL own Ts NW D cl tys A) {wf : xSg → va_W} {σ : xSg} {y : MethodName} {bytes : ByteArray} {maxL index d : Nat} {ret : Option FieldType} {Tc : List Cond} {post : Int32 → xSg → Prop} (hM : xCi l D cl tys NW wf y Tc d [] σ post) (cw : (CallB R s args own index y bytes maxL ret Tc { frames := d, cells := 0, slots := 0, locals := 40 * d } 0 0 0 ∧ (Cond.static y).before args s = true)) (dd : decode cc pc = .ok (.invokestatic index, 3)) (hroom : (st.map fun v => v.category).sum ≤ 8) (hcs : cells ≤ R.cells ∧ slots ≤ R.slots) (k : ∀ (r : Int32) (u : xSg), post r u → xJ p l e R s m args below meth c cells slots Q D cl A nL (va_S A s.heap) (wf u) (vs) (pc + 3) (.int r :: st)) : xJ p l e R s m args below meth c cells slots Q D cl A nL (va_S A s.heap) (wf σ) (vs) (pc) (st) := fun H locs ls hP hD hS hl => by
  have hFc := x_free hD hS G.2.2.2.2.2.2.2
  refine va_calli (va_runS (As := []) (rest := st) ⟨G.1, G.2.1, G.2.2.1, G.2.2.2.1, G.2.2.2.2.1⟩ (hM H.size) cw ⟨fun a U g mk q => by obtain ⟨q0, q1, qP, qK, qN, qD⟩ := q; exact ⟨q0, q1, qP, va_K.moved (u := U) (U := U.calling g mk a) (Vm.Alike.refl U.vm) qK, fun c hc => ⟨(qN c hc).1, nest_same (s := U) (U := U.calling g mk a) (qN c hc).1 rfl (qN c hc).2⟩, qD⟩, fun U hU hW => ⟨rfl, by rw [hU], by rw [hU]; exact hP, va_K.moved hW.alike G.2.2.2.2.2.1, fun c hc => ⟨(G.2.2.2.2.2.2.1 c hc).1, nest_warm (G.2.2.2.2.2.2.1 c hc).1 hW (G.2.2.2.2.2.2.1 c hc).2⟩, hD.weaken (fun _ _ _ _ => trivial)⟩⟩ rfl rfl hl.1 rfl (lv_room hroom) dd ⟨hcs.1, hcs.2⟩) hS (fun q _ h => hFc q h) hFc (fun r u t H1 locs1 ht hvm hw hB hz1 hk1 hS1 => ?_)
  obtain ⟨hP1, hD1⟩ := hB
  rw [ht] at hP1
  exact k r u hw H1 locs1 ls hP1 (hD1.weaken (fun _ q _ h => hFc q.1 h)) hS1 hl
theorem x_callS0l (G : xG p s m args c cc nL own Ts NW D cl tys A) {wf : xSg → va_W} {σ : xSg} {y : MethodName} {bytes : ByteArray} {maxL index d : Nat} {ret : Option FieldType} {Tc : List Cond} {post : Int64 → xSg → Prop} (hM : xCl l D cl tys NW wf y Tc d [] σ post) (cw : (CallB R s args own index y bytes maxL ret Tc { frames := d, cells := 0, slots := 0, locals := 40 * d } 0 0 0 ∧ (Cond.static y).before args s = true)) (dd : decode cc pc = .ok (.invokestatic index, 3)) (hroom : (st.map fun v => v.category).sum ≤ 8) (hcs : cells ≤ R.cells ∧ slots ≤ R.slots) (k : ∀ (r : Int64) (u : xSg), post r u → xJ p l e R s m args below meth c cells slots Q D cl A nL (va_S A s.heap) (wf u) (vs) (pc + 3) (.long r :: st)) : xJ p l e R s m args below meth c cells slots Q D cl A nL (va_S A s.heap) (wf σ) (vs) (pc) (st) := fun H locs ls hP hD hS hl => by
  have hFc := x_free hD hS G.2.2.2.2.2.2.2
  refine va_calll (va_runS (As := []) (rest := st) ⟨G.1, G.2.1, G.2.2.1, G.2.2.2.1, G.2.2.2.2.1⟩ (hM H.size) cw ⟨fun a U g mk q => by obtain ⟨q0, q1, qP, qK, qN, qD⟩ := q; exact ⟨q0, q1, qP, va_K.moved (u := U) (U := U.calling g mk a) (Vm.Alike.refl U.vm) qK, fun c hc => ⟨(qN c hc).1, nest_same (s := U) (U := U.calling g mk a) (qN c hc).1 rfl (qN c hc).2⟩, qD⟩, fun U hU hW => ⟨rfl, by rw [hU], by rw [hU]; exact hP, va_K.moved hW.alike G.2.2.2.2.2.1, fun c hc => ⟨(G.2.2.2.2.2.2.1 c hc).1, nest_warm (G.2.2.2.2.2.2.1 c hc).1 hW (G.2.2.2.2.2.2.1 c hc).2⟩, hD.weaken (fun _ _ _ _ => trivial)⟩⟩ rfl rfl hl.1 rfl (lv_room hroom) dd ⟨hcs.1, hcs.2⟩) hS (fun q _ h => hFc q h) hFc (fun r u t H1 locs1 ht hvm hw hB hz1 hk1 hS1 => ?_)
  obtain ⟨hP1, hD1⟩ := hB
  rw [ht] at hP1
  exact k r u hw H1 locs1 ls hP1 (hD1.weaken (fun _ q _ h => hFc q.1 h)) hS1 hl
theorem x_callS0v (G : xG p s m args c cc nL own Ts NW D cl tys A) {wf : xSg → va_W} {σ : xSg} {y : MethodName} {bytes : ByteArray} {maxL index d : Nat} {ret : Option FieldType} {Tc : List Cond} {post : xSg → Prop} (hM : xCv l D cl tys NW wf y Tc d [] σ post) (cw : (CallB R s args own index y bytes maxL ret Tc { frames := d, cells := 0, slots := 0, locals := 40 * d } 0 0 0 ∧ (Cond.static y).before args s = true)) (dd : decode cc pc = .ok (.invokestatic index, 3)) (hroom : (st.map fun v => v.category).sum ≤ 8) (hcs : cells ≤ R.cells ∧ slots ≤ R.slots) (k : ∀ (u : xSg), post u → xJ p l e R s m args below meth c cells slots Q D cl A nL (va_S A s.heap) (wf u) (vs) (pc + 3) (st)) : xJ p l e R s m args below meth c cells slots Q D cl A nL (va_S A s.heap) (wf σ) (vs) (pc) (st) := fun H locs ls hP hD hS hl => by
  have hFc := x_free hD hS G.2.2.2.2.2.2.2
  refine va_callv (va_runS (As := []) (rest := st) ⟨G.1, G.2.1, G.2.2.1, G.2.2.2.1, G.2.2.2.2.1⟩ (hM H.size) cw ⟨fun a U g mk q => by obtain ⟨q0, q1, qP, qK, qN, qD⟩ := q; exact ⟨q0, q1, qP, va_K.moved (u := U) (U := U.calling g mk a) (Vm.Alike.refl U.vm) qK, fun c hc => ⟨(qN c hc).1, nest_same (s := U) (U := U.calling g mk a) (qN c hc).1 rfl (qN c hc).2⟩, qD⟩, fun U hU hW => ⟨rfl, by rw [hU], by rw [hU]; exact hP, va_K.moved hW.alike G.2.2.2.2.2.1, fun c hc => ⟨(G.2.2.2.2.2.2.1 c hc).1, nest_warm (G.2.2.2.2.2.2.1 c hc).1 hW (G.2.2.2.2.2.2.1 c hc).2⟩, hD.weaken (fun _ _ _ _ => trivial)⟩⟩ rfl rfl hl.1 rfl (lv_room hroom) dd ⟨hcs.1, hcs.2⟩) hS (fun q _ h => hFc q h) hFc (fun u t H1 locs1 ht hvm hw hB hz1 hk1 hS1 => ?_)
  obtain ⟨hP1, hD1⟩ := hB
  rw [ht] at hP1
  exact k u hw H1 locs1 ls hP1 (hD1.weaken (fun _ q _ h => hFc q.1 h)) hS1 hl
theorem x_callSN0i (G : xG p s m args c cc nL own Ts NW D cl tys A) {wf : xSg → va_W} {σ : xSg} {host : String} {y : MethodName} {bytes : ByteArray} {maxL index d : Nat} {ret : Option FieldType} {Tc : List Cond} {post : Int32 → xSg → Prop} (hM : xCi l D cl tys NW wf y Tc d [] σ post) (cw : (va_CN R s args own index y host bytes maxL ret Tc { frames := d, cells := 0, slots := 0, locals := 40 * d } 0 0 0 ∧ (Cond.static y).before args s = true ∧ True)) (dd : decode cc pc = .ok (.invokestatic index, 3)) (hroom : (st.map fun v => v.category).sum ≤ 8) (hcs : cells ≤ R.cells ∧ slots ≤ R.slots) (k : ∀ (r : Int32) (u : xSg), post r u → xJ p l e R s m args below meth c cells slots Q D cl A nL (va_S A s.heap) (wf u) (vs) (pc + 3) (.int r :: st)) : xJ p l e R s m args below meth c cells slots Q D cl A nL (va_S A s.heap) (wf σ) (vs) (pc) (st) := fun H locs ls hP hD hS hl => by
  have hFc := x_free hD hS G.2.2.2.2.2.2.2
  refine va_calli (va_runSN (As := []) (rest := st) ⟨G.1, G.2.1, G.2.2.1, G.2.2.2.1, G.2.2.2.2.1⟩ (hM H.size) cw ⟨fun a U g mk q => by obtain ⟨q0, q1, qP, qK, qN, qD⟩ := q; exact ⟨q0, q1, qP, va_K.moved (u := U) (U := U.calling g mk a) (Vm.Alike.refl U.vm) qK, fun c hc => ⟨(qN c hc).1, nest_same (s := U) (U := U.calling g mk a) (qN c hc).1 rfl (qN c hc).2⟩, qD⟩, fun U hU hW => ⟨rfl, by rw [hU], by rw [hU]; exact hP, va_K.moved hW.alike G.2.2.2.2.2.1, fun c hc => ⟨(G.2.2.2.2.2.2.1 c hc).1, nest_warm (G.2.2.2.2.2.2.1 c hc).1 hW (G.2.2.2.2.2.2.1 c hc).2⟩, hD.weaken (fun _ _ _ _ => trivial)⟩⟩ rfl rfl hl.1 rfl (lv_room hroom) dd ⟨hcs.1, hcs.2⟩) hS (fun q _ h => hFc q h) hFc (fun r u t H1 locs1 ht hvm hw hB hz1 hk1 hS1 => ?_)
  obtain ⟨hP1, hD1⟩ := hB
  rw [ht] at hP1
  exact k r u hw H1 locs1 ls hP1 (hD1.weaken (fun _ q _ h => hFc q.1 h)) hS1 hl
theorem x_callSN0l (G : xG p s m args c cc nL own Ts NW D cl tys A) {wf : xSg → va_W} {σ : xSg} {host : String} {y : MethodName} {bytes : ByteArray} {maxL index d : Nat} {ret : Option FieldType} {Tc : List Cond} {post : Int64 → xSg → Prop} (hM : xCl l D cl tys NW wf y Tc d [] σ post) (cw : (va_CN R s args own index y host bytes maxL ret Tc { frames := d, cells := 0, slots := 0, locals := 40 * d } 0 0 0 ∧ (Cond.static y).before args s = true ∧ True)) (dd : decode cc pc = .ok (.invokestatic index, 3)) (hroom : (st.map fun v => v.category).sum ≤ 8) (hcs : cells ≤ R.cells ∧ slots ≤ R.slots) (k : ∀ (r : Int64) (u : xSg), post r u → xJ p l e R s m args below meth c cells slots Q D cl A nL (va_S A s.heap) (wf u) (vs) (pc + 3) (.long r :: st)) : xJ p l e R s m args below meth c cells slots Q D cl A nL (va_S A s.heap) (wf σ) (vs) (pc) (st) := fun H locs ls hP hD hS hl => by
  have hFc := x_free hD hS G.2.2.2.2.2.2.2
  refine va_calll (va_runSN (As := []) (rest := st) ⟨G.1, G.2.1, G.2.2.1, G.2.2.2.1, G.2.2.2.2.1⟩ (hM H.size) cw ⟨fun a U g mk q => by obtain ⟨q0, q1, qP, qK, qN, qD⟩ := q; exact ⟨q0, q1, qP, va_K.moved (u := U) (U := U.calling g mk a) (Vm.Alike.refl U.vm) qK, fun c hc => ⟨(qN c hc).1, nest_same (s := U) (U := U.calling g mk a) (qN c hc).1 rfl (qN c hc).2⟩, qD⟩, fun U hU hW => ⟨rfl, by rw [hU], by rw [hU]; exact hP, va_K.moved hW.alike G.2.2.2.2.2.1, fun c hc => ⟨(G.2.2.2.2.2.2.1 c hc).1, nest_warm (G.2.2.2.2.2.2.1 c hc).1 hW (G.2.2.2.2.2.2.1 c hc).2⟩, hD.weaken (fun _ _ _ _ => trivial)⟩⟩ rfl rfl hl.1 rfl (lv_room hroom) dd ⟨hcs.1, hcs.2⟩) hS (fun q _ h => hFc q h) hFc (fun r u t H1 locs1 ht hvm hw hB hz1 hk1 hS1 => ?_)
  obtain ⟨hP1, hD1⟩ := hB
  rw [ht] at hP1
  exact k r u hw H1 locs1 ls hP1 (hD1.weaken (fun _ q _ h => hFc q.1 h)) hS1 hl
theorem x_callSN0v (G : xG p s m args c cc nL own Ts NW D cl tys A) {wf : xSg → va_W} {σ : xSg} {host : String} {y : MethodName} {bytes : ByteArray} {maxL index d : Nat} {ret : Option FieldType} {Tc : List Cond} {post : xSg → Prop} (hM : xCv l D cl tys NW wf y Tc d [] σ post) (cw : (va_CN R s args own index y host bytes maxL ret Tc { frames := d, cells := 0, slots := 0, locals := 40 * d } 0 0 0 ∧ (Cond.static y).before args s = true ∧ True)) (dd : decode cc pc = .ok (.invokestatic index, 3)) (hroom : (st.map fun v => v.category).sum ≤ 8) (hcs : cells ≤ R.cells ∧ slots ≤ R.slots) (k : ∀ (u : xSg), post u → xJ p l e R s m args below meth c cells slots Q D cl A nL (va_S A s.heap) (wf u) (vs) (pc + 3) (st)) : xJ p l e R s m args below meth c cells slots Q D cl A nL (va_S A s.heap) (wf σ) (vs) (pc) (st) := fun H locs ls hP hD hS hl => by
  have hFc := x_free hD hS G.2.2.2.2.2.2.2
  refine va_callv (va_runSN (As := []) (rest := st) ⟨G.1, G.2.1, G.2.2.1, G.2.2.2.1, G.2.2.2.2.1⟩ (hM H.size) cw ⟨fun a U g mk q => by obtain ⟨q0, q1, qP, qK, qN, qD⟩ := q; exact ⟨q0, q1, qP, va_K.moved (u := U) (U := U.calling g mk a) (Vm.Alike.refl U.vm) qK, fun c hc => ⟨(qN c hc).1, nest_same (s := U) (U := U.calling g mk a) (qN c hc).1 rfl (qN c hc).2⟩, qD⟩, fun U hU hW => ⟨rfl, by rw [hU], by rw [hU]; exact hP, va_K.moved hW.alike G.2.2.2.2.2.1, fun c hc => ⟨(G.2.2.2.2.2.2.1 c hc).1, nest_warm (G.2.2.2.2.2.2.1 c hc).1 hW (G.2.2.2.2.2.2.1 c hc).2⟩, hD.weaken (fun _ _ _ _ => trivial)⟩⟩ rfl rfl hl.1 rfl (lv_room hroom) dd ⟨hcs.1, hcs.2⟩) hS (fun q _ h => hFc q h) hFc (fun u t H1 locs1 ht hvm hw hB hz1 hk1 hS1 => ?_)
  obtain ⟨hP1, hD1⟩ := hB
  rw [ht] at hP1
  exact k u hw H1 locs1 ls hP1 (hD1.weaken (fun _ q _ h => hFc q.1 h)) hS1 hl
theorem x_callV1i (G : xG p s m args c cc nL own Ts NW D cl tys A) {wf : xSg → va_W} {σ : xSg} {b : Nat} {C : String} {y : MethodName} {bytes : ByteArray} {maxL index d : Nat} {ret : Option FieldType} {Tc : List Cond} {a1 : Value} {post : Int32 → xSg → Prop} (hM : xCi l D cl tys NW wf y Tc d [.ref b, a1] σ post) (q0 : Nat) {fs : List Value} {ci : Nat} {T : u_T} {N : Nat} (he : (wf σ)[q0]? = some (b, .inr (ci, fs))) (hc : cl[ci]? = some (C, T, N)) (cw : CallW R s args own C index y bytes maxL ret Tc { frames := d, cells := 0, slots := 0, locals := 40 * d } 0 0 1) (dd : decode cc pc = .ok (.invokevirtual index, 3)) (hroom : (st.map fun v => v.category).sum ≤ 8) (hcs : cells ≤ R.cells ∧ slots ≤ R.slots) (k : ∀ (r : Int32) (u : xSg), post r u → xJ p l e R s m args below meth c cells slots Q D cl A nL (va_S A s.heap) (wf u) (vs) (pc + 3) (.int r :: st)) : xJ p l e R s m args below meth c cells slots Q D cl A nL (va_S A s.heap) (wf σ) (vs) (pc) (a1 :: .ref b :: st) := fun H locs ls hP hD hS hl => by
  have hFc := x_free hD hS G.2.2.2.2.2.2.2
  refine va_calli (va_runV (As := [a1]) (rest := st) ⟨G.1, G.2.1, G.2.2.1, G.2.2.2.1, G.2.2.2.2.1⟩ (hM H.size) cw ⟨fun a U g mk q => by obtain ⟨q0, q1, qP, qK, qN, qD⟩ := q; exact ⟨q0, q1, qP, va_K.moved (u := U) (U := U.calling g mk a) (Vm.Alike.refl U.vm) qK, fun c hc => ⟨(qN c hc).1, nest_same (s := U) (U := U.calling g mk a) (qN c hc).1 rfl (qN c hc).2⟩, qD⟩, va_recv G.2.2.2.2.2.1 hP hc he, fun U hU hW => ⟨rfl, by rw [hU], by rw [hU]; exact hP, va_K.moved hW.alike G.2.2.2.2.2.1, fun c hc => ⟨(G.2.2.2.2.2.2.1 c hc).1, nest_warm (G.2.2.2.2.2.2.1 c hc).1 hW (G.2.2.2.2.2.2.1 c hc).2⟩, hD.weaken (fun _ _ _ _ => trivial)⟩⟩ rfl rfl hl.1 rfl (lv_room hroom) dd ⟨hcs.1, hcs.2⟩) hS (fun q _ h => hFc q h) hFc (fun r u t H1 locs1 ht hvm hw hB hz1 hk1 hS1 => ?_)
  obtain ⟨hP1, hD1⟩ := hB
  rw [ht] at hP1
  exact k r u hw H1 locs1 ls hP1 (hD1.weaken (fun _ q _ h => hFc q.1 h)) hS1 hl
theorem x_callV1l (G : xG p s m args c cc nL own Ts NW D cl tys A) {wf : xSg → va_W} {σ : xSg} {b : Nat} {C : String} {y : MethodName} {bytes : ByteArray} {maxL index d : Nat} {ret : Option FieldType} {Tc : List Cond} {a1 : Value} {post : Int64 → xSg → Prop} (hM : xCl l D cl tys NW wf y Tc d [.ref b, a1] σ post) (q0 : Nat) {fs : List Value} {ci : Nat} {T : u_T} {N : Nat} (he : (wf σ)[q0]? = some (b, .inr (ci, fs))) (hc : cl[ci]? = some (C, T, N)) (cw : CallW R s args own C index y bytes maxL ret Tc { frames := d, cells := 0, slots := 0, locals := 40 * d } 0 0 1) (dd : decode cc pc = .ok (.invokevirtual index, 3)) (hroom : (st.map fun v => v.category).sum ≤ 8) (hcs : cells ≤ R.cells ∧ slots ≤ R.slots) (k : ∀ (r : Int64) (u : xSg), post r u → xJ p l e R s m args below meth c cells slots Q D cl A nL (va_S A s.heap) (wf u) (vs) (pc + 3) (.long r :: st)) : xJ p l e R s m args below meth c cells slots Q D cl A nL (va_S A s.heap) (wf σ) (vs) (pc) (a1 :: .ref b :: st) := fun H locs ls hP hD hS hl => by
  have hFc := x_free hD hS G.2.2.2.2.2.2.2
  refine va_calll (va_runV (As := [a1]) (rest := st) ⟨G.1, G.2.1, G.2.2.1, G.2.2.2.1, G.2.2.2.2.1⟩ (hM H.size) cw ⟨fun a U g mk q => by obtain ⟨q0, q1, qP, qK, qN, qD⟩ := q; exact ⟨q0, q1, qP, va_K.moved (u := U) (U := U.calling g mk a) (Vm.Alike.refl U.vm) qK, fun c hc => ⟨(qN c hc).1, nest_same (s := U) (U := U.calling g mk a) (qN c hc).1 rfl (qN c hc).2⟩, qD⟩, va_recv G.2.2.2.2.2.1 hP hc he, fun U hU hW => ⟨rfl, by rw [hU], by rw [hU]; exact hP, va_K.moved hW.alike G.2.2.2.2.2.1, fun c hc => ⟨(G.2.2.2.2.2.2.1 c hc).1, nest_warm (G.2.2.2.2.2.2.1 c hc).1 hW (G.2.2.2.2.2.2.1 c hc).2⟩, hD.weaken (fun _ _ _ _ => trivial)⟩⟩ rfl rfl hl.1 rfl (lv_room hroom) dd ⟨hcs.1, hcs.2⟩) hS (fun q _ h => hFc q h) hFc (fun r u t H1 locs1 ht hvm hw hB hz1 hk1 hS1 => ?_)
  obtain ⟨hP1, hD1⟩ := hB
  rw [ht] at hP1
  exact k r u hw H1 locs1 ls hP1 (hD1.weaken (fun _ q _ h => hFc q.1 h)) hS1 hl
theorem x_callV1v (G : xG p s m args c cc nL own Ts NW D cl tys A) {wf : xSg → va_W} {σ : xSg} {b : Nat} {C : String} {y : MethodName} {bytes : ByteArray} {maxL index d : Nat} {ret : Option FieldType} {Tc : List Cond} {a1 : Value} {post : xSg → Prop} (hM : xCv l D cl tys NW wf y Tc d [.ref b, a1] σ post) (q0 : Nat) {fs : List Value} {ci : Nat} {T : u_T} {N : Nat} (he : (wf σ)[q0]? = some (b, .inr (ci, fs))) (hc : cl[ci]? = some (C, T, N)) (cw : CallW R s args own C index y bytes maxL ret Tc { frames := d, cells := 0, slots := 0, locals := 40 * d } 0 0 1) (dd : decode cc pc = .ok (.invokevirtual index, 3)) (hroom : (st.map fun v => v.category).sum ≤ 8) (hcs : cells ≤ R.cells ∧ slots ≤ R.slots) (k : ∀ (u : xSg), post u → xJ p l e R s m args below meth c cells slots Q D cl A nL (va_S A s.heap) (wf u) (vs) (pc + 3) (st)) : xJ p l e R s m args below meth c cells slots Q D cl A nL (va_S A s.heap) (wf σ) (vs) (pc) (a1 :: .ref b :: st) := fun H locs ls hP hD hS hl => by
  have hFc := x_free hD hS G.2.2.2.2.2.2.2
  refine va_callv (va_runV (As := [a1]) (rest := st) ⟨G.1, G.2.1, G.2.2.1, G.2.2.2.1, G.2.2.2.2.1⟩ (hM H.size) cw ⟨fun a U g mk q => by obtain ⟨q0, q1, qP, qK, qN, qD⟩ := q; exact ⟨q0, q1, qP, va_K.moved (u := U) (U := U.calling g mk a) (Vm.Alike.refl U.vm) qK, fun c hc => ⟨(qN c hc).1, nest_same (s := U) (U := U.calling g mk a) (qN c hc).1 rfl (qN c hc).2⟩, qD⟩, va_recv G.2.2.2.2.2.1 hP hc he, fun U hU hW => ⟨rfl, by rw [hU], by rw [hU]; exact hP, va_K.moved hW.alike G.2.2.2.2.2.1, fun c hc => ⟨(G.2.2.2.2.2.2.1 c hc).1, nest_warm (G.2.2.2.2.2.2.1 c hc).1 hW (G.2.2.2.2.2.2.1 c hc).2⟩, hD.weaken (fun _ _ _ _ => trivial)⟩⟩ rfl rfl hl.1 rfl (lv_room hroom) dd ⟨hcs.1, hcs.2⟩) hS (fun q _ h => hFc q h) hFc (fun u t H1 locs1 ht hvm hw hB hz1 hk1 hS1 => ?_)
  obtain ⟨hP1, hD1⟩ := hB
  rw [ht] at hP1
  exact k u hw H1 locs1 ls hP1 (hD1.weaken (fun _ q _ h => hFc q.1 h)) hS1 hl
theorem x_callVN1i (G : xG p s m args c cc nL own Ts NW D cl tys A) {wf : xSg → va_W} {σ : xSg} {b : Nat} {C : String} {host : String} {y : MethodName} {bytes : ByteArray} {maxL index d : Nat} {ret : Option FieldType} {Tc : List Cond} {a1 : Value} {post : Int32 → xSg → Prop} (hM : xCi l D cl tys NW wf y Tc d [.ref b, a1] σ post) (q0 : Nat) {fs : List Value} {ci : Nat} {T : u_T} {N : Nat} (he : (wf σ)[q0]? = some (b, .inr (ci, fs))) (hc : cl[ci]? = some (C, T, N)) (cw : (va_CN R s args own index y host bytes maxL ret Tc { frames := d, cells := 0, slots := 0, locals := 40 * d } 0 0 1 ∧ (Cond.instanceMethod y).before args s = true ∧ (Cond.selects C y y).before args s = true)) (dd : decode cc pc = .ok (.invokevirtual index, 3)) (hroom : (st.map fun v => v.category).sum ≤ 8) (hcs : cells ≤ R.cells ∧ slots ≤ R.slots) (k : ∀ (r : Int32) (u : xSg), post r u → xJ p l e R s m args below meth c cells slots Q D cl A nL (va_S A s.heap) (wf u) (vs) (pc + 3) (.int r :: st)) : xJ p l e R s m args below meth c cells slots Q D cl A nL (va_S A s.heap) (wf σ) (vs) (pc) (a1 :: .ref b :: st) := fun H locs ls hP hD hS hl => by
  have hFc := x_free hD hS G.2.2.2.2.2.2.2
  refine va_calli (va_runVN (As := [a1]) (rest := st) ⟨G.1, G.2.1, G.2.2.1, G.2.2.2.1, G.2.2.2.2.1⟩ (hM H.size) cw ⟨fun a U g mk q => by obtain ⟨q0, q1, qP, qK, qN, qD⟩ := q; exact ⟨q0, q1, qP, va_K.moved (u := U) (U := U.calling g mk a) (Vm.Alike.refl U.vm) qK, fun c hc => ⟨(qN c hc).1, nest_same (s := U) (U := U.calling g mk a) (qN c hc).1 rfl (qN c hc).2⟩, qD⟩, va_recv G.2.2.2.2.2.1 hP hc he, fun U hU hW => ⟨rfl, by rw [hU], by rw [hU]; exact hP, va_K.moved hW.alike G.2.2.2.2.2.1, fun c hc => ⟨(G.2.2.2.2.2.2.1 c hc).1, nest_warm (G.2.2.2.2.2.2.1 c hc).1 hW (G.2.2.2.2.2.2.1 c hc).2⟩, hD.weaken (fun _ _ _ _ => trivial)⟩⟩ rfl rfl hl.1 rfl (lv_room hroom) dd ⟨hcs.1, hcs.2⟩) hS (fun q _ h => hFc q h) hFc (fun r u t H1 locs1 ht hvm hw hB hz1 hk1 hS1 => ?_)
  obtain ⟨hP1, hD1⟩ := hB
  rw [ht] at hP1
  exact k r u hw H1 locs1 ls hP1 (hD1.weaken (fun _ q _ h => hFc q.1 h)) hS1 hl
theorem x_callVN1l (G : xG p s m args c cc nL own Ts NW D cl tys A) {wf : xSg → va_W} {σ : xSg} {b : Nat} {C : String} {host : String} {y : MethodName} {bytes : ByteArray} {maxL index d : Nat} {ret : Option FieldType} {Tc : List Cond} {a1 : Value} {post : Int64 → xSg → Prop} (hM : xCl l D cl tys NW wf y Tc d [.ref b, a1] σ post) (q0 : Nat) {fs : List Value} {ci : Nat} {T : u_T} {N : Nat} (he : (wf σ)[q0]? = some (b, .inr (ci, fs))) (hc : cl[ci]? = some (C, T, N)) (cw : (va_CN R s args own index y host bytes maxL ret Tc { frames := d, cells := 0, slots := 0, locals := 40 * d } 0 0 1 ∧ (Cond.instanceMethod y).before args s = true ∧ (Cond.selects C y y).before args s = true)) (dd : decode cc pc = .ok (.invokevirtual index, 3)) (hroom : (st.map fun v => v.category).sum ≤ 8) (hcs : cells ≤ R.cells ∧ slots ≤ R.slots) (k : ∀ (r : Int64) (u : xSg), post r u → xJ p l e R s m args below meth c cells slots Q D cl A nL (va_S A s.heap) (wf u) (vs) (pc + 3) (.long r :: st)) : xJ p l e R s m args below meth c cells slots Q D cl A nL (va_S A s.heap) (wf σ) (vs) (pc) (a1 :: .ref b :: st) := fun H locs ls hP hD hS hl => by
  have hFc := x_free hD hS G.2.2.2.2.2.2.2
  refine va_calll (va_runVN (As := [a1]) (rest := st) ⟨G.1, G.2.1, G.2.2.1, G.2.2.2.1, G.2.2.2.2.1⟩ (hM H.size) cw ⟨fun a U g mk q => by obtain ⟨q0, q1, qP, qK, qN, qD⟩ := q; exact ⟨q0, q1, qP, va_K.moved (u := U) (U := U.calling g mk a) (Vm.Alike.refl U.vm) qK, fun c hc => ⟨(qN c hc).1, nest_same (s := U) (U := U.calling g mk a) (qN c hc).1 rfl (qN c hc).2⟩, qD⟩, va_recv G.2.2.2.2.2.1 hP hc he, fun U hU hW => ⟨rfl, by rw [hU], by rw [hU]; exact hP, va_K.moved hW.alike G.2.2.2.2.2.1, fun c hc => ⟨(G.2.2.2.2.2.2.1 c hc).1, nest_warm (G.2.2.2.2.2.2.1 c hc).1 hW (G.2.2.2.2.2.2.1 c hc).2⟩, hD.weaken (fun _ _ _ _ => trivial)⟩⟩ rfl rfl hl.1 rfl (lv_room hroom) dd ⟨hcs.1, hcs.2⟩) hS (fun q _ h => hFc q h) hFc (fun r u t H1 locs1 ht hvm hw hB hz1 hk1 hS1 => ?_)
  obtain ⟨hP1, hD1⟩ := hB
  rw [ht] at hP1
  exact k r u hw H1 locs1 ls hP1 (hD1.weaken (fun _ q _ h => hFc q.1 h)) hS1 hl
theorem x_callVN1v (G : xG p s m args c cc nL own Ts NW D cl tys A) {wf : xSg → va_W} {σ : xSg} {b : Nat} {C : String} {host : String} {y : MethodName} {bytes : ByteArray} {maxL index d : Nat} {ret : Option FieldType} {Tc : List Cond} {a1 : Value} {post : xSg → Prop} (hM : xCv l D cl tys NW wf y Tc d [.ref b, a1] σ post) (q0 : Nat) {fs : List Value} {ci : Nat} {T : u_T} {N : Nat} (he : (wf σ)[q0]? = some (b, .inr (ci, fs))) (hc : cl[ci]? = some (C, T, N)) (cw : (va_CN R s args own index y host bytes maxL ret Tc { frames := d, cells := 0, slots := 0, locals := 40 * d } 0 0 1 ∧ (Cond.instanceMethod y).before args s = true ∧ (Cond.selects C y y).before args s = true)) (dd : decode cc pc = .ok (.invokevirtual index, 3)) (hroom : (st.map fun v => v.category).sum ≤ 8) (hcs : cells ≤ R.cells ∧ slots ≤ R.slots) (k : ∀ (u : xSg), post u → xJ p l e R s m args below meth c cells slots Q D cl A nL (va_S A s.heap) (wf u) (vs) (pc + 3) (st)) : xJ p l e R s m args below meth c cells slots Q D cl A nL (va_S A s.heap) (wf σ) (vs) (pc) (a1 :: .ref b :: st) := fun H locs ls hP hD hS hl => by
  have hFc := x_free hD hS G.2.2.2.2.2.2.2
  refine va_callv (va_runVN (As := [a1]) (rest := st) ⟨G.1, G.2.1, G.2.2.1, G.2.2.2.1, G.2.2.2.2.1⟩ (hM H.size) cw ⟨fun a U g mk q => by obtain ⟨q0, q1, qP, qK, qN, qD⟩ := q; exact ⟨q0, q1, qP, va_K.moved (u := U) (U := U.calling g mk a) (Vm.Alike.refl U.vm) qK, fun c hc => ⟨(qN c hc).1, nest_same (s := U) (U := U.calling g mk a) (qN c hc).1 rfl (qN c hc).2⟩, qD⟩, va_recv G.2.2.2.2.2.1 hP hc he, fun U hU hW => ⟨rfl, by rw [hU], by rw [hU]; exact hP, va_K.moved hW.alike G.2.2.2.2.2.1, fun c hc => ⟨(G.2.2.2.2.2.2.1 c hc).1, nest_warm (G.2.2.2.2.2.2.1 c hc).1 hW (G.2.2.2.2.2.2.1 c hc).2⟩, hD.weaken (fun _ _ _ _ => trivial)⟩⟩ rfl rfl hl.1 rfl (lv_room hroom) dd ⟨hcs.1, hcs.2⟩) hS (fun q _ h => hFc q h) hFc (fun u t H1 locs1 ht hvm hw hB hz1 hk1 hS1 => ?_)
  obtain ⟨hP1, hD1⟩ := hB
  rw [ht] at hP1
  exact k u hw H1 locs1 ls hP1 (hD1.weaken (fun _ q _ h => hFc q.1 h)) hS1 hl
theorem x_callS1i (G : xG p s m args c cc nL own Ts NW D cl tys A) {wf : xSg → va_W} {σ : xSg} {y : MethodName} {bytes : ByteArray} {maxL index d : Nat} {ret : Option FieldType} {Tc : List Cond} {a1 : Value} {post : Int32 → xSg → Prop} (hM : xCi l D cl tys NW wf y Tc d [a1] σ post) (cw : (CallB R s args own index y bytes maxL ret Tc { frames := d, cells := 0, slots := 0, locals := 40 * d } 0 0 1 ∧ (Cond.static y).before args s = true)) (dd : decode cc pc = .ok (.invokestatic index, 3)) (hroom : (st.map fun v => v.category).sum ≤ 8) (hcs : cells ≤ R.cells ∧ slots ≤ R.slots) (k : ∀ (r : Int32) (u : xSg), post r u → xJ p l e R s m args below meth c cells slots Q D cl A nL (va_S A s.heap) (wf u) (vs) (pc + 3) (.int r :: st)) : xJ p l e R s m args below meth c cells slots Q D cl A nL (va_S A s.heap) (wf σ) (vs) (pc) (a1 :: st) := fun H locs ls hP hD hS hl => by
  have hFc := x_free hD hS G.2.2.2.2.2.2.2
  refine va_calli (va_runS (As := [a1]) (rest := st) ⟨G.1, G.2.1, G.2.2.1, G.2.2.2.1, G.2.2.2.2.1⟩ (hM H.size) cw ⟨fun a U g mk q => by obtain ⟨q0, q1, qP, qK, qN, qD⟩ := q; exact ⟨q0, q1, qP, va_K.moved (u := U) (U := U.calling g mk a) (Vm.Alike.refl U.vm) qK, fun c hc => ⟨(qN c hc).1, nest_same (s := U) (U := U.calling g mk a) (qN c hc).1 rfl (qN c hc).2⟩, qD⟩, fun U hU hW => ⟨rfl, by rw [hU], by rw [hU]; exact hP, va_K.moved hW.alike G.2.2.2.2.2.1, fun c hc => ⟨(G.2.2.2.2.2.2.1 c hc).1, nest_warm (G.2.2.2.2.2.2.1 c hc).1 hW (G.2.2.2.2.2.2.1 c hc).2⟩, hD.weaken (fun _ _ _ _ => trivial)⟩⟩ rfl rfl hl.1 rfl (lv_room hroom) dd ⟨hcs.1, hcs.2⟩) hS (fun q _ h => hFc q h) hFc (fun r u t H1 locs1 ht hvm hw hB hz1 hk1 hS1 => ?_)
  obtain ⟨hP1, hD1⟩ := hB
  rw [ht] at hP1
  exact k r u hw H1 locs1 ls hP1 (hD1.weaken (fun _ q _ h => hFc q.1 h)) hS1 hl
theorem x_callS1l (G : xG p s m args c cc nL own Ts NW D cl tys A) {wf : xSg → va_W} {σ : xSg} {y : MethodName} {bytes : ByteArray} {maxL index d : Nat} {ret : Option FieldType} {Tc : List Cond} {a1 : Value} {post : Int64 → xSg → Prop} (hM : xCl l D cl tys NW wf y Tc d [a1] σ post) (cw : (CallB R s args own index y bytes maxL ret Tc { frames := d, cells := 0, slots := 0, locals := 40 * d } 0 0 1 ∧ (Cond.static y).before args s = true)) (dd : decode cc pc = .ok (.invokestatic index, 3)) (hroom : (st.map fun v => v.category).sum ≤ 8) (hcs : cells ≤ R.cells ∧ slots ≤ R.slots) (k : ∀ (r : Int64) (u : xSg), post r u → xJ p l e R s m args below meth c cells slots Q D cl A nL (va_S A s.heap) (wf u) (vs) (pc + 3) (.long r :: st)) : xJ p l e R s m args below meth c cells slots Q D cl A nL (va_S A s.heap) (wf σ) (vs) (pc) (a1 :: st) := fun H locs ls hP hD hS hl => by
  have hFc := x_free hD hS G.2.2.2.2.2.2.2
  refine va_calll (va_runS (As := [a1]) (rest := st) ⟨G.1, G.2.1, G.2.2.1, G.2.2.2.1, G.2.2.2.2.1⟩ (hM H.size) cw ⟨fun a U g mk q => by obtain ⟨q0, q1, qP, qK, qN, qD⟩ := q; exact ⟨q0, q1, qP, va_K.moved (u := U) (U := U.calling g mk a) (Vm.Alike.refl U.vm) qK, fun c hc => ⟨(qN c hc).1, nest_same (s := U) (U := U.calling g mk a) (qN c hc).1 rfl (qN c hc).2⟩, qD⟩, fun U hU hW => ⟨rfl, by rw [hU], by rw [hU]; exact hP, va_K.moved hW.alike G.2.2.2.2.2.1, fun c hc => ⟨(G.2.2.2.2.2.2.1 c hc).1, nest_warm (G.2.2.2.2.2.2.1 c hc).1 hW (G.2.2.2.2.2.2.1 c hc).2⟩, hD.weaken (fun _ _ _ _ => trivial)⟩⟩ rfl rfl hl.1 rfl (lv_room hroom) dd ⟨hcs.1, hcs.2⟩) hS (fun q _ h => hFc q h) hFc (fun r u t H1 locs1 ht hvm hw hB hz1 hk1 hS1 => ?_)
  obtain ⟨hP1, hD1⟩ := hB
  rw [ht] at hP1
  exact k r u hw H1 locs1 ls hP1 (hD1.weaken (fun _ q _ h => hFc q.1 h)) hS1 hl
theorem x_callS1v (G : xG p s m args c cc nL own Ts NW D cl tys A) {wf : xSg → va_W} {σ : xSg} {y : MethodName} {bytes : ByteArray} {maxL index d : Nat} {ret : Option FieldType} {Tc : List Cond} {a1 : Value} {post : xSg → Prop} (hM : xCv l D cl tys NW wf y Tc d [a1] σ post) (cw : (CallB R s args own index y bytes maxL ret Tc { frames := d, cells := 0, slots := 0, locals := 40 * d } 0 0 1 ∧ (Cond.static y).before args s = true)) (dd : decode cc pc = .ok (.invokestatic index, 3)) (hroom : (st.map fun v => v.category).sum ≤ 8) (hcs : cells ≤ R.cells ∧ slots ≤ R.slots) (k : ∀ (u : xSg), post u → xJ p l e R s m args below meth c cells slots Q D cl A nL (va_S A s.heap) (wf u) (vs) (pc + 3) (st)) : xJ p l e R s m args below meth c cells slots Q D cl A nL (va_S A s.heap) (wf σ) (vs) (pc) (a1 :: st) := fun H locs ls hP hD hS hl => by
  have hFc := x_free hD hS G.2.2.2.2.2.2.2
  refine va_callv (va_runS (As := [a1]) (rest := st) ⟨G.1, G.2.1, G.2.2.1, G.2.2.2.1, G.2.2.2.2.1⟩ (hM H.size) cw ⟨fun a U g mk q => by obtain ⟨q0, q1, qP, qK, qN, qD⟩ := q; exact ⟨q0, q1, qP, va_K.moved (u := U) (U := U.calling g mk a) (Vm.Alike.refl U.vm) qK, fun c hc => ⟨(qN c hc).1, nest_same (s := U) (U := U.calling g mk a) (qN c hc).1 rfl (qN c hc).2⟩, qD⟩, fun U hU hW => ⟨rfl, by rw [hU], by rw [hU]; exact hP, va_K.moved hW.alike G.2.2.2.2.2.1, fun c hc => ⟨(G.2.2.2.2.2.2.1 c hc).1, nest_warm (G.2.2.2.2.2.2.1 c hc).1 hW (G.2.2.2.2.2.2.1 c hc).2⟩, hD.weaken (fun _ _ _ _ => trivial)⟩⟩ rfl rfl hl.1 rfl (lv_room hroom) dd ⟨hcs.1, hcs.2⟩) hS (fun q _ h => hFc q h) hFc (fun u t H1 locs1 ht hvm hw hB hz1 hk1 hS1 => ?_)
  obtain ⟨hP1, hD1⟩ := hB
  rw [ht] at hP1
  exact k u hw H1 locs1 ls hP1 (hD1.weaken (fun _ q _ h => hFc q.1 h)) hS1 hl
theorem x_callSN1i (G : xG p s m args c cc nL own Ts NW D cl tys A) {wf : xSg → va_W} {σ : xSg} {host : String} {y : MethodName} {bytes : ByteArray} {maxL index d : Nat} {ret : Option FieldType} {Tc : List Cond} {a1 : Value} {post : Int32 → xSg → Prop} (hM : xCi l D cl tys NW wf y Tc d [a1] σ post) (cw : (va_CN R s args own index y host bytes maxL ret Tc { frames := d, cells := 0, slots := 0, locals := 40 * d } 0 0 1 ∧ (Cond.static y).before args s = true ∧ True)) (dd : decode cc pc = .ok (.invokestatic index, 3)) (hroom : (st.map fun v => v.category).sum ≤ 8) (hcs : cells ≤ R.cells ∧ slots ≤ R.slots) (k : ∀ (r : Int32) (u : xSg), post r u → xJ p l e R s m args below meth c cells slots Q D cl A nL (va_S A s.heap) (wf u) (vs) (pc + 3) (.int r :: st)) : xJ p l e R s m args below meth c cells slots Q D cl A nL (va_S A s.heap) (wf σ) (vs) (pc) (a1 :: st) := fun H locs ls hP hD hS hl => by
  have hFc := x_free hD hS G.2.2.2.2.2.2.2
  refine va_calli (va_runSN (As := [a1]) (rest := st) ⟨G.1, G.2.1, G.2.2.1, G.2.2.2.1, G.2.2.2.2.1⟩ (hM H.size) cw ⟨fun a U g mk q => by obtain ⟨q0, q1, qP, qK, qN, qD⟩ := q; exact ⟨q0, q1, qP, va_K.moved (u := U) (U := U.calling g mk a) (Vm.Alike.refl U.vm) qK, fun c hc => ⟨(qN c hc).1, nest_same (s := U) (U := U.calling g mk a) (qN c hc).1 rfl (qN c hc).2⟩, qD⟩, fun U hU hW => ⟨rfl, by rw [hU], by rw [hU]; exact hP, va_K.moved hW.alike G.2.2.2.2.2.1, fun c hc => ⟨(G.2.2.2.2.2.2.1 c hc).1, nest_warm (G.2.2.2.2.2.2.1 c hc).1 hW (G.2.2.2.2.2.2.1 c hc).2⟩, hD.weaken (fun _ _ _ _ => trivial)⟩⟩ rfl rfl hl.1 rfl (lv_room hroom) dd ⟨hcs.1, hcs.2⟩) hS (fun q _ h => hFc q h) hFc (fun r u t H1 locs1 ht hvm hw hB hz1 hk1 hS1 => ?_)
  obtain ⟨hP1, hD1⟩ := hB
  rw [ht] at hP1
  exact k r u hw H1 locs1 ls hP1 (hD1.weaken (fun _ q _ h => hFc q.1 h)) hS1 hl
theorem x_callSN1l (G : xG p s m args c cc nL own Ts NW D cl tys A) {wf : xSg → va_W} {σ : xSg} {host : String} {y : MethodName} {bytes : ByteArray} {maxL index d : Nat} {ret : Option FieldType} {Tc : List Cond} {a1 : Value} {post : Int64 → xSg → Prop} (hM : xCl l D cl tys NW wf y Tc d [a1] σ post) (cw : (va_CN R s args own index y host bytes maxL ret Tc { frames := d, cells := 0, slots := 0, locals := 40 * d } 0 0 1 ∧ (Cond.static y).before args s = true ∧ True)) (dd : decode cc pc = .ok (.invokestatic index, 3)) (hroom : (st.map fun v => v.category).sum ≤ 8) (hcs : cells ≤ R.cells ∧ slots ≤ R.slots) (k : ∀ (r : Int64) (u : xSg), post r u → xJ p l e R s m args below meth c cells slots Q D cl A nL (va_S A s.heap) (wf u) (vs) (pc + 3) (.long r :: st)) : xJ p l e R s m args below meth c cells slots Q D cl A nL (va_S A s.heap) (wf σ) (vs) (pc) (a1 :: st) := fun H locs ls hP hD hS hl => by
  have hFc := x_free hD hS G.2.2.2.2.2.2.2
  refine va_calll (va_runSN (As := [a1]) (rest := st) ⟨G.1, G.2.1, G.2.2.1, G.2.2.2.1, G.2.2.2.2.1⟩ (hM H.size) cw ⟨fun a U g mk q => by obtain ⟨q0, q1, qP, qK, qN, qD⟩ := q; exact ⟨q0, q1, qP, va_K.moved (u := U) (U := U.calling g mk a) (Vm.Alike.refl U.vm) qK, fun c hc => ⟨(qN c hc).1, nest_same (s := U) (U := U.calling g mk a) (qN c hc).1 rfl (qN c hc).2⟩, qD⟩, fun U hU hW => ⟨rfl, by rw [hU], by rw [hU]; exact hP, va_K.moved hW.alike G.2.2.2.2.2.1, fun c hc => ⟨(G.2.2.2.2.2.2.1 c hc).1, nest_warm (G.2.2.2.2.2.2.1 c hc).1 hW (G.2.2.2.2.2.2.1 c hc).2⟩, hD.weaken (fun _ _ _ _ => trivial)⟩⟩ rfl rfl hl.1 rfl (lv_room hroom) dd ⟨hcs.1, hcs.2⟩) hS (fun q _ h => hFc q h) hFc (fun r u t H1 locs1 ht hvm hw hB hz1 hk1 hS1 => ?_)
  obtain ⟨hP1, hD1⟩ := hB
  rw [ht] at hP1
  exact k r u hw H1 locs1 ls hP1 (hD1.weaken (fun _ q _ h => hFc q.1 h)) hS1 hl
theorem x_callSN1v (G : xG p s m args c cc nL own Ts NW D cl tys A) {wf : xSg → va_W} {σ : xSg} {host : String} {y : MethodName} {bytes : ByteArray} {maxL index d : Nat} {ret : Option FieldType} {Tc : List Cond} {a1 : Value} {post : xSg → Prop} (hM : xCv l D cl tys NW wf y Tc d [a1] σ post) (cw : (va_CN R s args own index y host bytes maxL ret Tc { frames := d, cells := 0, slots := 0, locals := 40 * d } 0 0 1 ∧ (Cond.static y).before args s = true ∧ True)) (dd : decode cc pc = .ok (.invokestatic index, 3)) (hroom : (st.map fun v => v.category).sum ≤ 8) (hcs : cells ≤ R.cells ∧ slots ≤ R.slots) (k : ∀ (u : xSg), post u → xJ p l e R s m args below meth c cells slots Q D cl A nL (va_S A s.heap) (wf u) (vs) (pc + 3) (st)) : xJ p l e R s m args below meth c cells slots Q D cl A nL (va_S A s.heap) (wf σ) (vs) (pc) (a1 :: st) := fun H locs ls hP hD hS hl => by
  have hFc := x_free hD hS G.2.2.2.2.2.2.2
  refine va_callv (va_runSN (As := [a1]) (rest := st) ⟨G.1, G.2.1, G.2.2.1, G.2.2.2.1, G.2.2.2.2.1⟩ (hM H.size) cw ⟨fun a U g mk q => by obtain ⟨q0, q1, qP, qK, qN, qD⟩ := q; exact ⟨q0, q1, qP, va_K.moved (u := U) (U := U.calling g mk a) (Vm.Alike.refl U.vm) qK, fun c hc => ⟨(qN c hc).1, nest_same (s := U) (U := U.calling g mk a) (qN c hc).1 rfl (qN c hc).2⟩, qD⟩, fun U hU hW => ⟨rfl, by rw [hU], by rw [hU]; exact hP, va_K.moved hW.alike G.2.2.2.2.2.1, fun c hc => ⟨(G.2.2.2.2.2.2.1 c hc).1, nest_warm (G.2.2.2.2.2.2.1 c hc).1 hW (G.2.2.2.2.2.2.1 c hc).2⟩, hD.weaken (fun _ _ _ _ => trivial)⟩⟩ rfl rfl hl.1 rfl (lv_room hroom) dd ⟨hcs.1, hcs.2⟩) hS (fun q _ h => hFc q h) hFc (fun u t H1 locs1 ht hvm hw hB hz1 hk1 hS1 => ?_)
  obtain ⟨hP1, hD1⟩ := hB
  rw [ht] at hP1
  exact k u hw H1 locs1 ls hP1 (hD1.weaken (fun _ q _ h => hFc q.1 h)) hS1 hl
theorem x_callV2i (G : xG p s m args c cc nL own Ts NW D cl tys A) {wf : xSg → va_W} {σ : xSg} {b : Nat} {C : String} {y : MethodName} {bytes : ByteArray} {maxL index d : Nat} {ret : Option FieldType} {Tc : List Cond} {a1 a2 : Value} {post : Int32 → xSg → Prop} (hM : xCi l D cl tys NW wf y Tc d [.ref b, a1, a2] σ post) (q0 : Nat) {fs : List Value} {ci : Nat} {T : u_T} {N : Nat} (he : (wf σ)[q0]? = some (b, .inr (ci, fs))) (hc : cl[ci]? = some (C, T, N)) (cw : CallW R s args own C index y bytes maxL ret Tc { frames := d, cells := 0, slots := 0, locals := 40 * d } 0 0 2) (dd : decode cc pc = .ok (.invokevirtual index, 3)) (hroom : (st.map fun v => v.category).sum ≤ 8) (hcs : cells ≤ R.cells ∧ slots ≤ R.slots) (k : ∀ (r : Int32) (u : xSg), post r u → xJ p l e R s m args below meth c cells slots Q D cl A nL (va_S A s.heap) (wf u) (vs) (pc + 3) (.int r :: st)) : xJ p l e R s m args below meth c cells slots Q D cl A nL (va_S A s.heap) (wf σ) (vs) (pc) (a2 :: a1 :: .ref b :: st) := fun H locs ls hP hD hS hl => by
  have hFc := x_free hD hS G.2.2.2.2.2.2.2
  refine va_calli (va_runV (As := [a1, a2]) (rest := st) ⟨G.1, G.2.1, G.2.2.1, G.2.2.2.1, G.2.2.2.2.1⟩ (hM H.size) cw ⟨fun a U g mk q => by obtain ⟨q0, q1, qP, qK, qN, qD⟩ := q; exact ⟨q0, q1, qP, va_K.moved (u := U) (U := U.calling g mk a) (Vm.Alike.refl U.vm) qK, fun c hc => ⟨(qN c hc).1, nest_same (s := U) (U := U.calling g mk a) (qN c hc).1 rfl (qN c hc).2⟩, qD⟩, va_recv G.2.2.2.2.2.1 hP hc he, fun U hU hW => ⟨rfl, by rw [hU], by rw [hU]; exact hP, va_K.moved hW.alike G.2.2.2.2.2.1, fun c hc => ⟨(G.2.2.2.2.2.2.1 c hc).1, nest_warm (G.2.2.2.2.2.2.1 c hc).1 hW (G.2.2.2.2.2.2.1 c hc).2⟩, hD.weaken (fun _ _ _ _ => trivial)⟩⟩ rfl rfl hl.1 rfl (lv_room hroom) dd ⟨hcs.1, hcs.2⟩) hS (fun q _ h => hFc q h) hFc (fun r u t H1 locs1 ht hvm hw hB hz1 hk1 hS1 => ?_)
  obtain ⟨hP1, hD1⟩ := hB
  rw [ht] at hP1
  exact k r u hw H1 locs1 ls hP1 (hD1.weaken (fun _ q _ h => hFc q.1 h)) hS1 hl
theorem x_callV2l (G : xG p s m args c cc nL own Ts NW D cl tys A) {wf : xSg → va_W} {σ : xSg} {b : Nat} {C : String} {y : MethodName} {bytes : ByteArray} {maxL index d : Nat} {ret : Option FieldType} {Tc : List Cond} {a1 a2 : Value} {post : Int64 → xSg → Prop} (hM : xCl l D cl tys NW wf y Tc d [.ref b, a1, a2] σ post) (q0 : Nat) {fs : List Value} {ci : Nat} {T : u_T} {N : Nat} (he : (wf σ)[q0]? = some (b, .inr (ci, fs))) (hc : cl[ci]? = some (C, T, N)) (cw : CallW R s args own C index y bytes maxL ret Tc { frames := d, cells := 0, slots := 0, locals := 40 * d } 0 0 2) (dd : decode cc pc = .ok (.invokevirtual index, 3)) (hroom : (st.map fun v => v.category).sum ≤ 8) (hcs : cells ≤ R.cells ∧ slots ≤ R.slots) (k : ∀ (r : Int64) (u : xSg), post r u → xJ p l e R s m args below meth c cells slots Q D cl A nL (va_S A s.heap) (wf u) (vs) (pc + 3) (.long r :: st)) : xJ p l e R s m args below meth c cells slots Q D cl A nL (va_S A s.heap) (wf σ) (vs) (pc) (a2 :: a1 :: .ref b :: st) := fun H locs ls hP hD hS hl => by
  have hFc := x_free hD hS G.2.2.2.2.2.2.2
  refine va_calll (va_runV (As := [a1, a2]) (rest := st) ⟨G.1, G.2.1, G.2.2.1, G.2.2.2.1, G.2.2.2.2.1⟩ (hM H.size) cw ⟨fun a U g mk q => by obtain ⟨q0, q1, qP, qK, qN, qD⟩ := q; exact ⟨q0, q1, qP, va_K.moved (u := U) (U := U.calling g mk a) (Vm.Alike.refl U.vm) qK, fun c hc => ⟨(qN c hc).1, nest_same (s := U) (U := U.calling g mk a) (qN c hc).1 rfl (qN c hc).2⟩, qD⟩, va_recv G.2.2.2.2.2.1 hP hc he, fun U hU hW => ⟨rfl, by rw [hU], by rw [hU]; exact hP, va_K.moved hW.alike G.2.2.2.2.2.1, fun c hc => ⟨(G.2.2.2.2.2.2.1 c hc).1, nest_warm (G.2.2.2.2.2.2.1 c hc).1 hW (G.2.2.2.2.2.2.1 c hc).2⟩, hD.weaken (fun _ _ _ _ => trivial)⟩⟩ rfl rfl hl.1 rfl (lv_room hroom) dd ⟨hcs.1, hcs.2⟩) hS (fun q _ h => hFc q h) hFc (fun r u t H1 locs1 ht hvm hw hB hz1 hk1 hS1 => ?_)
  obtain ⟨hP1, hD1⟩ := hB
  rw [ht] at hP1
  exact k r u hw H1 locs1 ls hP1 (hD1.weaken (fun _ q _ h => hFc q.1 h)) hS1 hl
theorem x_callV2v (G : xG p s m args c cc nL own Ts NW D cl tys A) {wf : xSg → va_W} {σ : xSg} {b : Nat} {C : String} {y : MethodName} {bytes : ByteArray} {maxL index d : Nat} {ret : Option FieldType} {Tc : List Cond} {a1 a2 : Value} {post : xSg → Prop} (hM : xCv l D cl tys NW wf y Tc d [.ref b, a1, a2] σ post) (q0 : Nat) {fs : List Value} {ci : Nat} {T : u_T} {N : Nat} (he : (wf σ)[q0]? = some (b, .inr (ci, fs))) (hc : cl[ci]? = some (C, T, N)) (cw : CallW R s args own C index y bytes maxL ret Tc { frames := d, cells := 0, slots := 0, locals := 40 * d } 0 0 2) (dd : decode cc pc = .ok (.invokevirtual index, 3)) (hroom : (st.map fun v => v.category).sum ≤ 8) (hcs : cells ≤ R.cells ∧ slots ≤ R.slots) (k : ∀ (u : xSg), post u → xJ p l e R s m args below meth c cells slots Q D cl A nL (va_S A s.heap) (wf u) (vs) (pc + 3) (st)) : xJ p l e R s m args below meth c cells slots Q D cl A nL (va_S A s.heap) (wf σ) (vs) (pc) (a2 :: a1 :: .ref b :: st) := fun H locs ls hP hD hS hl => by
  have hFc := x_free hD hS G.2.2.2.2.2.2.2
  refine va_callv (va_runV (As := [a1, a2]) (rest := st) ⟨G.1, G.2.1, G.2.2.1, G.2.2.2.1, G.2.2.2.2.1⟩ (hM H.size) cw ⟨fun a U g mk q => by obtain ⟨q0, q1, qP, qK, qN, qD⟩ := q; exact ⟨q0, q1, qP, va_K.moved (u := U) (U := U.calling g mk a) (Vm.Alike.refl U.vm) qK, fun c hc => ⟨(qN c hc).1, nest_same (s := U) (U := U.calling g mk a) (qN c hc).1 rfl (qN c hc).2⟩, qD⟩, va_recv G.2.2.2.2.2.1 hP hc he, fun U hU hW => ⟨rfl, by rw [hU], by rw [hU]; exact hP, va_K.moved hW.alike G.2.2.2.2.2.1, fun c hc => ⟨(G.2.2.2.2.2.2.1 c hc).1, nest_warm (G.2.2.2.2.2.2.1 c hc).1 hW (G.2.2.2.2.2.2.1 c hc).2⟩, hD.weaken (fun _ _ _ _ => trivial)⟩⟩ rfl rfl hl.1 rfl (lv_room hroom) dd ⟨hcs.1, hcs.2⟩) hS (fun q _ h => hFc q h) hFc (fun u t H1 locs1 ht hvm hw hB hz1 hk1 hS1 => ?_)
  obtain ⟨hP1, hD1⟩ := hB
  rw [ht] at hP1
  exact k u hw H1 locs1 ls hP1 (hD1.weaken (fun _ q _ h => hFc q.1 h)) hS1 hl
theorem x_callVN2i (G : xG p s m args c cc nL own Ts NW D cl tys A) {wf : xSg → va_W} {σ : xSg} {b : Nat} {C : String} {host : String} {y : MethodName} {bytes : ByteArray} {maxL index d : Nat} {ret : Option FieldType} {Tc : List Cond} {a1 a2 : Value} {post : Int32 → xSg → Prop} (hM : xCi l D cl tys NW wf y Tc d [.ref b, a1, a2] σ post) (q0 : Nat) {fs : List Value} {ci : Nat} {T : u_T} {N : Nat} (he : (wf σ)[q0]? = some (b, .inr (ci, fs))) (hc : cl[ci]? = some (C, T, N)) (cw : (va_CN R s args own index y host bytes maxL ret Tc { frames := d, cells := 0, slots := 0, locals := 40 * d } 0 0 2 ∧ (Cond.instanceMethod y).before args s = true ∧ (Cond.selects C y y).before args s = true)) (dd : decode cc pc = .ok (.invokevirtual index, 3)) (hroom : (st.map fun v => v.category).sum ≤ 8) (hcs : cells ≤ R.cells ∧ slots ≤ R.slots) (k : ∀ (r : Int32) (u : xSg), post r u → xJ p l e R s m args below meth c cells slots Q D cl A nL (va_S A s.heap) (wf u) (vs) (pc + 3) (.int r :: st)) : xJ p l e R s m args below meth c cells slots Q D cl A nL (va_S A s.heap) (wf σ) (vs) (pc) (a2 :: a1 :: .ref b :: st) := fun H locs ls hP hD hS hl => by
  have hFc := x_free hD hS G.2.2.2.2.2.2.2
  refine va_calli (va_runVN (As := [a1, a2]) (rest := st) ⟨G.1, G.2.1, G.2.2.1, G.2.2.2.1, G.2.2.2.2.1⟩ (hM H.size) cw ⟨fun a U g mk q => by obtain ⟨q0, q1, qP, qK, qN, qD⟩ := q; exact ⟨q0, q1, qP, va_K.moved (u := U) (U := U.calling g mk a) (Vm.Alike.refl U.vm) qK, fun c hc => ⟨(qN c hc).1, nest_same (s := U) (U := U.calling g mk a) (qN c hc).1 rfl (qN c hc).2⟩, qD⟩, va_recv G.2.2.2.2.2.1 hP hc he, fun U hU hW => ⟨rfl, by rw [hU], by rw [hU]; exact hP, va_K.moved hW.alike G.2.2.2.2.2.1, fun c hc => ⟨(G.2.2.2.2.2.2.1 c hc).1, nest_warm (G.2.2.2.2.2.2.1 c hc).1 hW (G.2.2.2.2.2.2.1 c hc).2⟩, hD.weaken (fun _ _ _ _ => trivial)⟩⟩ rfl rfl hl.1 rfl (lv_room hroom) dd ⟨hcs.1, hcs.2⟩) hS (fun q _ h => hFc q h) hFc (fun r u t H1 locs1 ht hvm hw hB hz1 hk1 hS1 => ?_)
  obtain ⟨hP1, hD1⟩ := hB
  rw [ht] at hP1
  exact k r u hw H1 locs1 ls hP1 (hD1.weaken (fun _ q _ h => hFc q.1 h)) hS1 hl
theorem x_callVN2l (G : xG p s m args c cc nL own Ts NW D cl tys A) {wf : xSg → va_W} {σ : xSg} {b : Nat} {C : String} {host : String} {y : MethodName} {bytes : ByteArray} {maxL index d : Nat} {ret : Option FieldType} {Tc : List Cond} {a1 a2 : Value} {post : Int64 → xSg → Prop} (hM : xCl l D cl tys NW wf y Tc d [.ref b, a1, a2] σ post) (q0 : Nat) {fs : List Value} {ci : Nat} {T : u_T} {N : Nat} (he : (wf σ)[q0]? = some (b, .inr (ci, fs))) (hc : cl[ci]? = some (C, T, N)) (cw : (va_CN R s args own index y host bytes maxL ret Tc { frames := d, cells := 0, slots := 0, locals := 40 * d } 0 0 2 ∧ (Cond.instanceMethod y).before args s = true ∧ (Cond.selects C y y).before args s = true)) (dd : decode cc pc = .ok (.invokevirtual index, 3)) (hroom : (st.map fun v => v.category).sum ≤ 8) (hcs : cells ≤ R.cells ∧ slots ≤ R.slots) (k : ∀ (r : Int64) (u : xSg), post r u → xJ p l e R s m args below meth c cells slots Q D cl A nL (va_S A s.heap) (wf u) (vs) (pc + 3) (.long r :: st)) : xJ p l e R s m args below meth c cells slots Q D cl A nL (va_S A s.heap) (wf σ) (vs) (pc) (a2 :: a1 :: .ref b :: st) := fun H locs ls hP hD hS hl => by
  have hFc := x_free hD hS G.2.2.2.2.2.2.2
  refine va_calll (va_runVN (As := [a1, a2]) (rest := st) ⟨G.1, G.2.1, G.2.2.1, G.2.2.2.1, G.2.2.2.2.1⟩ (hM H.size) cw ⟨fun a U g mk q => by obtain ⟨q0, q1, qP, qK, qN, qD⟩ := q; exact ⟨q0, q1, qP, va_K.moved (u := U) (U := U.calling g mk a) (Vm.Alike.refl U.vm) qK, fun c hc => ⟨(qN c hc).1, nest_same (s := U) (U := U.calling g mk a) (qN c hc).1 rfl (qN c hc).2⟩, qD⟩, va_recv G.2.2.2.2.2.1 hP hc he, fun U hU hW => ⟨rfl, by rw [hU], by rw [hU]; exact hP, va_K.moved hW.alike G.2.2.2.2.2.1, fun c hc => ⟨(G.2.2.2.2.2.2.1 c hc).1, nest_warm (G.2.2.2.2.2.2.1 c hc).1 hW (G.2.2.2.2.2.2.1 c hc).2⟩, hD.weaken (fun _ _ _ _ => trivial)⟩⟩ rfl rfl hl.1 rfl (lv_room hroom) dd ⟨hcs.1, hcs.2⟩) hS (fun q _ h => hFc q h) hFc (fun r u t H1 locs1 ht hvm hw hB hz1 hk1 hS1 => ?_)
  obtain ⟨hP1, hD1⟩ := hB
  rw [ht] at hP1
  exact k r u hw H1 locs1 ls hP1 (hD1.weaken (fun _ q _ h => hFc q.1 h)) hS1 hl
theorem x_callVN2v (G : xG p s m args c cc nL own Ts NW D cl tys A) {wf : xSg → va_W} {σ : xSg} {b : Nat} {C : String} {host : String} {y : MethodName} {bytes : ByteArray} {maxL index d : Nat} {ret : Option FieldType} {Tc : List Cond} {a1 a2 : Value} {post : xSg → Prop} (hM : xCv l D cl tys NW wf y Tc d [.ref b, a1, a2] σ post) (q0 : Nat) {fs : List Value} {ci : Nat} {T : u_T} {N : Nat} (he : (wf σ)[q0]? = some (b, .inr (ci, fs))) (hc : cl[ci]? = some (C, T, N)) (cw : (va_CN R s args own index y host bytes maxL ret Tc { frames := d, cells := 0, slots := 0, locals := 40 * d } 0 0 2 ∧ (Cond.instanceMethod y).before args s = true ∧ (Cond.selects C y y).before args s = true)) (dd : decode cc pc = .ok (.invokevirtual index, 3)) (hroom : (st.map fun v => v.category).sum ≤ 8) (hcs : cells ≤ R.cells ∧ slots ≤ R.slots) (k : ∀ (u : xSg), post u → xJ p l e R s m args below meth c cells slots Q D cl A nL (va_S A s.heap) (wf u) (vs) (pc + 3) (st)) : xJ p l e R s m args below meth c cells slots Q D cl A nL (va_S A s.heap) (wf σ) (vs) (pc) (a2 :: a1 :: .ref b :: st) := fun H locs ls hP hD hS hl => by
  have hFc := x_free hD hS G.2.2.2.2.2.2.2
  refine va_callv (va_runVN (As := [a1, a2]) (rest := st) ⟨G.1, G.2.1, G.2.2.1, G.2.2.2.1, G.2.2.2.2.1⟩ (hM H.size) cw ⟨fun a U g mk q => by obtain ⟨q0, q1, qP, qK, qN, qD⟩ := q; exact ⟨q0, q1, qP, va_K.moved (u := U) (U := U.calling g mk a) (Vm.Alike.refl U.vm) qK, fun c hc => ⟨(qN c hc).1, nest_same (s := U) (U := U.calling g mk a) (qN c hc).1 rfl (qN c hc).2⟩, qD⟩, va_recv G.2.2.2.2.2.1 hP hc he, fun U hU hW => ⟨rfl, by rw [hU], by rw [hU]; exact hP, va_K.moved hW.alike G.2.2.2.2.2.1, fun c hc => ⟨(G.2.2.2.2.2.2.1 c hc).1, nest_warm (G.2.2.2.2.2.2.1 c hc).1 hW (G.2.2.2.2.2.2.1 c hc).2⟩, hD.weaken (fun _ _ _ _ => trivial)⟩⟩ rfl rfl hl.1 rfl (lv_room hroom) dd ⟨hcs.1, hcs.2⟩) hS (fun q _ h => hFc q h) hFc (fun u t H1 locs1 ht hvm hw hB hz1 hk1 hS1 => ?_)
  obtain ⟨hP1, hD1⟩ := hB
  rw [ht] at hP1
  exact k u hw H1 locs1 ls hP1 (hD1.weaken (fun _ q _ h => hFc q.1 h)) hS1 hl
theorem x_callS2i (G : xG p s m args c cc nL own Ts NW D cl tys A) {wf : xSg → va_W} {σ : xSg} {y : MethodName} {bytes : ByteArray} {maxL index d : Nat} {ret : Option FieldType} {Tc : List Cond} {a1 a2 : Value} {post : Int32 → xSg → Prop} (hM : xCi l D cl tys NW wf y Tc d [a1, a2] σ post) (cw : (CallB R s args own index y bytes maxL ret Tc { frames := d, cells := 0, slots := 0, locals := 40 * d } 0 0 2 ∧ (Cond.static y).before args s = true)) (dd : decode cc pc = .ok (.invokestatic index, 3)) (hroom : (st.map fun v => v.category).sum ≤ 8) (hcs : cells ≤ R.cells ∧ slots ≤ R.slots) (k : ∀ (r : Int32) (u : xSg), post r u → xJ p l e R s m args below meth c cells slots Q D cl A nL (va_S A s.heap) (wf u) (vs) (pc + 3) (.int r :: st)) : xJ p l e R s m args below meth c cells slots Q D cl A nL (va_S A s.heap) (wf σ) (vs) (pc) (a2 :: a1 :: st) := fun H locs ls hP hD hS hl => by
  have hFc := x_free hD hS G.2.2.2.2.2.2.2
  refine va_calli (va_runS (As := [a1, a2]) (rest := st) ⟨G.1, G.2.1, G.2.2.1, G.2.2.2.1, G.2.2.2.2.1⟩ (hM H.size) cw ⟨fun a U g mk q => by obtain ⟨q0, q1, qP, qK, qN, qD⟩ := q; exact ⟨q0, q1, qP, va_K.moved (u := U) (U := U.calling g mk a) (Vm.Alike.refl U.vm) qK, fun c hc => ⟨(qN c hc).1, nest_same (s := U) (U := U.calling g mk a) (qN c hc).1 rfl (qN c hc).2⟩, qD⟩, fun U hU hW => ⟨rfl, by rw [hU], by rw [hU]; exact hP, va_K.moved hW.alike G.2.2.2.2.2.1, fun c hc => ⟨(G.2.2.2.2.2.2.1 c hc).1, nest_warm (G.2.2.2.2.2.2.1 c hc).1 hW (G.2.2.2.2.2.2.1 c hc).2⟩, hD.weaken (fun _ _ _ _ => trivial)⟩⟩ rfl rfl hl.1 rfl (lv_room hroom) dd ⟨hcs.1, hcs.2⟩) hS (fun q _ h => hFc q h) hFc (fun r u t H1 locs1 ht hvm hw hB hz1 hk1 hS1 => ?_)
  obtain ⟨hP1, hD1⟩ := hB
  rw [ht] at hP1
  exact k r u hw H1 locs1 ls hP1 (hD1.weaken (fun _ q _ h => hFc q.1 h)) hS1 hl
theorem x_callS2l (G : xG p s m args c cc nL own Ts NW D cl tys A) {wf : xSg → va_W} {σ : xSg} {y : MethodName} {bytes : ByteArray} {maxL index d : Nat} {ret : Option FieldType} {Tc : List Cond} {a1 a2 : Value} {post : Int64 → xSg → Prop} (hM : xCl l D cl tys NW wf y Tc d [a1, a2] σ post) (cw : (CallB R s args own index y bytes maxL ret Tc { frames := d, cells := 0, slots := 0, locals := 40 * d } 0 0 2 ∧ (Cond.static y).before args s = true)) (dd : decode cc pc = .ok (.invokestatic index, 3)) (hroom : (st.map fun v => v.category).sum ≤ 8) (hcs : cells ≤ R.cells ∧ slots ≤ R.slots) (k : ∀ (r : Int64) (u : xSg), post r u → xJ p l e R s m args below meth c cells slots Q D cl A nL (va_S A s.heap) (wf u) (vs) (pc + 3) (.long r :: st)) : xJ p l e R s m args below meth c cells slots Q D cl A nL (va_S A s.heap) (wf σ) (vs) (pc) (a2 :: a1 :: st) := fun H locs ls hP hD hS hl => by
  have hFc := x_free hD hS G.2.2.2.2.2.2.2
  refine va_calll (va_runS (As := [a1, a2]) (rest := st) ⟨G.1, G.2.1, G.2.2.1, G.2.2.2.1, G.2.2.2.2.1⟩ (hM H.size) cw ⟨fun a U g mk q => by obtain ⟨q0, q1, qP, qK, qN, qD⟩ := q; exact ⟨q0, q1, qP, va_K.moved (u := U) (U := U.calling g mk a) (Vm.Alike.refl U.vm) qK, fun c hc => ⟨(qN c hc).1, nest_same (s := U) (U := U.calling g mk a) (qN c hc).1 rfl (qN c hc).2⟩, qD⟩, fun U hU hW => ⟨rfl, by rw [hU], by rw [hU]; exact hP, va_K.moved hW.alike G.2.2.2.2.2.1, fun c hc => ⟨(G.2.2.2.2.2.2.1 c hc).1, nest_warm (G.2.2.2.2.2.2.1 c hc).1 hW (G.2.2.2.2.2.2.1 c hc).2⟩, hD.weaken (fun _ _ _ _ => trivial)⟩⟩ rfl rfl hl.1 rfl (lv_room hroom) dd ⟨hcs.1, hcs.2⟩) hS (fun q _ h => hFc q h) hFc (fun r u t H1 locs1 ht hvm hw hB hz1 hk1 hS1 => ?_)
  obtain ⟨hP1, hD1⟩ := hB
  rw [ht] at hP1
  exact k r u hw H1 locs1 ls hP1 (hD1.weaken (fun _ q _ h => hFc q.1 h)) hS1 hl
theorem x_callS2v (G : xG p s m args c cc nL own Ts NW D cl tys A) {wf : xSg → va_W} {σ : xSg} {y : MethodName} {bytes : ByteArray} {maxL index d : Nat} {ret : Option FieldType} {Tc : List Cond} {a1 a2 : Value} {post : xSg → Prop} (hM : xCv l D cl tys NW wf y Tc d [a1, a2] σ post) (cw : (CallB R s args own index y bytes maxL ret Tc { frames := d, cells := 0, slots := 0, locals := 40 * d } 0 0 2 ∧ (Cond.static y).before args s = true)) (dd : decode cc pc = .ok (.invokestatic index, 3)) (hroom : (st.map fun v => v.category).sum ≤ 8) (hcs : cells ≤ R.cells ∧ slots ≤ R.slots) (k : ∀ (u : xSg), post u → xJ p l e R s m args below meth c cells slots Q D cl A nL (va_S A s.heap) (wf u) (vs) (pc + 3) (st)) : xJ p l e R s m args below meth c cells slots Q D cl A nL (va_S A s.heap) (wf σ) (vs) (pc) (a2 :: a1 :: st) := fun H locs ls hP hD hS hl => by
  have hFc := x_free hD hS G.2.2.2.2.2.2.2
  refine va_callv (va_runS (As := [a1, a2]) (rest := st) ⟨G.1, G.2.1, G.2.2.1, G.2.2.2.1, G.2.2.2.2.1⟩ (hM H.size) cw ⟨fun a U g mk q => by obtain ⟨q0, q1, qP, qK, qN, qD⟩ := q; exact ⟨q0, q1, qP, va_K.moved (u := U) (U := U.calling g mk a) (Vm.Alike.refl U.vm) qK, fun c hc => ⟨(qN c hc).1, nest_same (s := U) (U := U.calling g mk a) (qN c hc).1 rfl (qN c hc).2⟩, qD⟩, fun U hU hW => ⟨rfl, by rw [hU], by rw [hU]; exact hP, va_K.moved hW.alike G.2.2.2.2.2.1, fun c hc => ⟨(G.2.2.2.2.2.2.1 c hc).1, nest_warm (G.2.2.2.2.2.2.1 c hc).1 hW (G.2.2.2.2.2.2.1 c hc).2⟩, hD.weaken (fun _ _ _ _ => trivial)⟩⟩ rfl rfl hl.1 rfl (lv_room hroom) dd ⟨hcs.1, hcs.2⟩) hS (fun q _ h => hFc q h) hFc (fun u t H1 locs1 ht hvm hw hB hz1 hk1 hS1 => ?_)
  obtain ⟨hP1, hD1⟩ := hB
  rw [ht] at hP1
  exact k u hw H1 locs1 ls hP1 (hD1.weaken (fun _ q _ h => hFc q.1 h)) hS1 hl
theorem x_callSN2i (G : xG p s m args c cc nL own Ts NW D cl tys A) {wf : xSg → va_W} {σ : xSg} {host : String} {y : MethodName} {bytes : ByteArray} {maxL index d : Nat} {ret : Option FieldType} {Tc : List Cond} {a1 a2 : Value} {post : Int32 → xSg → Prop} (hM : xCi l D cl tys NW wf y Tc d [a1, a2] σ post) (cw : (va_CN R s args own index y host bytes maxL ret Tc { frames := d, cells := 0, slots := 0, locals := 40 * d } 0 0 2 ∧ (Cond.static y).before args s = true ∧ True)) (dd : decode cc pc = .ok (.invokestatic index, 3)) (hroom : (st.map fun v => v.category).sum ≤ 8) (hcs : cells ≤ R.cells ∧ slots ≤ R.slots) (k : ∀ (r : Int32) (u : xSg), post r u → xJ p l e R s m args below meth c cells slots Q D cl A nL (va_S A s.heap) (wf u) (vs) (pc + 3) (.int r :: st)) : xJ p l e R s m args below meth c cells slots Q D cl A nL (va_S A s.heap) (wf σ) (vs) (pc) (a2 :: a1 :: st) := fun H locs ls hP hD hS hl => by
  have hFc := x_free hD hS G.2.2.2.2.2.2.2
  refine va_calli (va_runSN (As := [a1, a2]) (rest := st) ⟨G.1, G.2.1, G.2.2.1, G.2.2.2.1, G.2.2.2.2.1⟩ (hM H.size) cw ⟨fun a U g mk q => by obtain ⟨q0, q1, qP, qK, qN, qD⟩ := q; exact ⟨q0, q1, qP, va_K.moved (u := U) (U := U.calling g mk a) (Vm.Alike.refl U.vm) qK, fun c hc => ⟨(qN c hc).1, nest_same (s := U) (U := U.calling g mk a) (qN c hc).1 rfl (qN c hc).2⟩, qD⟩, fun U hU hW => ⟨rfl, by rw [hU], by rw [hU]; exact hP, va_K.moved hW.alike G.2.2.2.2.2.1, fun c hc => ⟨(G.2.2.2.2.2.2.1 c hc).1, nest_warm (G.2.2.2.2.2.2.1 c hc).1 hW (G.2.2.2.2.2.2.1 c hc).2⟩, hD.weaken (fun _ _ _ _ => trivial)⟩⟩ rfl rfl hl.1 rfl (lv_room hroom) dd ⟨hcs.1, hcs.2⟩) hS (fun q _ h => hFc q h) hFc (fun r u t H1 locs1 ht hvm hw hB hz1 hk1 hS1 => ?_)
  obtain ⟨hP1, hD1⟩ := hB
  rw [ht] at hP1
  exact k r u hw H1 locs1 ls hP1 (hD1.weaken (fun _ q _ h => hFc q.1 h)) hS1 hl
theorem x_callSN2l (G : xG p s m args c cc nL own Ts NW D cl tys A) {wf : xSg → va_W} {σ : xSg} {host : String} {y : MethodName} {bytes : ByteArray} {maxL index d : Nat} {ret : Option FieldType} {Tc : List Cond} {a1 a2 : Value} {post : Int64 → xSg → Prop} (hM : xCl l D cl tys NW wf y Tc d [a1, a2] σ post) (cw : (va_CN R s args own index y host bytes maxL ret Tc { frames := d, cells := 0, slots := 0, locals := 40 * d } 0 0 2 ∧ (Cond.static y).before args s = true ∧ True)) (dd : decode cc pc = .ok (.invokestatic index, 3)) (hroom : (st.map fun v => v.category).sum ≤ 8) (hcs : cells ≤ R.cells ∧ slots ≤ R.slots) (k : ∀ (r : Int64) (u : xSg), post r u → xJ p l e R s m args below meth c cells slots Q D cl A nL (va_S A s.heap) (wf u) (vs) (pc + 3) (.long r :: st)) : xJ p l e R s m args below meth c cells slots Q D cl A nL (va_S A s.heap) (wf σ) (vs) (pc) (a2 :: a1 :: st) := fun H locs ls hP hD hS hl => by
  have hFc := x_free hD hS G.2.2.2.2.2.2.2
  refine va_calll (va_runSN (As := [a1, a2]) (rest := st) ⟨G.1, G.2.1, G.2.2.1, G.2.2.2.1, G.2.2.2.2.1⟩ (hM H.size) cw ⟨fun a U g mk q => by obtain ⟨q0, q1, qP, qK, qN, qD⟩ := q; exact ⟨q0, q1, qP, va_K.moved (u := U) (U := U.calling g mk a) (Vm.Alike.refl U.vm) qK, fun c hc => ⟨(qN c hc).1, nest_same (s := U) (U := U.calling g mk a) (qN c hc).1 rfl (qN c hc).2⟩, qD⟩, fun U hU hW => ⟨rfl, by rw [hU], by rw [hU]; exact hP, va_K.moved hW.alike G.2.2.2.2.2.1, fun c hc => ⟨(G.2.2.2.2.2.2.1 c hc).1, nest_warm (G.2.2.2.2.2.2.1 c hc).1 hW (G.2.2.2.2.2.2.1 c hc).2⟩, hD.weaken (fun _ _ _ _ => trivial)⟩⟩ rfl rfl hl.1 rfl (lv_room hroom) dd ⟨hcs.1, hcs.2⟩) hS (fun q _ h => hFc q h) hFc (fun r u t H1 locs1 ht hvm hw hB hz1 hk1 hS1 => ?_)
  obtain ⟨hP1, hD1⟩ := hB
  rw [ht] at hP1
  exact k r u hw H1 locs1 ls hP1 (hD1.weaken (fun _ q _ h => hFc q.1 h)) hS1 hl
theorem x_callSN2v (G : xG p s m args c cc nL own Ts NW D cl tys A) {wf : xSg → va_W} {σ : xSg} {host : String} {y : MethodName} {bytes : ByteArray} {maxL index d : Nat} {ret : Option FieldType} {Tc : List Cond} {a1 a2 : Value} {post : xSg → Prop} (hM : xCv l D cl tys NW wf y Tc d [a1, a2] σ post) (cw : (va_CN R s args own index y host bytes maxL ret Tc { frames := d, cells := 0, slots := 0, locals := 40 * d } 0 0 2 ∧ (Cond.static y).before args s = true ∧ True)) (dd : decode cc pc = .ok (.invokestatic index, 3)) (hroom : (st.map fun v => v.category).sum ≤ 8) (hcs : cells ≤ R.cells ∧ slots ≤ R.slots) (k : ∀ (u : xSg), post u → xJ p l e R s m args below meth c cells slots Q D cl A nL (va_S A s.heap) (wf u) (vs) (pc + 3) (st)) : xJ p l e R s m args below meth c cells slots Q D cl A nL (va_S A s.heap) (wf σ) (vs) (pc) (a2 :: a1 :: st) := fun H locs ls hP hD hS hl => by
  have hFc := x_free hD hS G.2.2.2.2.2.2.2
  refine va_callv (va_runSN (As := [a1, a2]) (rest := st) ⟨G.1, G.2.1, G.2.2.1, G.2.2.2.1, G.2.2.2.2.1⟩ (hM H.size) cw ⟨fun a U g mk q => by obtain ⟨q0, q1, qP, qK, qN, qD⟩ := q; exact ⟨q0, q1, qP, va_K.moved (u := U) (U := U.calling g mk a) (Vm.Alike.refl U.vm) qK, fun c hc => ⟨(qN c hc).1, nest_same (s := U) (U := U.calling g mk a) (qN c hc).1 rfl (qN c hc).2⟩, qD⟩, fun U hU hW => ⟨rfl, by rw [hU], by rw [hU]; exact hP, va_K.moved hW.alike G.2.2.2.2.2.1, fun c hc => ⟨(G.2.2.2.2.2.2.1 c hc).1, nest_warm (G.2.2.2.2.2.2.1 c hc).1 hW (G.2.2.2.2.2.2.1 c hc).2⟩, hD.weaken (fun _ _ _ _ => trivial)⟩⟩ rfl rfl hl.1 rfl (lv_room hroom) dd ⟨hcs.1, hcs.2⟩) hS (fun q _ h => hFc q h) hFc (fun u t H1 locs1 ht hvm hw hB hz1 hk1 hS1 => ?_)
  obtain ⟨hP1, hD1⟩ := hB
  rw [ht] at hP1
  exact k u hw H1 locs1 ls hP1 (hD1.weaken (fun _ q _ h => hFc q.1 h)) hS1 hl
theorem x_callV3i (G : xG p s m args c cc nL own Ts NW D cl tys A) {wf : xSg → va_W} {σ : xSg} {b : Nat} {C : String} {y : MethodName} {bytes : ByteArray} {maxL index d : Nat} {ret : Option FieldType} {Tc : List Cond} {a1 a2 a3 : Value} {post : Int32 → xSg → Prop} (hM : xCi l D cl tys NW wf y Tc d [.ref b, a1, a2, a3] σ post) (q0 : Nat) {fs : List Value} {ci : Nat} {T : u_T} {N : Nat} (he : (wf σ)[q0]? = some (b, .inr (ci, fs))) (hc : cl[ci]? = some (C, T, N)) (cw : CallW R s args own C index y bytes maxL ret Tc { frames := d, cells := 0, slots := 0, locals := 40 * d } 0 0 3) (dd : decode cc pc = .ok (.invokevirtual index, 3)) (hroom : (st.map fun v => v.category).sum ≤ 8) (hcs : cells ≤ R.cells ∧ slots ≤ R.slots) (k : ∀ (r : Int32) (u : xSg), post r u → xJ p l e R s m args below meth c cells slots Q D cl A nL (va_S A s.heap) (wf u) (vs) (pc + 3) (.int r :: st)) : xJ p l e R s m args below meth c cells slots Q D cl A nL (va_S A s.heap) (wf σ) (vs) (pc) (a3 :: a2 :: a1 :: .ref b :: st) := fun H locs ls hP hD hS hl => by
  have hFc := x_free hD hS G.2.2.2.2.2.2.2
  refine va_calli (va_runV (As := [a1, a2, a3]) (rest := st) ⟨G.1, G.2.1, G.2.2.1, G.2.2.2.1, G.2.2.2.2.1⟩ (hM H.size) cw ⟨fun a U g mk q => by obtain ⟨q0, q1, qP, qK, qN, qD⟩ := q; exact ⟨q0, q1, qP, va_K.moved (u := U) (U := U.calling g mk a) (Vm.Alike.refl U.vm) qK, fun c hc => ⟨(qN c hc).1, nest_same (s := U) (U := U.calling g mk a) (qN c hc).1 rfl (qN c hc).2⟩, qD⟩, va_recv G.2.2.2.2.2.1 hP hc he, fun U hU hW => ⟨rfl, by rw [hU], by rw [hU]; exact hP, va_K.moved hW.alike G.2.2.2.2.2.1, fun c hc => ⟨(G.2.2.2.2.2.2.1 c hc).1, nest_warm (G.2.2.2.2.2.2.1 c hc).1 hW (G.2.2.2.2.2.2.1 c hc).2⟩, hD.weaken (fun _ _ _ _ => trivial)⟩⟩ rfl rfl hl.1 rfl (lv_room hroom) dd ⟨hcs.1, hcs.2⟩) hS (fun q _ h => hFc q h) hFc (fun r u t H1 locs1 ht hvm hw hB hz1 hk1 hS1 => ?_)
  obtain ⟨hP1, hD1⟩ := hB
  rw [ht] at hP1
  exact k r u hw H1 locs1 ls hP1 (hD1.weaken (fun _ q _ h => hFc q.1 h)) hS1 hl
theorem x_callV3l (G : xG p s m args c cc nL own Ts NW D cl tys A) {wf : xSg → va_W} {σ : xSg} {b : Nat} {C : String} {y : MethodName} {bytes : ByteArray} {maxL index d : Nat} {ret : Option FieldType} {Tc : List Cond} {a1 a2 a3 : Value} {post : Int64 → xSg → Prop} (hM : xCl l D cl tys NW wf y Tc d [.ref b, a1, a2, a3] σ post) (q0 : Nat) {fs : List Value} {ci : Nat} {T : u_T} {N : Nat} (he : (wf σ)[q0]? = some (b, .inr (ci, fs))) (hc : cl[ci]? = some (C, T, N)) (cw : CallW R s args own C index y bytes maxL ret Tc { frames := d, cells := 0, slots := 0, locals := 40 * d } 0 0 3) (dd : decode cc pc = .ok (.invokevirtual index, 3)) (hroom : (st.map fun v => v.category).sum ≤ 8) (hcs : cells ≤ R.cells ∧ slots ≤ R.slots) (k : ∀ (r : Int64) (u : xSg), post r u → xJ p l e R s m args below meth c cells slots Q D cl A nL (va_S A s.heap) (wf u) (vs) (pc + 3) (.long r :: st)) : xJ p l e R s m args below meth c cells slots Q D cl A nL (va_S A s.heap) (wf σ) (vs) (pc) (a3 :: a2 :: a1 :: .ref b :: st) := fun H locs ls hP hD hS hl => by
  have hFc := x_free hD hS G.2.2.2.2.2.2.2
  refine va_calll (va_runV (As := [a1, a2, a3]) (rest := st) ⟨G.1, G.2.1, G.2.2.1, G.2.2.2.1, G.2.2.2.2.1⟩ (hM H.size) cw ⟨fun a U g mk q => by obtain ⟨q0, q1, qP, qK, qN, qD⟩ := q; exact ⟨q0, q1, qP, va_K.moved (u := U) (U := U.calling g mk a) (Vm.Alike.refl U.vm) qK, fun c hc => ⟨(qN c hc).1, nest_same (s := U) (U := U.calling g mk a) (qN c hc).1 rfl (qN c hc).2⟩, qD⟩, va_recv G.2.2.2.2.2.1 hP hc he, fun U hU hW => ⟨rfl, by rw [hU], by rw [hU]; exact hP, va_K.moved hW.alike G.2.2.2.2.2.1, fun c hc => ⟨(G.2.2.2.2.2.2.1 c hc).1, nest_warm (G.2.2.2.2.2.2.1 c hc).1 hW (G.2.2.2.2.2.2.1 c hc).2⟩, hD.weaken (fun _ _ _ _ => trivial)⟩⟩ rfl rfl hl.1 rfl (lv_room hroom) dd ⟨hcs.1, hcs.2⟩) hS (fun q _ h => hFc q h) hFc (fun r u t H1 locs1 ht hvm hw hB hz1 hk1 hS1 => ?_)
  obtain ⟨hP1, hD1⟩ := hB
  rw [ht] at hP1
  exact k r u hw H1 locs1 ls hP1 (hD1.weaken (fun _ q _ h => hFc q.1 h)) hS1 hl
theorem x_callV3v (G : xG p s m args c cc nL own Ts NW D cl tys A) {wf : xSg → va_W} {σ : xSg} {b : Nat} {C : String} {y : MethodName} {bytes : ByteArray} {maxL index d : Nat} {ret : Option FieldType} {Tc : List Cond} {a1 a2 a3 : Value} {post : xSg → Prop} (hM : xCv l D cl tys NW wf y Tc d [.ref b, a1, a2, a3] σ post) (q0 : Nat) {fs : List Value} {ci : Nat} {T : u_T} {N : Nat} (he : (wf σ)[q0]? = some (b, .inr (ci, fs))) (hc : cl[ci]? = some (C, T, N)) (cw : CallW R s args own C index y bytes maxL ret Tc { frames := d, cells := 0, slots := 0, locals := 40 * d } 0 0 3) (dd : decode cc pc = .ok (.invokevirtual index, 3)) (hroom : (st.map fun v => v.category).sum ≤ 8) (hcs : cells ≤ R.cells ∧ slots ≤ R.slots) (k : ∀ (u : xSg), post u → xJ p l e R s m args below meth c cells slots Q D cl A nL (va_S A s.heap) (wf u) (vs) (pc + 3) (st)) : xJ p l e R s m args below meth c cells slots Q D cl A nL (va_S A s.heap) (wf σ) (vs) (pc) (a3 :: a2 :: a1 :: .ref b :: st) := fun H locs ls hP hD hS hl => by
  have hFc := x_free hD hS G.2.2.2.2.2.2.2
  refine va_callv (va_runV (As := [a1, a2, a3]) (rest := st) ⟨G.1, G.2.1, G.2.2.1, G.2.2.2.1, G.2.2.2.2.1⟩ (hM H.size) cw ⟨fun a U g mk q => by obtain ⟨q0, q1, qP, qK, qN, qD⟩ := q; exact ⟨q0, q1, qP, va_K.moved (u := U) (U := U.calling g mk a) (Vm.Alike.refl U.vm) qK, fun c hc => ⟨(qN c hc).1, nest_same (s := U) (U := U.calling g mk a) (qN c hc).1 rfl (qN c hc).2⟩, qD⟩, va_recv G.2.2.2.2.2.1 hP hc he, fun U hU hW => ⟨rfl, by rw [hU], by rw [hU]; exact hP, va_K.moved hW.alike G.2.2.2.2.2.1, fun c hc => ⟨(G.2.2.2.2.2.2.1 c hc).1, nest_warm (G.2.2.2.2.2.2.1 c hc).1 hW (G.2.2.2.2.2.2.1 c hc).2⟩, hD.weaken (fun _ _ _ _ => trivial)⟩⟩ rfl rfl hl.1 rfl (lv_room hroom) dd ⟨hcs.1, hcs.2⟩) hS (fun q _ h => hFc q h) hFc (fun u t H1 locs1 ht hvm hw hB hz1 hk1 hS1 => ?_)
  obtain ⟨hP1, hD1⟩ := hB
  rw [ht] at hP1
  exact k u hw H1 locs1 ls hP1 (hD1.weaken (fun _ q _ h => hFc q.1 h)) hS1 hl
theorem x_callVN3i (G : xG p s m args c cc nL own Ts NW D cl tys A) {wf : xSg → va_W} {σ : xSg} {b : Nat} {C : String} {host : String} {y : MethodName} {bytes : ByteArray} {maxL index d : Nat} {ret : Option FieldType} {Tc : List Cond} {a1 a2 a3 : Value} {post : Int32 → xSg → Prop} (hM : xCi l D cl tys NW wf y Tc d [.ref b, a1, a2, a3] σ post) (q0 : Nat) {fs : List Value} {ci : Nat} {T : u_T} {N : Nat} (he : (wf σ)[q0]? = some (b, .inr (ci, fs))) (hc : cl[ci]? = some (C, T, N)) (cw : (va_CN R s args own index y host bytes maxL ret Tc { frames := d, cells := 0, slots := 0, locals := 40 * d } 0 0 3 ∧ (Cond.instanceMethod y).before args s = true ∧ (Cond.selects C y y).before args s = true)) (dd : decode cc pc = .ok (.invokevirtual index, 3)) (hroom : (st.map fun v => v.category).sum ≤ 8) (hcs : cells ≤ R.cells ∧ slots ≤ R.slots) (k : ∀ (r : Int32) (u : xSg), post r u → xJ p l e R s m args below meth c cells slots Q D cl A nL (va_S A s.heap) (wf u) (vs) (pc + 3) (.int r :: st)) : xJ p l e R s m args below meth c cells slots Q D cl A nL (va_S A s.heap) (wf σ) (vs) (pc) (a3 :: a2 :: a1 :: .ref b :: st) := fun H locs ls hP hD hS hl => by
  have hFc := x_free hD hS G.2.2.2.2.2.2.2
  refine va_calli (va_runVN (As := [a1, a2, a3]) (rest := st) ⟨G.1, G.2.1, G.2.2.1, G.2.2.2.1, G.2.2.2.2.1⟩ (hM H.size) cw ⟨fun a U g mk q => by obtain ⟨q0, q1, qP, qK, qN, qD⟩ := q; exact ⟨q0, q1, qP, va_K.moved (u := U) (U := U.calling g mk a) (Vm.Alike.refl U.vm) qK, fun c hc => ⟨(qN c hc).1, nest_same (s := U) (U := U.calling g mk a) (qN c hc).1 rfl (qN c hc).2⟩, qD⟩, va_recv G.2.2.2.2.2.1 hP hc he, fun U hU hW => ⟨rfl, by rw [hU], by rw [hU]; exact hP, va_K.moved hW.alike G.2.2.2.2.2.1, fun c hc => ⟨(G.2.2.2.2.2.2.1 c hc).1, nest_warm (G.2.2.2.2.2.2.1 c hc).1 hW (G.2.2.2.2.2.2.1 c hc).2⟩, hD.weaken (fun _ _ _ _ => trivial)⟩⟩ rfl rfl hl.1 rfl (lv_room hroom) dd ⟨hcs.1, hcs.2⟩) hS (fun q _ h => hFc q h) hFc (fun r u t H1 locs1 ht hvm hw hB hz1 hk1 hS1 => ?_)
  obtain ⟨hP1, hD1⟩ := hB
  rw [ht] at hP1
  exact k r u hw H1 locs1 ls hP1 (hD1.weaken (fun _ q _ h => hFc q.1 h)) hS1 hl
theorem x_callVN3l (G : xG p s m args c cc nL own Ts NW D cl tys A) {wf : xSg → va_W} {σ : xSg} {b : Nat} {C : String} {host : String} {y : MethodName} {bytes : ByteArray} {maxL index d : Nat} {ret : Option FieldType} {Tc : List Cond} {a1 a2 a3 : Value} {post : Int64 → xSg → Prop} (hM : xCl l D cl tys NW wf y Tc d [.ref b, a1, a2, a3] σ post) (q0 : Nat) {fs : List Value} {ci : Nat} {T : u_T} {N : Nat} (he : (wf σ)[q0]? = some (b, .inr (ci, fs))) (hc : cl[ci]? = some (C, T, N)) (cw : (va_CN R s args own index y host bytes maxL ret Tc { frames := d, cells := 0, slots := 0, locals := 40 * d } 0 0 3 ∧ (Cond.instanceMethod y).before args s = true ∧ (Cond.selects C y y).before args s = true)) (dd : decode cc pc = .ok (.invokevirtual index, 3)) (hroom : (st.map fun v => v.category).sum ≤ 8) (hcs : cells ≤ R.cells ∧ slots ≤ R.slots) (k : ∀ (r : Int64) (u : xSg), post r u → xJ p l e R s m args below meth c cells slots Q D cl A nL (va_S A s.heap) (wf u) (vs) (pc + 3) (.long r :: st)) : xJ p l e R s m args below meth c cells slots Q D cl A nL (va_S A s.heap) (wf σ) (vs) (pc) (a3 :: a2 :: a1 :: .ref b :: st) := fun H locs ls hP hD hS hl => by
  have hFc := x_free hD hS G.2.2.2.2.2.2.2
  refine va_calll (va_runVN (As := [a1, a2, a3]) (rest := st) ⟨G.1, G.2.1, G.2.2.1, G.2.2.2.1, G.2.2.2.2.1⟩ (hM H.size) cw ⟨fun a U g mk q => by obtain ⟨q0, q1, qP, qK, qN, qD⟩ := q; exact ⟨q0, q1, qP, va_K.moved (u := U) (U := U.calling g mk a) (Vm.Alike.refl U.vm) qK, fun c hc => ⟨(qN c hc).1, nest_same (s := U) (U := U.calling g mk a) (qN c hc).1 rfl (qN c hc).2⟩, qD⟩, va_recv G.2.2.2.2.2.1 hP hc he, fun U hU hW => ⟨rfl, by rw [hU], by rw [hU]; exact hP, va_K.moved hW.alike G.2.2.2.2.2.1, fun c hc => ⟨(G.2.2.2.2.2.2.1 c hc).1, nest_warm (G.2.2.2.2.2.2.1 c hc).1 hW (G.2.2.2.2.2.2.1 c hc).2⟩, hD.weaken (fun _ _ _ _ => trivial)⟩⟩ rfl rfl hl.1 rfl (lv_room hroom) dd ⟨hcs.1, hcs.2⟩) hS (fun q _ h => hFc q h) hFc (fun r u t H1 locs1 ht hvm hw hB hz1 hk1 hS1 => ?_)
  obtain ⟨hP1, hD1⟩ := hB
  rw [ht] at hP1
  exact k r u hw H1 locs1 ls hP1 (hD1.weaken (fun _ q _ h => hFc q.1 h)) hS1 hl
theorem x_callVN3v (G : xG p s m args c cc nL own Ts NW D cl tys A) {wf : xSg → va_W} {σ : xSg} {b : Nat} {C : String} {host : String} {y : MethodName} {bytes : ByteArray} {maxL index d : Nat} {ret : Option FieldType} {Tc : List Cond} {a1 a2 a3 : Value} {post : xSg → Prop} (hM : xCv l D cl tys NW wf y Tc d [.ref b, a1, a2, a3] σ post) (q0 : Nat) {fs : List Value} {ci : Nat} {T : u_T} {N : Nat} (he : (wf σ)[q0]? = some (b, .inr (ci, fs))) (hc : cl[ci]? = some (C, T, N)) (cw : (va_CN R s args own index y host bytes maxL ret Tc { frames := d, cells := 0, slots := 0, locals := 40 * d } 0 0 3 ∧ (Cond.instanceMethod y).before args s = true ∧ (Cond.selects C y y).before args s = true)) (dd : decode cc pc = .ok (.invokevirtual index, 3)) (hroom : (st.map fun v => v.category).sum ≤ 8) (hcs : cells ≤ R.cells ∧ slots ≤ R.slots) (k : ∀ (u : xSg), post u → xJ p l e R s m args below meth c cells slots Q D cl A nL (va_S A s.heap) (wf u) (vs) (pc + 3) (st)) : xJ p l e R s m args below meth c cells slots Q D cl A nL (va_S A s.heap) (wf σ) (vs) (pc) (a3 :: a2 :: a1 :: .ref b :: st) := fun H locs ls hP hD hS hl => by
  have hFc := x_free hD hS G.2.2.2.2.2.2.2
  refine va_callv (va_runVN (As := [a1, a2, a3]) (rest := st) ⟨G.1, G.2.1, G.2.2.1, G.2.2.2.1, G.2.2.2.2.1⟩ (hM H.size) cw ⟨fun a U g mk q => by obtain ⟨q0, q1, qP, qK, qN, qD⟩ := q; exact ⟨q0, q1, qP, va_K.moved (u := U) (U := U.calling g mk a) (Vm.Alike.refl U.vm) qK, fun c hc => ⟨(qN c hc).1, nest_same (s := U) (U := U.calling g mk a) (qN c hc).1 rfl (qN c hc).2⟩, qD⟩, va_recv G.2.2.2.2.2.1 hP hc he, fun U hU hW => ⟨rfl, by rw [hU], by rw [hU]; exact hP, va_K.moved hW.alike G.2.2.2.2.2.1, fun c hc => ⟨(G.2.2.2.2.2.2.1 c hc).1, nest_warm (G.2.2.2.2.2.2.1 c hc).1 hW (G.2.2.2.2.2.2.1 c hc).2⟩, hD.weaken (fun _ _ _ _ => trivial)⟩⟩ rfl rfl hl.1 rfl (lv_room hroom) dd ⟨hcs.1, hcs.2⟩) hS (fun q _ h => hFc q h) hFc (fun u t H1 locs1 ht hvm hw hB hz1 hk1 hS1 => ?_)
  obtain ⟨hP1, hD1⟩ := hB
  rw [ht] at hP1
  exact k u hw H1 locs1 ls hP1 (hD1.weaken (fun _ q _ h => hFc q.1 h)) hS1 hl
theorem x_callS3i (G : xG p s m args c cc nL own Ts NW D cl tys A) {wf : xSg → va_W} {σ : xSg} {y : MethodName} {bytes : ByteArray} {maxL index d : Nat} {ret : Option FieldType} {Tc : List Cond} {a1 a2 a3 : Value} {post : Int32 → xSg → Prop} (hM : xCi l D cl tys NW wf y Tc d [a1, a2, a3] σ post) (cw : (CallB R s args own index y bytes maxL ret Tc { frames := d, cells := 0, slots := 0, locals := 40 * d } 0 0 3 ∧ (Cond.static y).before args s = true)) (dd : decode cc pc = .ok (.invokestatic index, 3)) (hroom : (st.map fun v => v.category).sum ≤ 8) (hcs : cells ≤ R.cells ∧ slots ≤ R.slots) (k : ∀ (r : Int32) (u : xSg), post r u → xJ p l e R s m args below meth c cells slots Q D cl A nL (va_S A s.heap) (wf u) (vs) (pc + 3) (.int r :: st)) : xJ p l e R s m args below meth c cells slots Q D cl A nL (va_S A s.heap) (wf σ) (vs) (pc) (a3 :: a2 :: a1 :: st) := fun H locs ls hP hD hS hl => by
  have hFc := x_free hD hS G.2.2.2.2.2.2.2
  refine va_calli (va_runS (As := [a1, a2, a3]) (rest := st) ⟨G.1, G.2.1, G.2.2.1, G.2.2.2.1, G.2.2.2.2.1⟩ (hM H.size) cw ⟨fun a U g mk q => by obtain ⟨q0, q1, qP, qK, qN, qD⟩ := q; exact ⟨q0, q1, qP, va_K.moved (u := U) (U := U.calling g mk a) (Vm.Alike.refl U.vm) qK, fun c hc => ⟨(qN c hc).1, nest_same (s := U) (U := U.calling g mk a) (qN c hc).1 rfl (qN c hc).2⟩, qD⟩, fun U hU hW => ⟨rfl, by rw [hU], by rw [hU]; exact hP, va_K.moved hW.alike G.2.2.2.2.2.1, fun c hc => ⟨(G.2.2.2.2.2.2.1 c hc).1, nest_warm (G.2.2.2.2.2.2.1 c hc).1 hW (G.2.2.2.2.2.2.1 c hc).2⟩, hD.weaken (fun _ _ _ _ => trivial)⟩⟩ rfl rfl hl.1 rfl (lv_room hroom) dd ⟨hcs.1, hcs.2⟩) hS (fun q _ h => hFc q h) hFc (fun r u t H1 locs1 ht hvm hw hB hz1 hk1 hS1 => ?_)
  obtain ⟨hP1, hD1⟩ := hB
  rw [ht] at hP1
  exact k r u hw H1 locs1 ls hP1 (hD1.weaken (fun _ q _ h => hFc q.1 h)) hS1 hl
theorem x_callS3l (G : xG p s m args c cc nL own Ts NW D cl tys A) {wf : xSg → va_W} {σ : xSg} {y : MethodName} {bytes : ByteArray} {maxL index d : Nat} {ret : Option FieldType} {Tc : List Cond} {a1 a2 a3 : Value} {post : Int64 → xSg → Prop} (hM : xCl l D cl tys NW wf y Tc d [a1, a2, a3] σ post) (cw : (CallB R s args own index y bytes maxL ret Tc { frames := d, cells := 0, slots := 0, locals := 40 * d } 0 0 3 ∧ (Cond.static y).before args s = true)) (dd : decode cc pc = .ok (.invokestatic index, 3)) (hroom : (st.map fun v => v.category).sum ≤ 8) (hcs : cells ≤ R.cells ∧ slots ≤ R.slots) (k : ∀ (r : Int64) (u : xSg), post r u → xJ p l e R s m args below meth c cells slots Q D cl A nL (va_S A s.heap) (wf u) (vs) (pc + 3) (.long r :: st)) : xJ p l e R s m args below meth c cells slots Q D cl A nL (va_S A s.heap) (wf σ) (vs) (pc) (a3 :: a2 :: a1 :: st) := fun H locs ls hP hD hS hl => by
  have hFc := x_free hD hS G.2.2.2.2.2.2.2
  refine va_calll (va_runS (As := [a1, a2, a3]) (rest := st) ⟨G.1, G.2.1, G.2.2.1, G.2.2.2.1, G.2.2.2.2.1⟩ (hM H.size) cw ⟨fun a U g mk q => by obtain ⟨q0, q1, qP, qK, qN, qD⟩ := q; exact ⟨q0, q1, qP, va_K.moved (u := U) (U := U.calling g mk a) (Vm.Alike.refl U.vm) qK, fun c hc => ⟨(qN c hc).1, nest_same (s := U) (U := U.calling g mk a) (qN c hc).1 rfl (qN c hc).2⟩, qD⟩, fun U hU hW => ⟨rfl, by rw [hU], by rw [hU]; exact hP, va_K.moved hW.alike G.2.2.2.2.2.1, fun c hc => ⟨(G.2.2.2.2.2.2.1 c hc).1, nest_warm (G.2.2.2.2.2.2.1 c hc).1 hW (G.2.2.2.2.2.2.1 c hc).2⟩, hD.weaken (fun _ _ _ _ => trivial)⟩⟩ rfl rfl hl.1 rfl (lv_room hroom) dd ⟨hcs.1, hcs.2⟩) hS (fun q _ h => hFc q h) hFc (fun r u t H1 locs1 ht hvm hw hB hz1 hk1 hS1 => ?_)
  obtain ⟨hP1, hD1⟩ := hB
  rw [ht] at hP1
  exact k r u hw H1 locs1 ls hP1 (hD1.weaken (fun _ q _ h => hFc q.1 h)) hS1 hl
theorem x_callS3v (G : xG p s m args c cc nL own Ts NW D cl tys A) {wf : xSg → va_W} {σ : xSg} {y : MethodName} {bytes : ByteArray} {maxL index d : Nat} {ret : Option FieldType} {Tc : List Cond} {a1 a2 a3 : Value} {post : xSg → Prop} (hM : xCv l D cl tys NW wf y Tc d [a1, a2, a3] σ post) (cw : (CallB R s args own index y bytes maxL ret Tc { frames := d, cells := 0, slots := 0, locals := 40 * d } 0 0 3 ∧ (Cond.static y).before args s = true)) (dd : decode cc pc = .ok (.invokestatic index, 3)) (hroom : (st.map fun v => v.category).sum ≤ 8) (hcs : cells ≤ R.cells ∧ slots ≤ R.slots) (k : ∀ (u : xSg), post u → xJ p l e R s m args below meth c cells slots Q D cl A nL (va_S A s.heap) (wf u) (vs) (pc + 3) (st)) : xJ p l e R s m args below meth c cells slots Q D cl A nL (va_S A s.heap) (wf σ) (vs) (pc) (a3 :: a2 :: a1 :: st) := fun H locs ls hP hD hS hl => by
  have hFc := x_free hD hS G.2.2.2.2.2.2.2
  refine va_callv (va_runS (As := [a1, a2, a3]) (rest := st) ⟨G.1, G.2.1, G.2.2.1, G.2.2.2.1, G.2.2.2.2.1⟩ (hM H.size) cw ⟨fun a U g mk q => by obtain ⟨q0, q1, qP, qK, qN, qD⟩ := q; exact ⟨q0, q1, qP, va_K.moved (u := U) (U := U.calling g mk a) (Vm.Alike.refl U.vm) qK, fun c hc => ⟨(qN c hc).1, nest_same (s := U) (U := U.calling g mk a) (qN c hc).1 rfl (qN c hc).2⟩, qD⟩, fun U hU hW => ⟨rfl, by rw [hU], by rw [hU]; exact hP, va_K.moved hW.alike G.2.2.2.2.2.1, fun c hc => ⟨(G.2.2.2.2.2.2.1 c hc).1, nest_warm (G.2.2.2.2.2.2.1 c hc).1 hW (G.2.2.2.2.2.2.1 c hc).2⟩, hD.weaken (fun _ _ _ _ => trivial)⟩⟩ rfl rfl hl.1 rfl (lv_room hroom) dd ⟨hcs.1, hcs.2⟩) hS (fun q _ h => hFc q h) hFc (fun u t H1 locs1 ht hvm hw hB hz1 hk1 hS1 => ?_)
  obtain ⟨hP1, hD1⟩ := hB
  rw [ht] at hP1
  exact k u hw H1 locs1 ls hP1 (hD1.weaken (fun _ q _ h => hFc q.1 h)) hS1 hl
theorem x_callSN3i (G : xG p s m args c cc nL own Ts NW D cl tys A) {wf : xSg → va_W} {σ : xSg} {host : String} {y : MethodName} {bytes : ByteArray} {maxL index d : Nat} {ret : Option FieldType} {Tc : List Cond} {a1 a2 a3 : Value} {post : Int32 → xSg → Prop} (hM : xCi l D cl tys NW wf y Tc d [a1, a2, a3] σ post) (cw : (va_CN R s args own index y host bytes maxL ret Tc { frames := d, cells := 0, slots := 0, locals := 40 * d } 0 0 3 ∧ (Cond.static y).before args s = true ∧ True)) (dd : decode cc pc = .ok (.invokestatic index, 3)) (hroom : (st.map fun v => v.category).sum ≤ 8) (hcs : cells ≤ R.cells ∧ slots ≤ R.slots) (k : ∀ (r : Int32) (u : xSg), post r u → xJ p l e R s m args below meth c cells slots Q D cl A nL (va_S A s.heap) (wf u) (vs) (pc + 3) (.int r :: st)) : xJ p l e R s m args below meth c cells slots Q D cl A nL (va_S A s.heap) (wf σ) (vs) (pc) (a3 :: a2 :: a1 :: st) := fun H locs ls hP hD hS hl => by
  have hFc := x_free hD hS G.2.2.2.2.2.2.2
  refine va_calli (va_runSN (As := [a1, a2, a3]) (rest := st) ⟨G.1, G.2.1, G.2.2.1, G.2.2.2.1, G.2.2.2.2.1⟩ (hM H.size) cw ⟨fun a U g mk q => by obtain ⟨q0, q1, qP, qK, qN, qD⟩ := q; exact ⟨q0, q1, qP, va_K.moved (u := U) (U := U.calling g mk a) (Vm.Alike.refl U.vm) qK, fun c hc => ⟨(qN c hc).1, nest_same (s := U) (U := U.calling g mk a) (qN c hc).1 rfl (qN c hc).2⟩, qD⟩, fun U hU hW => ⟨rfl, by rw [hU], by rw [hU]; exact hP, va_K.moved hW.alike G.2.2.2.2.2.1, fun c hc => ⟨(G.2.2.2.2.2.2.1 c hc).1, nest_warm (G.2.2.2.2.2.2.1 c hc).1 hW (G.2.2.2.2.2.2.1 c hc).2⟩, hD.weaken (fun _ _ _ _ => trivial)⟩⟩ rfl rfl hl.1 rfl (lv_room hroom) dd ⟨hcs.1, hcs.2⟩) hS (fun q _ h => hFc q h) hFc (fun r u t H1 locs1 ht hvm hw hB hz1 hk1 hS1 => ?_)
  obtain ⟨hP1, hD1⟩ := hB
  rw [ht] at hP1
  exact k r u hw H1 locs1 ls hP1 (hD1.weaken (fun _ q _ h => hFc q.1 h)) hS1 hl
theorem x_callSN3l (G : xG p s m args c cc nL own Ts NW D cl tys A) {wf : xSg → va_W} {σ : xSg} {host : String} {y : MethodName} {bytes : ByteArray} {maxL index d : Nat} {ret : Option FieldType} {Tc : List Cond} {a1 a2 a3 : Value} {post : Int64 → xSg → Prop} (hM : xCl l D cl tys NW wf y Tc d [a1, a2, a3] σ post) (cw : (va_CN R s args own index y host bytes maxL ret Tc { frames := d, cells := 0, slots := 0, locals := 40 * d } 0 0 3 ∧ (Cond.static y).before args s = true ∧ True)) (dd : decode cc pc = .ok (.invokestatic index, 3)) (hroom : (st.map fun v => v.category).sum ≤ 8) (hcs : cells ≤ R.cells ∧ slots ≤ R.slots) (k : ∀ (r : Int64) (u : xSg), post r u → xJ p l e R s m args below meth c cells slots Q D cl A nL (va_S A s.heap) (wf u) (vs) (pc + 3) (.long r :: st)) : xJ p l e R s m args below meth c cells slots Q D cl A nL (va_S A s.heap) (wf σ) (vs) (pc) (a3 :: a2 :: a1 :: st) := fun H locs ls hP hD hS hl => by
  have hFc := x_free hD hS G.2.2.2.2.2.2.2
  refine va_calll (va_runSN (As := [a1, a2, a3]) (rest := st) ⟨G.1, G.2.1, G.2.2.1, G.2.2.2.1, G.2.2.2.2.1⟩ (hM H.size) cw ⟨fun a U g mk q => by obtain ⟨q0, q1, qP, qK, qN, qD⟩ := q; exact ⟨q0, q1, qP, va_K.moved (u := U) (U := U.calling g mk a) (Vm.Alike.refl U.vm) qK, fun c hc => ⟨(qN c hc).1, nest_same (s := U) (U := U.calling g mk a) (qN c hc).1 rfl (qN c hc).2⟩, qD⟩, fun U hU hW => ⟨rfl, by rw [hU], by rw [hU]; exact hP, va_K.moved hW.alike G.2.2.2.2.2.1, fun c hc => ⟨(G.2.2.2.2.2.2.1 c hc).1, nest_warm (G.2.2.2.2.2.2.1 c hc).1 hW (G.2.2.2.2.2.2.1 c hc).2⟩, hD.weaken (fun _ _ _ _ => trivial)⟩⟩ rfl rfl hl.1 rfl (lv_room hroom) dd ⟨hcs.1, hcs.2⟩) hS (fun q _ h => hFc q h) hFc (fun r u t H1 locs1 ht hvm hw hB hz1 hk1 hS1 => ?_)
  obtain ⟨hP1, hD1⟩ := hB
  rw [ht] at hP1
  exact k r u hw H1 locs1 ls hP1 (hD1.weaken (fun _ q _ h => hFc q.1 h)) hS1 hl
theorem x_callSN3v (G : xG p s m args c cc nL own Ts NW D cl tys A) {wf : xSg → va_W} {σ : xSg} {host : String} {y : MethodName} {bytes : ByteArray} {maxL index d : Nat} {ret : Option FieldType} {Tc : List Cond} {a1 a2 a3 : Value} {post : xSg → Prop} (hM : xCv l D cl tys NW wf y Tc d [a1, a2, a3] σ post) (cw : (va_CN R s args own index y host bytes maxL ret Tc { frames := d, cells := 0, slots := 0, locals := 40 * d } 0 0 3 ∧ (Cond.static y).before args s = true ∧ True)) (dd : decode cc pc = .ok (.invokestatic index, 3)) (hroom : (st.map fun v => v.category).sum ≤ 8) (hcs : cells ≤ R.cells ∧ slots ≤ R.slots) (k : ∀ (u : xSg), post u → xJ p l e R s m args below meth c cells slots Q D cl A nL (va_S A s.heap) (wf u) (vs) (pc + 3) (st)) : xJ p l e R s m args below meth c cells slots Q D cl A nL (va_S A s.heap) (wf σ) (vs) (pc) (a3 :: a2 :: a1 :: st) := fun H locs ls hP hD hS hl => by
  have hFc := x_free hD hS G.2.2.2.2.2.2.2
  refine va_callv (va_runSN (As := [a1, a2, a3]) (rest := st) ⟨G.1, G.2.1, G.2.2.1, G.2.2.2.1, G.2.2.2.2.1⟩ (hM H.size) cw ⟨fun a U g mk q => by obtain ⟨q0, q1, qP, qK, qN, qD⟩ := q; exact ⟨q0, q1, qP, va_K.moved (u := U) (U := U.calling g mk a) (Vm.Alike.refl U.vm) qK, fun c hc => ⟨(qN c hc).1, nest_same (s := U) (U := U.calling g mk a) (qN c hc).1 rfl (qN c hc).2⟩, qD⟩, fun U hU hW => ⟨rfl, by rw [hU], by rw [hU]; exact hP, va_K.moved hW.alike G.2.2.2.2.2.1, fun c hc => ⟨(G.2.2.2.2.2.2.1 c hc).1, nest_warm (G.2.2.2.2.2.2.1 c hc).1 hW (G.2.2.2.2.2.2.1 c hc).2⟩, hD.weaken (fun _ _ _ _ => trivial)⟩⟩ rfl rfl hl.1 rfl (lv_room hroom) dd ⟨hcs.1, hcs.2⟩) hS (fun q _ h => hFc q h) hFc (fun u t H1 locs1 ht hvm hw hB hz1 hk1 hS1 => ?_)
  obtain ⟨hP1, hD1⟩ := hB
  rw [ht] at hP1
  exact k u hw H1 locs1 ls hP1 (hD1.weaken (fun _ q _ h => hFc q.1 h)) hS1 hl
theorem x_callV4i (G : xG p s m args c cc nL own Ts NW D cl tys A) {wf : xSg → va_W} {σ : xSg} {b : Nat} {C : String} {y : MethodName} {bytes : ByteArray} {maxL index d : Nat} {ret : Option FieldType} {Tc : List Cond} {a1 a2 a3 a4 : Value} {post : Int32 → xSg → Prop} (hM : xCi l D cl tys NW wf y Tc d [.ref b, a1, a2, a3, a4] σ post) (q0 : Nat) {fs : List Value} {ci : Nat} {T : u_T} {N : Nat} (he : (wf σ)[q0]? = some (b, .inr (ci, fs))) (hc : cl[ci]? = some (C, T, N)) (cw : CallW R s args own C index y bytes maxL ret Tc { frames := d, cells := 0, slots := 0, locals := 40 * d } 0 0 4) (dd : decode cc pc = .ok (.invokevirtual index, 3)) (hroom : (st.map fun v => v.category).sum ≤ 8) (hcs : cells ≤ R.cells ∧ slots ≤ R.slots) (k : ∀ (r : Int32) (u : xSg), post r u → xJ p l e R s m args below meth c cells slots Q D cl A nL (va_S A s.heap) (wf u) (vs) (pc + 3) (.int r :: st)) : xJ p l e R s m args below meth c cells slots Q D cl A nL (va_S A s.heap) (wf σ) (vs) (pc) (a4 :: a3 :: a2 :: a1 :: .ref b :: st) := fun H locs ls hP hD hS hl => by
  have hFc := x_free hD hS G.2.2.2.2.2.2.2
  refine va_calli (va_runV (As := [a1, a2, a3, a4]) (rest := st) ⟨G.1, G.2.1, G.2.2.1, G.2.2.2.1, G.2.2.2.2.1⟩ (hM H.size) cw ⟨fun a U g mk q => by obtain ⟨q0, q1, qP, qK, qN, qD⟩ := q; exact ⟨q0, q1, qP, va_K.moved (u := U) (U := U.calling g mk a) (Vm.Alike.refl U.vm) qK, fun c hc => ⟨(qN c hc).1, nest_same (s := U) (U := U.calling g mk a) (qN c hc).1 rfl (qN c hc).2⟩, qD⟩, va_recv G.2.2.2.2.2.1 hP hc he, fun U hU hW => ⟨rfl, by rw [hU], by rw [hU]; exact hP, va_K.moved hW.alike G.2.2.2.2.2.1, fun c hc => ⟨(G.2.2.2.2.2.2.1 c hc).1, nest_warm (G.2.2.2.2.2.2.1 c hc).1 hW (G.2.2.2.2.2.2.1 c hc).2⟩, hD.weaken (fun _ _ _ _ => trivial)⟩⟩ rfl rfl hl.1 rfl (lv_room hroom) dd ⟨hcs.1, hcs.2⟩) hS (fun q _ h => hFc q h) hFc (fun r u t H1 locs1 ht hvm hw hB hz1 hk1 hS1 => ?_)
  obtain ⟨hP1, hD1⟩ := hB
  rw [ht] at hP1
  exact k r u hw H1 locs1 ls hP1 (hD1.weaken (fun _ q _ h => hFc q.1 h)) hS1 hl
theorem x_callV4l (G : xG p s m args c cc nL own Ts NW D cl tys A) {wf : xSg → va_W} {σ : xSg} {b : Nat} {C : String} {y : MethodName} {bytes : ByteArray} {maxL index d : Nat} {ret : Option FieldType} {Tc : List Cond} {a1 a2 a3 a4 : Value} {post : Int64 → xSg → Prop} (hM : xCl l D cl tys NW wf y Tc d [.ref b, a1, a2, a3, a4] σ post) (q0 : Nat) {fs : List Value} {ci : Nat} {T : u_T} {N : Nat} (he : (wf σ)[q0]? = some (b, .inr (ci, fs))) (hc : cl[ci]? = some (C, T, N)) (cw : CallW R s args own C index y bytes maxL ret Tc { frames := d, cells := 0, slots := 0, locals := 40 * d } 0 0 4) (dd : decode cc pc = .ok (.invokevirtual index, 3)) (hroom : (st.map fun v => v.category).sum ≤ 8) (hcs : cells ≤ R.cells ∧ slots ≤ R.slots) (k : ∀ (r : Int64) (u : xSg), post r u → xJ p l e R s m args below meth c cells slots Q D cl A nL (va_S A s.heap) (wf u) (vs) (pc + 3) (.long r :: st)) : xJ p l e R s m args below meth c cells slots Q D cl A nL (va_S A s.heap) (wf σ) (vs) (pc) (a4 :: a3 :: a2 :: a1 :: .ref b :: st) := fun H locs ls hP hD hS hl => by
  have hFc := x_free hD hS G.2.2.2.2.2.2.2
  refine va_calll (va_runV (As := [a1, a2, a3, a4]) (rest := st) ⟨G.1, G.2.1, G.2.2.1, G.2.2.2.1, G.2.2.2.2.1⟩ (hM H.size) cw ⟨fun a U g mk q => by obtain ⟨q0, q1, qP, qK, qN, qD⟩ := q; exact ⟨q0, q1, qP, va_K.moved (u := U) (U := U.calling g mk a) (Vm.Alike.refl U.vm) qK, fun c hc => ⟨(qN c hc).1, nest_same (s := U) (U := U.calling g mk a) (qN c hc).1 rfl (qN c hc).2⟩, qD⟩, va_recv G.2.2.2.2.2.1 hP hc he, fun U hU hW => ⟨rfl, by rw [hU], by rw [hU]; exact hP, va_K.moved hW.alike G.2.2.2.2.2.1, fun c hc => ⟨(G.2.2.2.2.2.2.1 c hc).1, nest_warm (G.2.2.2.2.2.2.1 c hc).1 hW (G.2.2.2.2.2.2.1 c hc).2⟩, hD.weaken (fun _ _ _ _ => trivial)⟩⟩ rfl rfl hl.1 rfl (lv_room hroom) dd ⟨hcs.1, hcs.2⟩) hS (fun q _ h => hFc q h) hFc (fun r u t H1 locs1 ht hvm hw hB hz1 hk1 hS1 => ?_)
  obtain ⟨hP1, hD1⟩ := hB
  rw [ht] at hP1
  exact k r u hw H1 locs1 ls hP1 (hD1.weaken (fun _ q _ h => hFc q.1 h)) hS1 hl
theorem x_callV4v (G : xG p s m args c cc nL own Ts NW D cl tys A) {wf : xSg → va_W} {σ : xSg} {b : Nat} {C : String} {y : MethodName} {bytes : ByteArray} {maxL index d : Nat} {ret : Option FieldType} {Tc : List Cond} {a1 a2 a3 a4 : Value} {post : xSg → Prop} (hM : xCv l D cl tys NW wf y Tc d [.ref b, a1, a2, a3, a4] σ post) (q0 : Nat) {fs : List Value} {ci : Nat} {T : u_T} {N : Nat} (he : (wf σ)[q0]? = some (b, .inr (ci, fs))) (hc : cl[ci]? = some (C, T, N)) (cw : CallW R s args own C index y bytes maxL ret Tc { frames := d, cells := 0, slots := 0, locals := 40 * d } 0 0 4) (dd : decode cc pc = .ok (.invokevirtual index, 3)) (hroom : (st.map fun v => v.category).sum ≤ 8) (hcs : cells ≤ R.cells ∧ slots ≤ R.slots) (k : ∀ (u : xSg), post u → xJ p l e R s m args below meth c cells slots Q D cl A nL (va_S A s.heap) (wf u) (vs) (pc + 3) (st)) : xJ p l e R s m args below meth c cells slots Q D cl A nL (va_S A s.heap) (wf σ) (vs) (pc) (a4 :: a3 :: a2 :: a1 :: .ref b :: st) := fun H locs ls hP hD hS hl => by
  have hFc := x_free hD hS G.2.2.2.2.2.2.2
  refine va_callv (va_runV (As := [a1, a2, a3, a4]) (rest := st) ⟨G.1, G.2.1, G.2.2.1, G.2.2.2.1, G.2.2.2.2.1⟩ (hM H.size) cw ⟨fun a U g mk q => by obtain ⟨q0, q1, qP, qK, qN, qD⟩ := q; exact ⟨q0, q1, qP, va_K.moved (u := U) (U := U.calling g mk a) (Vm.Alike.refl U.vm) qK, fun c hc => ⟨(qN c hc).1, nest_same (s := U) (U := U.calling g mk a) (qN c hc).1 rfl (qN c hc).2⟩, qD⟩, va_recv G.2.2.2.2.2.1 hP hc he, fun U hU hW => ⟨rfl, by rw [hU], by rw [hU]; exact hP, va_K.moved hW.alike G.2.2.2.2.2.1, fun c hc => ⟨(G.2.2.2.2.2.2.1 c hc).1, nest_warm (G.2.2.2.2.2.2.1 c hc).1 hW (G.2.2.2.2.2.2.1 c hc).2⟩, hD.weaken (fun _ _ _ _ => trivial)⟩⟩ rfl rfl hl.1 rfl (lv_room hroom) dd ⟨hcs.1, hcs.2⟩) hS (fun q _ h => hFc q h) hFc (fun u t H1 locs1 ht hvm hw hB hz1 hk1 hS1 => ?_)
  obtain ⟨hP1, hD1⟩ := hB
  rw [ht] at hP1
  exact k u hw H1 locs1 ls hP1 (hD1.weaken (fun _ q _ h => hFc q.1 h)) hS1 hl
theorem x_callVN4i (G : xG p s m args c cc nL own Ts NW D cl tys A) {wf : xSg → va_W} {σ : xSg} {b : Nat} {C : String} {host : String} {y : MethodName} {bytes : ByteArray} {maxL index d : Nat} {ret : Option FieldType} {Tc : List Cond} {a1 a2 a3 a4 : Value} {post : Int32 → xSg → Prop} (hM : xCi l D cl tys NW wf y Tc d [.ref b, a1, a2, a3, a4] σ post) (q0 : Nat) {fs : List Value} {ci : Nat} {T : u_T} {N : Nat} (he : (wf σ)[q0]? = some (b, .inr (ci, fs))) (hc : cl[ci]? = some (C, T, N)) (cw : (va_CN R s args own index y host bytes maxL ret Tc { frames := d, cells := 0, slots := 0, locals := 40 * d } 0 0 4 ∧ (Cond.instanceMethod y).before args s = true ∧ (Cond.selects C y y).before args s = true)) (dd : decode cc pc = .ok (.invokevirtual index, 3)) (hroom : (st.map fun v => v.category).sum ≤ 8) (hcs : cells ≤ R.cells ∧ slots ≤ R.slots) (k : ∀ (r : Int32) (u : xSg), post r u → xJ p l e R s m args below meth c cells slots Q D cl A nL (va_S A s.heap) (wf u) (vs) (pc + 3) (.int r :: st)) : xJ p l e R s m args below meth c cells slots Q D cl A nL (va_S A s.heap) (wf σ) (vs) (pc) (a4 :: a3 :: a2 :: a1 :: .ref b :: st) := fun H locs ls hP hD hS hl => by
  have hFc := x_free hD hS G.2.2.2.2.2.2.2
  refine va_calli (va_runVN (As := [a1, a2, a3, a4]) (rest := st) ⟨G.1, G.2.1, G.2.2.1, G.2.2.2.1, G.2.2.2.2.1⟩ (hM H.size) cw ⟨fun a U g mk q => by obtain ⟨q0, q1, qP, qK, qN, qD⟩ := q; exact ⟨q0, q1, qP, va_K.moved (u := U) (U := U.calling g mk a) (Vm.Alike.refl U.vm) qK, fun c hc => ⟨(qN c hc).1, nest_same (s := U) (U := U.calling g mk a) (qN c hc).1 rfl (qN c hc).2⟩, qD⟩, va_recv G.2.2.2.2.2.1 hP hc he, fun U hU hW => ⟨rfl, by rw [hU], by rw [hU]; exact hP, va_K.moved hW.alike G.2.2.2.2.2.1, fun c hc => ⟨(G.2.2.2.2.2.2.1 c hc).1, nest_warm (G.2.2.2.2.2.2.1 c hc).1 hW (G.2.2.2.2.2.2.1 c hc).2⟩, hD.weaken (fun _ _ _ _ => trivial)⟩⟩ rfl rfl hl.1 rfl (lv_room hroom) dd ⟨hcs.1, hcs.2⟩) hS (fun q _ h => hFc q h) hFc (fun r u t H1 locs1 ht hvm hw hB hz1 hk1 hS1 => ?_)
  obtain ⟨hP1, hD1⟩ := hB
  rw [ht] at hP1
  exact k r u hw H1 locs1 ls hP1 (hD1.weaken (fun _ q _ h => hFc q.1 h)) hS1 hl
theorem x_callVN4l (G : xG p s m args c cc nL own Ts NW D cl tys A) {wf : xSg → va_W} {σ : xSg} {b : Nat} {C : String} {host : String} {y : MethodName} {bytes : ByteArray} {maxL index d : Nat} {ret : Option FieldType} {Tc : List Cond} {a1 a2 a3 a4 : Value} {post : Int64 → xSg → Prop} (hM : xCl l D cl tys NW wf y Tc d [.ref b, a1, a2, a3, a4] σ post) (q0 : Nat) {fs : List Value} {ci : Nat} {T : u_T} {N : Nat} (he : (wf σ)[q0]? = some (b, .inr (ci, fs))) (hc : cl[ci]? = some (C, T, N)) (cw : (va_CN R s args own index y host bytes maxL ret Tc { frames := d, cells := 0, slots := 0, locals := 40 * d } 0 0 4 ∧ (Cond.instanceMethod y).before args s = true ∧ (Cond.selects C y y).before args s = true)) (dd : decode cc pc = .ok (.invokevirtual index, 3)) (hroom : (st.map fun v => v.category).sum ≤ 8) (hcs : cells ≤ R.cells ∧ slots ≤ R.slots) (k : ∀ (r : Int64) (u : xSg), post r u → xJ p l e R s m args below meth c cells slots Q D cl A nL (va_S A s.heap) (wf u) (vs) (pc + 3) (.long r :: st)) : xJ p l e R s m args below meth c cells slots Q D cl A nL (va_S A s.heap) (wf σ) (vs) (pc) (a4 :: a3 :: a2 :: a1 :: .ref b :: st) := fun H locs ls hP hD hS hl => by
  have hFc := x_free hD hS G.2.2.2.2.2.2.2
  refine va_calll (va_runVN (As := [a1, a2, a3, a4]) (rest := st) ⟨G.1, G.2.1, G.2.2.1, G.2.2.2.1, G.2.2.2.2.1⟩ (hM H.size) cw ⟨fun a U g mk q => by obtain ⟨q0, q1, qP, qK, qN, qD⟩ := q; exact ⟨q0, q1, qP, va_K.moved (u := U) (U := U.calling g mk a) (Vm.Alike.refl U.vm) qK, fun c hc => ⟨(qN c hc).1, nest_same (s := U) (U := U.calling g mk a) (qN c hc).1 rfl (qN c hc).2⟩, qD⟩, va_recv G.2.2.2.2.2.1 hP hc he, fun U hU hW => ⟨rfl, by rw [hU], by rw [hU]; exact hP, va_K.moved hW.alike G.2.2.2.2.2.1, fun c hc => ⟨(G.2.2.2.2.2.2.1 c hc).1, nest_warm (G.2.2.2.2.2.2.1 c hc).1 hW (G.2.2.2.2.2.2.1 c hc).2⟩, hD.weaken (fun _ _ _ _ => trivial)⟩⟩ rfl rfl hl.1 rfl (lv_room hroom) dd ⟨hcs.1, hcs.2⟩) hS (fun q _ h => hFc q h) hFc (fun r u t H1 locs1 ht hvm hw hB hz1 hk1 hS1 => ?_)
  obtain ⟨hP1, hD1⟩ := hB
  rw [ht] at hP1
  exact k r u hw H1 locs1 ls hP1 (hD1.weaken (fun _ q _ h => hFc q.1 h)) hS1 hl
theorem x_callVN4v (G : xG p s m args c cc nL own Ts NW D cl tys A) {wf : xSg → va_W} {σ : xSg} {b : Nat} {C : String} {host : String} {y : MethodName} {bytes : ByteArray} {maxL index d : Nat} {ret : Option FieldType} {Tc : List Cond} {a1 a2 a3 a4 : Value} {post : xSg → Prop} (hM : xCv l D cl tys NW wf y Tc d [.ref b, a1, a2, a3, a4] σ post) (q0 : Nat) {fs : List Value} {ci : Nat} {T : u_T} {N : Nat} (he : (wf σ)[q0]? = some (b, .inr (ci, fs))) (hc : cl[ci]? = some (C, T, N)) (cw : (va_CN R s args own index y host bytes maxL ret Tc { frames := d, cells := 0, slots := 0, locals := 40 * d } 0 0 4 ∧ (Cond.instanceMethod y).before args s = true ∧ (Cond.selects C y y).before args s = true)) (dd : decode cc pc = .ok (.invokevirtual index, 3)) (hroom : (st.map fun v => v.category).sum ≤ 8) (hcs : cells ≤ R.cells ∧ slots ≤ R.slots) (k : ∀ (u : xSg), post u → xJ p l e R s m args below meth c cells slots Q D cl A nL (va_S A s.heap) (wf u) (vs) (pc + 3) (st)) : xJ p l e R s m args below meth c cells slots Q D cl A nL (va_S A s.heap) (wf σ) (vs) (pc) (a4 :: a3 :: a2 :: a1 :: .ref b :: st) := fun H locs ls hP hD hS hl => by
  have hFc := x_free hD hS G.2.2.2.2.2.2.2
  refine va_callv (va_runVN (As := [a1, a2, a3, a4]) (rest := st) ⟨G.1, G.2.1, G.2.2.1, G.2.2.2.1, G.2.2.2.2.1⟩ (hM H.size) cw ⟨fun a U g mk q => by obtain ⟨q0, q1, qP, qK, qN, qD⟩ := q; exact ⟨q0, q1, qP, va_K.moved (u := U) (U := U.calling g mk a) (Vm.Alike.refl U.vm) qK, fun c hc => ⟨(qN c hc).1, nest_same (s := U) (U := U.calling g mk a) (qN c hc).1 rfl (qN c hc).2⟩, qD⟩, va_recv G.2.2.2.2.2.1 hP hc he, fun U hU hW => ⟨rfl, by rw [hU], by rw [hU]; exact hP, va_K.moved hW.alike G.2.2.2.2.2.1, fun c hc => ⟨(G.2.2.2.2.2.2.1 c hc).1, nest_warm (G.2.2.2.2.2.2.1 c hc).1 hW (G.2.2.2.2.2.2.1 c hc).2⟩, hD.weaken (fun _ _ _ _ => trivial)⟩⟩ rfl rfl hl.1 rfl (lv_room hroom) dd ⟨hcs.1, hcs.2⟩) hS (fun q _ h => hFc q h) hFc (fun u t H1 locs1 ht hvm hw hB hz1 hk1 hS1 => ?_)
  obtain ⟨hP1, hD1⟩ := hB
  rw [ht] at hP1
  exact k u hw H1 locs1 ls hP1 (hD1.weaken (fun _ q _ h => hFc q.1 h)) hS1 hl
theorem x_callS4i (G : xG p s m args c cc nL own Ts NW D cl tys A) {wf : xSg → va_W} {σ : xSg} {y : MethodName} {bytes : ByteArray} {maxL index d : Nat} {ret : Option FieldType} {Tc : List Cond} {a1 a2 a3 a4 : Value} {post : Int32 → xSg → Prop} (hM : xCi l D cl tys NW wf y Tc d [a1, a2, a3, a4] σ post) (cw : (CallB R s args own index y bytes maxL ret Tc { frames := d, cells := 0, slots := 0, locals := 40 * d } 0 0 4 ∧ (Cond.static y).before args s = true)) (dd : decode cc pc = .ok (.invokestatic index, 3)) (hroom : (st.map fun v => v.category).sum ≤ 8) (hcs : cells ≤ R.cells ∧ slots ≤ R.slots) (k : ∀ (r : Int32) (u : xSg), post r u → xJ p l e R s m args below meth c cells slots Q D cl A nL (va_S A s.heap) (wf u) (vs) (pc + 3) (.int r :: st)) : xJ p l e R s m args below meth c cells slots Q D cl A nL (va_S A s.heap) (wf σ) (vs) (pc) (a4 :: a3 :: a2 :: a1 :: st) := fun H locs ls hP hD hS hl => by
  have hFc := x_free hD hS G.2.2.2.2.2.2.2
  refine va_calli (va_runS (As := [a1, a2, a3, a4]) (rest := st) ⟨G.1, G.2.1, G.2.2.1, G.2.2.2.1, G.2.2.2.2.1⟩ (hM H.size) cw ⟨fun a U g mk q => by obtain ⟨q0, q1, qP, qK, qN, qD⟩ := q; exact ⟨q0, q1, qP, va_K.moved (u := U) (U := U.calling g mk a) (Vm.Alike.refl U.vm) qK, fun c hc => ⟨(qN c hc).1, nest_same (s := U) (U := U.calling g mk a) (qN c hc).1 rfl (qN c hc).2⟩, qD⟩, fun U hU hW => ⟨rfl, by rw [hU], by rw [hU]; exact hP, va_K.moved hW.alike G.2.2.2.2.2.1, fun c hc => ⟨(G.2.2.2.2.2.2.1 c hc).1, nest_warm (G.2.2.2.2.2.2.1 c hc).1 hW (G.2.2.2.2.2.2.1 c hc).2⟩, hD.weaken (fun _ _ _ _ => trivial)⟩⟩ rfl rfl hl.1 rfl (lv_room hroom) dd ⟨hcs.1, hcs.2⟩) hS (fun q _ h => hFc q h) hFc (fun r u t H1 locs1 ht hvm hw hB hz1 hk1 hS1 => ?_)
  obtain ⟨hP1, hD1⟩ := hB
  rw [ht] at hP1
  exact k r u hw H1 locs1 ls hP1 (hD1.weaken (fun _ q _ h => hFc q.1 h)) hS1 hl
theorem x_callS4l (G : xG p s m args c cc nL own Ts NW D cl tys A) {wf : xSg → va_W} {σ : xSg} {y : MethodName} {bytes : ByteArray} {maxL index d : Nat} {ret : Option FieldType} {Tc : List Cond} {a1 a2 a3 a4 : Value} {post : Int64 → xSg → Prop} (hM : xCl l D cl tys NW wf y Tc d [a1, a2, a3, a4] σ post) (cw : (CallB R s args own index y bytes maxL ret Tc { frames := d, cells := 0, slots := 0, locals := 40 * d } 0 0 4 ∧ (Cond.static y).before args s = true)) (dd : decode cc pc = .ok (.invokestatic index, 3)) (hroom : (st.map fun v => v.category).sum ≤ 8) (hcs : cells ≤ R.cells ∧ slots ≤ R.slots) (k : ∀ (r : Int64) (u : xSg), post r u → xJ p l e R s m args below meth c cells slots Q D cl A nL (va_S A s.heap) (wf u) (vs) (pc + 3) (.long r :: st)) : xJ p l e R s m args below meth c cells slots Q D cl A nL (va_S A s.heap) (wf σ) (vs) (pc) (a4 :: a3 :: a2 :: a1 :: st) := fun H locs ls hP hD hS hl => by
  have hFc := x_free hD hS G.2.2.2.2.2.2.2
  refine va_calll (va_runS (As := [a1, a2, a3, a4]) (rest := st) ⟨G.1, G.2.1, G.2.2.1, G.2.2.2.1, G.2.2.2.2.1⟩ (hM H.size) cw ⟨fun a U g mk q => by obtain ⟨q0, q1, qP, qK, qN, qD⟩ := q; exact ⟨q0, q1, qP, va_K.moved (u := U) (U := U.calling g mk a) (Vm.Alike.refl U.vm) qK, fun c hc => ⟨(qN c hc).1, nest_same (s := U) (U := U.calling g mk a) (qN c hc).1 rfl (qN c hc).2⟩, qD⟩, fun U hU hW => ⟨rfl, by rw [hU], by rw [hU]; exact hP, va_K.moved hW.alike G.2.2.2.2.2.1, fun c hc => ⟨(G.2.2.2.2.2.2.1 c hc).1, nest_warm (G.2.2.2.2.2.2.1 c hc).1 hW (G.2.2.2.2.2.2.1 c hc).2⟩, hD.weaken (fun _ _ _ _ => trivial)⟩⟩ rfl rfl hl.1 rfl (lv_room hroom) dd ⟨hcs.1, hcs.2⟩) hS (fun q _ h => hFc q h) hFc (fun r u t H1 locs1 ht hvm hw hB hz1 hk1 hS1 => ?_)
  obtain ⟨hP1, hD1⟩ := hB
  rw [ht] at hP1
  exact k r u hw H1 locs1 ls hP1 (hD1.weaken (fun _ q _ h => hFc q.1 h)) hS1 hl
theorem x_callS4v (G : xG p s m args c cc nL own Ts NW D cl tys A) {wf : xSg → va_W} {σ : xSg} {y : MethodName} {bytes : ByteArray} {maxL index d : Nat} {ret : Option FieldType} {Tc : List Cond} {a1 a2 a3 a4 : Value} {post : xSg → Prop} (hM : xCv l D cl tys NW wf y Tc d [a1, a2, a3, a4] σ post) (cw : (CallB R s args own index y bytes maxL ret Tc { frames := d, cells := 0, slots := 0, locals := 40 * d } 0 0 4 ∧ (Cond.static y).before args s = true)) (dd : decode cc pc = .ok (.invokestatic index, 3)) (hroom : (st.map fun v => v.category).sum ≤ 8) (hcs : cells ≤ R.cells ∧ slots ≤ R.slots) (k : ∀ (u : xSg), post u → xJ p l e R s m args below meth c cells slots Q D cl A nL (va_S A s.heap) (wf u) (vs) (pc + 3) (st)) : xJ p l e R s m args below meth c cells slots Q D cl A nL (va_S A s.heap) (wf σ) (vs) (pc) (a4 :: a3 :: a2 :: a1 :: st) := fun H locs ls hP hD hS hl => by
  have hFc := x_free hD hS G.2.2.2.2.2.2.2
  refine va_callv (va_runS (As := [a1, a2, a3, a4]) (rest := st) ⟨G.1, G.2.1, G.2.2.1, G.2.2.2.1, G.2.2.2.2.1⟩ (hM H.size) cw ⟨fun a U g mk q => by obtain ⟨q0, q1, qP, qK, qN, qD⟩ := q; exact ⟨q0, q1, qP, va_K.moved (u := U) (U := U.calling g mk a) (Vm.Alike.refl U.vm) qK, fun c hc => ⟨(qN c hc).1, nest_same (s := U) (U := U.calling g mk a) (qN c hc).1 rfl (qN c hc).2⟩, qD⟩, fun U hU hW => ⟨rfl, by rw [hU], by rw [hU]; exact hP, va_K.moved hW.alike G.2.2.2.2.2.1, fun c hc => ⟨(G.2.2.2.2.2.2.1 c hc).1, nest_warm (G.2.2.2.2.2.2.1 c hc).1 hW (G.2.2.2.2.2.2.1 c hc).2⟩, hD.weaken (fun _ _ _ _ => trivial)⟩⟩ rfl rfl hl.1 rfl (lv_room hroom) dd ⟨hcs.1, hcs.2⟩) hS (fun q _ h => hFc q h) hFc (fun u t H1 locs1 ht hvm hw hB hz1 hk1 hS1 => ?_)
  obtain ⟨hP1, hD1⟩ := hB
  rw [ht] at hP1
  exact k u hw H1 locs1 ls hP1 (hD1.weaken (fun _ q _ h => hFc q.1 h)) hS1 hl
theorem x_callSN4i (G : xG p s m args c cc nL own Ts NW D cl tys A) {wf : xSg → va_W} {σ : xSg} {host : String} {y : MethodName} {bytes : ByteArray} {maxL index d : Nat} {ret : Option FieldType} {Tc : List Cond} {a1 a2 a3 a4 : Value} {post : Int32 → xSg → Prop} (hM : xCi l D cl tys NW wf y Tc d [a1, a2, a3, a4] σ post) (cw : (va_CN R s args own index y host bytes maxL ret Tc { frames := d, cells := 0, slots := 0, locals := 40 * d } 0 0 4 ∧ (Cond.static y).before args s = true ∧ True)) (dd : decode cc pc = .ok (.invokestatic index, 3)) (hroom : (st.map fun v => v.category).sum ≤ 8) (hcs : cells ≤ R.cells ∧ slots ≤ R.slots) (k : ∀ (r : Int32) (u : xSg), post r u → xJ p l e R s m args below meth c cells slots Q D cl A nL (va_S A s.heap) (wf u) (vs) (pc + 3) (.int r :: st)) : xJ p l e R s m args below meth c cells slots Q D cl A nL (va_S A s.heap) (wf σ) (vs) (pc) (a4 :: a3 :: a2 :: a1 :: st) := fun H locs ls hP hD hS hl => by
  have hFc := x_free hD hS G.2.2.2.2.2.2.2
  refine va_calli (va_runSN (As := [a1, a2, a3, a4]) (rest := st) ⟨G.1, G.2.1, G.2.2.1, G.2.2.2.1, G.2.2.2.2.1⟩ (hM H.size) cw ⟨fun a U g mk q => by obtain ⟨q0, q1, qP, qK, qN, qD⟩ := q; exact ⟨q0, q1, qP, va_K.moved (u := U) (U := U.calling g mk a) (Vm.Alike.refl U.vm) qK, fun c hc => ⟨(qN c hc).1, nest_same (s := U) (U := U.calling g mk a) (qN c hc).1 rfl (qN c hc).2⟩, qD⟩, fun U hU hW => ⟨rfl, by rw [hU], by rw [hU]; exact hP, va_K.moved hW.alike G.2.2.2.2.2.1, fun c hc => ⟨(G.2.2.2.2.2.2.1 c hc).1, nest_warm (G.2.2.2.2.2.2.1 c hc).1 hW (G.2.2.2.2.2.2.1 c hc).2⟩, hD.weaken (fun _ _ _ _ => trivial)⟩⟩ rfl rfl hl.1 rfl (lv_room hroom) dd ⟨hcs.1, hcs.2⟩) hS (fun q _ h => hFc q h) hFc (fun r u t H1 locs1 ht hvm hw hB hz1 hk1 hS1 => ?_)
  obtain ⟨hP1, hD1⟩ := hB
  rw [ht] at hP1
  exact k r u hw H1 locs1 ls hP1 (hD1.weaken (fun _ q _ h => hFc q.1 h)) hS1 hl
theorem x_callSN4l (G : xG p s m args c cc nL own Ts NW D cl tys A) {wf : xSg → va_W} {σ : xSg} {host : String} {y : MethodName} {bytes : ByteArray} {maxL index d : Nat} {ret : Option FieldType} {Tc : List Cond} {a1 a2 a3 a4 : Value} {post : Int64 → xSg → Prop} (hM : xCl l D cl tys NW wf y Tc d [a1, a2, a3, a4] σ post) (cw : (va_CN R s args own index y host bytes maxL ret Tc { frames := d, cells := 0, slots := 0, locals := 40 * d } 0 0 4 ∧ (Cond.static y).before args s = true ∧ True)) (dd : decode cc pc = .ok (.invokestatic index, 3)) (hroom : (st.map fun v => v.category).sum ≤ 8) (hcs : cells ≤ R.cells ∧ slots ≤ R.slots) (k : ∀ (r : Int64) (u : xSg), post r u → xJ p l e R s m args below meth c cells slots Q D cl A nL (va_S A s.heap) (wf u) (vs) (pc + 3) (.long r :: st)) : xJ p l e R s m args below meth c cells slots Q D cl A nL (va_S A s.heap) (wf σ) (vs) (pc) (a4 :: a3 :: a2 :: a1 :: st) := fun H locs ls hP hD hS hl => by
  have hFc := x_free hD hS G.2.2.2.2.2.2.2
  refine va_calll (va_runSN (As := [a1, a2, a3, a4]) (rest := st) ⟨G.1, G.2.1, G.2.2.1, G.2.2.2.1, G.2.2.2.2.1⟩ (hM H.size) cw ⟨fun a U g mk q => by obtain ⟨q0, q1, qP, qK, qN, qD⟩ := q; exact ⟨q0, q1, qP, va_K.moved (u := U) (U := U.calling g mk a) (Vm.Alike.refl U.vm) qK, fun c hc => ⟨(qN c hc).1, nest_same (s := U) (U := U.calling g mk a) (qN c hc).1 rfl (qN c hc).2⟩, qD⟩, fun U hU hW => ⟨rfl, by rw [hU], by rw [hU]; exact hP, va_K.moved hW.alike G.2.2.2.2.2.1, fun c hc => ⟨(G.2.2.2.2.2.2.1 c hc).1, nest_warm (G.2.2.2.2.2.2.1 c hc).1 hW (G.2.2.2.2.2.2.1 c hc).2⟩, hD.weaken (fun _ _ _ _ => trivial)⟩⟩ rfl rfl hl.1 rfl (lv_room hroom) dd ⟨hcs.1, hcs.2⟩) hS (fun q _ h => hFc q h) hFc (fun r u t H1 locs1 ht hvm hw hB hz1 hk1 hS1 => ?_)
  obtain ⟨hP1, hD1⟩ := hB
  rw [ht] at hP1
  exact k r u hw H1 locs1 ls hP1 (hD1.weaken (fun _ q _ h => hFc q.1 h)) hS1 hl
theorem x_callSN4v (G : xG p s m args c cc nL own Ts NW D cl tys A) {wf : xSg → va_W} {σ : xSg} {host : String} {y : MethodName} {bytes : ByteArray} {maxL index d : Nat} {ret : Option FieldType} {Tc : List Cond} {a1 a2 a3 a4 : Value} {post : xSg → Prop} (hM : xCv l D cl tys NW wf y Tc d [a1, a2, a3, a4] σ post) (cw : (va_CN R s args own index y host bytes maxL ret Tc { frames := d, cells := 0, slots := 0, locals := 40 * d } 0 0 4 ∧ (Cond.static y).before args s = true ∧ True)) (dd : decode cc pc = .ok (.invokestatic index, 3)) (hroom : (st.map fun v => v.category).sum ≤ 8) (hcs : cells ≤ R.cells ∧ slots ≤ R.slots) (k : ∀ (u : xSg), post u → xJ p l e R s m args below meth c cells slots Q D cl A nL (va_S A s.heap) (wf u) (vs) (pc + 3) (st)) : xJ p l e R s m args below meth c cells slots Q D cl A nL (va_S A s.heap) (wf σ) (vs) (pc) (a4 :: a3 :: a2 :: a1 :: st) := fun H locs ls hP hD hS hl => by
  have hFc := x_free hD hS G.2.2.2.2.2.2.2
  refine va_callv (va_runSN (As := [a1, a2, a3, a4]) (rest := st) ⟨G.1, G.2.1, G.2.2.1, G.2.2.2.1, G.2.2.2.2.1⟩ (hM H.size) cw ⟨fun a U g mk q => by obtain ⟨q0, q1, qP, qK, qN, qD⟩ := q; exact ⟨q0, q1, qP, va_K.moved (u := U) (U := U.calling g mk a) (Vm.Alike.refl U.vm) qK, fun c hc => ⟨(qN c hc).1, nest_same (s := U) (U := U.calling g mk a) (qN c hc).1 rfl (qN c hc).2⟩, qD⟩, fun U hU hW => ⟨rfl, by rw [hU], by rw [hU]; exact hP, va_K.moved hW.alike G.2.2.2.2.2.1, fun c hc => ⟨(G.2.2.2.2.2.2.1 c hc).1, nest_warm (G.2.2.2.2.2.2.1 c hc).1 hW (G.2.2.2.2.2.2.1 c hc).2⟩, hD.weaken (fun _ _ _ _ => trivial)⟩⟩ rfl rfl hl.1 rfl (lv_room hroom) dd ⟨hcs.1, hcs.2⟩) hS (fun q _ h => hFc q h) hFc (fun u t H1 locs1 ht hvm hw hB hz1 hk1 hS1 => ?_)
  obtain ⟨hP1, hD1⟩ := hB
  rw [ht] at hP1
  exact k u hw H1 locs1 ls hP1 (hD1.weaken (fun _ q _ h => hFc q.1 h)) hS1 hl
theorem x_samei {H : Heap} {locs : List Loc} {ls : Array Slot} {st0 : List Value} {a : Array Value} {post : Int32 → Prop} (hr : va_Run p l e R s m args below meth c H locs cells slots 0 0 (F0 m pc ls st0) st (vp_Si post a) (fun _ => False)) (kk : ∀ r : Int32, post r → W p l e R s m args below meth c H locs cells slots Q (F0 m (pc + 3) ls (.int r :: st))) : W p l e R s m args below meth c H locs cells slots Q (F0 m pc ls st0) := by
  intro T hT Y
  obtain ⟨v, st₀, t, T', L, h0, Y', hL, e1, -, ⟨r, ho, hp, hh⟩, go⟩ := hr T hT Y
  cases ho
  obtain ⟨t', a1, b1⟩ := kk r hp T' (by rw [e1, hh, h0]) (Stand.forget Y' (fun q h => (hL q h).elim))
  exact ⟨t', go t' a1, b1⟩
theorem x_samel {H : Heap} {locs : List Loc} {ls : Array Slot} {st0 : List Value} {a : Array Value} {post : Int64 → Prop} (hr : va_Run p l e R s m args below meth c H locs cells slots 0 0 (F0 m pc ls st0) st (vp_Sl post a) (fun _ => False)) (kk : ∀ r : Int64, post r → W p l e R s m args below meth c H locs cells slots Q (F0 m (pc + 3) ls (.long r :: st))) : W p l e R s m args below meth c H locs cells slots Q (F0 m pc ls st0) := by
  intro T hT Y
  obtain ⟨v, st₀, t, T', L, h0, Y', hL, e1, -, ⟨r, ho, hp, hh⟩, go⟩ := hr T hT Y
  cases ho
  obtain ⟨t', a1, b1⟩ := kk r hp T' (by rw [e1, hh, h0]) (Stand.forget Y' (fun q h => (hL q h).elim))
  exact ⟨t', go t' a1, b1⟩
def xCi0 (l : Launch) (D : va_G) (cl : List vw_C) (tys : List (ClassId × FieldType)) (NW : List Cond) (ws : va_W) (y : MethodName) (Ts : List Cond) (d : Nat) (as : List Value) (post : Int32 → Prop) : Prop := Met l y Ts { frames := d, cells := 0, slots := 0, locals := 40 * d } (va_Pc as (fun U => va_P D cl ws U.heap ∧ va_K D cl tys U ∧ (∀ c ∈ NW, isNest c = true ∧ va_Nw c U) ∧ va_D (fun _ => True) ws)) (vp_Si post) 0 0 (fun _ => False)
theorem x_ret0i (G : xG p s m args c cc nL own Ts NW D cl tys A) {post : Int32 → Prop} {v : Int32} {rt : FieldType} (hr : meth.sig.returnType = some rt) (hlk : meth.locks = false) (hn : narrow rt (.int v) = .int v) (d : decode cc pc = .ok (.ireturn, 1)) (hp : post v) : xJ p l e R s m args below meth c 0 0 (MQ below (vp_Si post) args s 0 0 (fun _ => False)) D cl A nL (fun H locs => H = s.heap ∧ locs = []) ws vs pc [.int v] := fun H locs ls hP hD hS hl => W.zret G.1 G.2.1 hr hn (fun t ht hW => ⟨v, rfl, hp, ht.trans hS.1⟩) (fun q hq => by rw [hS.2] at hq; cases hq) d hlk
theorem xCi0.of {y : MethodName} {d : Nat} {as : List Value} {post : Int32 → Prop} {ret : Option FieldType} {Ts' : List Cond} (hT : Ts = Cond.code y cc nL ret :: Ts') (hy : plainName y.cls = true) (vs : List Value) (hvs : asL vs = lv_args 0 as) (hlen : (lg_sl as).length ≤ nL)
    (body : ∀ (p : Program) (e : Env) (s : State) (m : MethodId) (args : Array Value) (below : List Frame) (meth : Method) (c : Code) (A : Nat → Prop), xG p s m args c cc nL y.cls Ts NW D cl tys A → meth.sig.returnType = ret → meth.locks = false → xJ p l e { frames := d, cells := 0, slots := 0, locals := 40 * d } s m args below meth c 0 0 (MQ below (vp_Si post) args s 0 0 (fun _ => False)) D cl A nL (fun H locs => H = s.heap ∧ locs = []) ws vs 0 []) : xCi0 l D cl tys NW ws y Ts d as post := by
  refine Met.ofW (cc := cc) (maxL := nL) (ret := ret) hy hT ?_
  intro p e s m args below meth c s₁ B hml hv
  obtain ⟨rfl, hP, hK, hN, hD0⟩ := hv
  have hD := hD0.self (sz := s.heap.size)
  have hl := lv_entry as (n := nL) hlen
  rw [lg_entry_eq]
  generalize (lg_sl as ++ List.replicate (nL - (lg_sl as).length) Slot.unset).toArray = ls at hl ⊢
  rw [← hvs] at hl
  exact body p e s m _ below meth c (va_A ws s.heap.size) ⟨B.exec, B.bytes, hml, findClass_of_methodNamed B.named, atoms_spec (ws := Ts) B.pre, hK, hN, fun q h => Or.inr h⟩ B.returns B.notSynchronized s.heap [] ls hP hD ⟨rfl, rfl⟩ (xLV.of hl)
def xCl0 (l : Launch) (D : va_G) (cl : List vw_C) (tys : List (ClassId × FieldType)) (NW : List Cond) (ws : va_W) (y : MethodName) (Ts : List Cond) (d : Nat) (as : List Value) (post : Int64 → Prop) : Prop := Met l y Ts { frames := d, cells := 0, slots := 0, locals := 40 * d } (va_Pc as (fun U => va_P D cl ws U.heap ∧ va_K D cl tys U ∧ (∀ c ∈ NW, isNest c = true ∧ va_Nw c U) ∧ va_D (fun _ => True) ws)) (vp_Sl post) 0 0 (fun _ => False)
theorem x_ret0l (G : xG p s m args c cc nL own Ts NW D cl tys A) {post : Int64 → Prop} {v : Int64} (hr : meth.sig.returnType = some .long) (hlk : meth.locks = false) (d : decode cc pc = .ok (.lreturn, 1)) (hp : post v) : xJ p l e R s m args below meth c 0 0 (MQ below (vp_Sl post) args s 0 0 (fun _ => False)) D cl A nL (fun H locs => H = s.heap ∧ locs = []) ws vs pc [.long v] := fun H locs ls hP hD hS hl => W.lret G.1 G.2.1 hr (fun t ht hW => ⟨v, rfl, hp, ht.trans hS.1⟩) (fun q hq => by rw [hS.2] at hq; cases hq) d hlk
theorem xCl0.of {y : MethodName} {d : Nat} {as : List Value} {post : Int64 → Prop} {ret : Option FieldType} {Ts' : List Cond} (hT : Ts = Cond.code y cc nL ret :: Ts') (hy : plainName y.cls = true) (vs : List Value) (hvs : asL vs = lv_args 0 as) (hlen : (lg_sl as).length ≤ nL)
    (body : ∀ (p : Program) (e : Env) (s : State) (m : MethodId) (args : Array Value) (below : List Frame) (meth : Method) (c : Code) (A : Nat → Prop), xG p s m args c cc nL y.cls Ts NW D cl tys A → meth.sig.returnType = ret → meth.locks = false → xJ p l e { frames := d, cells := 0, slots := 0, locals := 40 * d } s m args below meth c 0 0 (MQ below (vp_Sl post) args s 0 0 (fun _ => False)) D cl A nL (fun H locs => H = s.heap ∧ locs = []) ws vs 0 []) : xCl0 l D cl tys NW ws y Ts d as post := by
  refine Met.ofW (cc := cc) (maxL := nL) (ret := ret) hy hT ?_
  intro p e s m args below meth c s₁ B hml hv
  obtain ⟨rfl, hP, hK, hN, hD0⟩ := hv
  have hD := hD0.self (sz := s.heap.size)
  have hl := lv_entry as (n := nL) hlen
  rw [lg_entry_eq]
  generalize (lg_sl as ++ List.replicate (nL - (lg_sl as).length) Slot.unset).toArray = ls at hl ⊢
  rw [← hvs] at hl
  exact body p e s m _ below meth c (va_A ws s.heap.size) ⟨B.exec, B.bytes, hml, findClass_of_methodNamed B.named, atoms_spec (ws := Ts) B.pre, hK, hN, fun q h => Or.inr h⟩ B.returns B.notSynchronized s.heap [] ls hP hD ⟨rfl, rfl⟩ (xLV.of hl)
theorem x_weakS {S' : Heap → List Loc → Prop} (h : ∀ H locs, S H locs → S' H locs) (k : xJ p l e R s m args below meth c cells slots Q D cl A nL (S') (ws) (vs) (pc) (st)) : xJ p l e R s m args below meth c cells slots Q D cl A nL (S) (ws) (vs) (pc) (st) := fun H locs ls hP hD hS hl => k H locs ls hP hD (h H locs hS) hl
theorem x_begin (k : xJ p l e R s m args below meth c cells slots Q D cl A nL (va_S A s.heap) (ws) (vs) (pc) (st)) : xJ p l e R s m args below meth c cells slots Q D cl A nL (fun H locs => H = s.heap ∧ locs = []) (ws) (vs) (pc) (st) := x_weakS (fun H locs h => by rw [h.1, h.2]; exact va_S.rf) k
theorem x_call0V0i (G : xG p s m args c cc nL own Ts NW D cl tys A) {b : Nat} {C : String} {y : MethodName} {bytes : ByteArray} {maxL index d : Nat} {ret : Option FieldType} {Tc : List Cond} {post : Int32 → Prop} (hM : xCi0 l D cl tys NW ws y Tc d [.ref b] post) (q0 : Nat) {fs : List Value} {ci : Nat} {T : u_T} {N : Nat} (he : ws[q0]? = some (b, .inr (ci, fs))) (hc : cl[ci]? = some (C, T, N)) (cw : CallW R s args own C index y bytes maxL ret Tc { frames := d, cells := 0, slots := 0, locals := 40 * d } 0 0 0) (dd : decode cc pc = .ok (.invokevirtual index, 3)) (hroom : (st.map fun v => v.category).sum ≤ 8) (hcs : cells ≤ R.cells ∧ slots ≤ R.slots) (k : ∀ r : Int32, post r → xJ p l e R s m args below meth c cells slots Q D cl A nL (S) (ws) (vs) (pc + 3) (.int r :: st)) : xJ p l e R s m args below meth c cells slots Q D cl A nL (S) (ws) (vs) (pc) (.ref b :: st) := fun H locs ls hP hD hS hl => x_samei (va_runV (As := []) (rest := st) ⟨G.1, G.2.1, G.2.2.1, G.2.2.2.1, G.2.2.2.2.1⟩ hM cw ⟨fun a U g mk q => by obtain ⟨q0, qP, qK, qN, qD⟩ := q; exact ⟨q0, qP, va_K.moved (u := U) (U := U.calling g mk a) (Vm.Alike.refl U.vm) qK, fun c hc => ⟨(qN c hc).1, nest_same (s := U) (U := U.calling g mk a) (qN c hc).1 rfl (qN c hc).2⟩, qD⟩, va_recv G.2.2.2.2.2.1 hP hc he, fun U hU hW => ⟨rfl, by rw [hU]; exact hP, va_K.moved hW.alike G.2.2.2.2.2.1, fun c hc => ⟨(G.2.2.2.2.2.2.1 c hc).1, nest_warm (G.2.2.2.2.2.2.1 c hc).1 hW (G.2.2.2.2.2.2.1 c hc).2⟩, hD.weaken (fun _ _ _ _ => trivial)⟩⟩ rfl rfl hl.1 rfl (lv_room hroom) dd ⟨hcs.1, hcs.2⟩) (fun r hr => k r hr H locs ls hP hD hS hl)
theorem x_call0V0l (G : xG p s m args c cc nL own Ts NW D cl tys A) {b : Nat} {C : String} {y : MethodName} {bytes : ByteArray} {maxL index d : Nat} {ret : Option FieldType} {Tc : List Cond} {post : Int64 → Prop} (hM : xCl0 l D cl tys NW ws y Tc d [.ref b] post) (q0 : Nat) {fs : List Value} {ci : Nat} {T : u_T} {N : Nat} (he : ws[q0]? = some (b, .inr (ci, fs))) (hc : cl[ci]? = some (C, T, N)) (cw : CallW R s args own C index y bytes maxL ret Tc { frames := d, cells := 0, slots := 0, locals := 40 * d } 0 0 0) (dd : decode cc pc = .ok (.invokevirtual index, 3)) (hroom : (st.map fun v => v.category).sum ≤ 8) (hcs : cells ≤ R.cells ∧ slots ≤ R.slots) (k : ∀ r : Int64, post r → xJ p l e R s m args below meth c cells slots Q D cl A nL (S) (ws) (vs) (pc + 3) (.long r :: st)) : xJ p l e R s m args below meth c cells slots Q D cl A nL (S) (ws) (vs) (pc) (.ref b :: st) := fun H locs ls hP hD hS hl => x_samel (va_runV (As := []) (rest := st) ⟨G.1, G.2.1, G.2.2.1, G.2.2.2.1, G.2.2.2.2.1⟩ hM cw ⟨fun a U g mk q => by obtain ⟨q0, qP, qK, qN, qD⟩ := q; exact ⟨q0, qP, va_K.moved (u := U) (U := U.calling g mk a) (Vm.Alike.refl U.vm) qK, fun c hc => ⟨(qN c hc).1, nest_same (s := U) (U := U.calling g mk a) (qN c hc).1 rfl (qN c hc).2⟩, qD⟩, va_recv G.2.2.2.2.2.1 hP hc he, fun U hU hW => ⟨rfl, by rw [hU]; exact hP, va_K.moved hW.alike G.2.2.2.2.2.1, fun c hc => ⟨(G.2.2.2.2.2.2.1 c hc).1, nest_warm (G.2.2.2.2.2.2.1 c hc).1 hW (G.2.2.2.2.2.2.1 c hc).2⟩, hD.weaken (fun _ _ _ _ => trivial)⟩⟩ rfl rfl hl.1 rfl (lv_room hroom) dd ⟨hcs.1, hcs.2⟩) (fun r hr => k r hr H locs ls hP hD hS hl)
theorem x_call0VN0i (G : xG p s m args c cc nL own Ts NW D cl tys A) {b : Nat} {C : String} {host : String} {y : MethodName} {bytes : ByteArray} {maxL index d : Nat} {ret : Option FieldType} {Tc : List Cond} {post : Int32 → Prop} (hM : xCi0 l D cl tys NW ws y Tc d [.ref b] post) (q0 : Nat) {fs : List Value} {ci : Nat} {T : u_T} {N : Nat} (he : ws[q0]? = some (b, .inr (ci, fs))) (hc : cl[ci]? = some (C, T, N)) (cw : (va_CN R s args own index y host bytes maxL ret Tc { frames := d, cells := 0, slots := 0, locals := 40 * d } 0 0 0 ∧ (Cond.instanceMethod y).before args s = true ∧ (Cond.selects C y y).before args s = true)) (dd : decode cc pc = .ok (.invokevirtual index, 3)) (hroom : (st.map fun v => v.category).sum ≤ 8) (hcs : cells ≤ R.cells ∧ slots ≤ R.slots) (k : ∀ r : Int32, post r → xJ p l e R s m args below meth c cells slots Q D cl A nL (S) (ws) (vs) (pc + 3) (.int r :: st)) : xJ p l e R s m args below meth c cells slots Q D cl A nL (S) (ws) (vs) (pc) (.ref b :: st) := fun H locs ls hP hD hS hl => x_samei (va_runVN (As := []) (rest := st) ⟨G.1, G.2.1, G.2.2.1, G.2.2.2.1, G.2.2.2.2.1⟩ hM cw ⟨fun a U g mk q => by obtain ⟨q0, qP, qK, qN, qD⟩ := q; exact ⟨q0, qP, va_K.moved (u := U) (U := U.calling g mk a) (Vm.Alike.refl U.vm) qK, fun c hc => ⟨(qN c hc).1, nest_same (s := U) (U := U.calling g mk a) (qN c hc).1 rfl (qN c hc).2⟩, qD⟩, va_recv G.2.2.2.2.2.1 hP hc he, fun U hU hW => ⟨rfl, by rw [hU]; exact hP, va_K.moved hW.alike G.2.2.2.2.2.1, fun c hc => ⟨(G.2.2.2.2.2.2.1 c hc).1, nest_warm (G.2.2.2.2.2.2.1 c hc).1 hW (G.2.2.2.2.2.2.1 c hc).2⟩, hD.weaken (fun _ _ _ _ => trivial)⟩⟩ rfl rfl hl.1 rfl (lv_room hroom) dd ⟨hcs.1, hcs.2⟩) (fun r hr => k r hr H locs ls hP hD hS hl)
theorem x_call0VN0l (G : xG p s m args c cc nL own Ts NW D cl tys A) {b : Nat} {C : String} {host : String} {y : MethodName} {bytes : ByteArray} {maxL index d : Nat} {ret : Option FieldType} {Tc : List Cond} {post : Int64 → Prop} (hM : xCl0 l D cl tys NW ws y Tc d [.ref b] post) (q0 : Nat) {fs : List Value} {ci : Nat} {T : u_T} {N : Nat} (he : ws[q0]? = some (b, .inr (ci, fs))) (hc : cl[ci]? = some (C, T, N)) (cw : (va_CN R s args own index y host bytes maxL ret Tc { frames := d, cells := 0, slots := 0, locals := 40 * d } 0 0 0 ∧ (Cond.instanceMethod y).before args s = true ∧ (Cond.selects C y y).before args s = true)) (dd : decode cc pc = .ok (.invokevirtual index, 3)) (hroom : (st.map fun v => v.category).sum ≤ 8) (hcs : cells ≤ R.cells ∧ slots ≤ R.slots) (k : ∀ r : Int64, post r → xJ p l e R s m args below meth c cells slots Q D cl A nL (S) (ws) (vs) (pc + 3) (.long r :: st)) : xJ p l e R s m args below meth c cells slots Q D cl A nL (S) (ws) (vs) (pc) (.ref b :: st) := fun H locs ls hP hD hS hl => x_samel (va_runVN (As := []) (rest := st) ⟨G.1, G.2.1, G.2.2.1, G.2.2.2.1, G.2.2.2.2.1⟩ hM cw ⟨fun a U g mk q => by obtain ⟨q0, qP, qK, qN, qD⟩ := q; exact ⟨q0, qP, va_K.moved (u := U) (U := U.calling g mk a) (Vm.Alike.refl U.vm) qK, fun c hc => ⟨(qN c hc).1, nest_same (s := U) (U := U.calling g mk a) (qN c hc).1 rfl (qN c hc).2⟩, qD⟩, va_recv G.2.2.2.2.2.1 hP hc he, fun U hU hW => ⟨rfl, by rw [hU]; exact hP, va_K.moved hW.alike G.2.2.2.2.2.1, fun c hc => ⟨(G.2.2.2.2.2.2.1 c hc).1, nest_warm (G.2.2.2.2.2.2.1 c hc).1 hW (G.2.2.2.2.2.2.1 c hc).2⟩, hD.weaken (fun _ _ _ _ => trivial)⟩⟩ rfl rfl hl.1 rfl (lv_room hroom) dd ⟨hcs.1, hcs.2⟩) (fun r hr => k r hr H locs ls hP hD hS hl)
theorem x_call0S0i (G : xG p s m args c cc nL own Ts NW D cl tys A) {y : MethodName} {bytes : ByteArray} {maxL index d : Nat} {ret : Option FieldType} {Tc : List Cond} {post : Int32 → Prop} (hM : xCi0 l D cl tys NW ws y Tc d [] post) (cw : (CallB R s args own index y bytes maxL ret Tc { frames := d, cells := 0, slots := 0, locals := 40 * d } 0 0 0 ∧ (Cond.static y).before args s = true)) (dd : decode cc pc = .ok (.invokestatic index, 3)) (hroom : (st.map fun v => v.category).sum ≤ 8) (hcs : cells ≤ R.cells ∧ slots ≤ R.slots) (k : ∀ r : Int32, post r → xJ p l e R s m args below meth c cells slots Q D cl A nL (S) (ws) (vs) (pc + 3) (.int r :: st)) : xJ p l e R s m args below meth c cells slots Q D cl A nL (S) (ws) (vs) (pc) (st) := fun H locs ls hP hD hS hl => x_samei (va_runS (As := []) (rest := st) ⟨G.1, G.2.1, G.2.2.1, G.2.2.2.1, G.2.2.2.2.1⟩ hM cw ⟨fun a U g mk q => by obtain ⟨q0, qP, qK, qN, qD⟩ := q; exact ⟨q0, qP, va_K.moved (u := U) (U := U.calling g mk a) (Vm.Alike.refl U.vm) qK, fun c hc => ⟨(qN c hc).1, nest_same (s := U) (U := U.calling g mk a) (qN c hc).1 rfl (qN c hc).2⟩, qD⟩, fun U hU hW => ⟨rfl, by rw [hU]; exact hP, va_K.moved hW.alike G.2.2.2.2.2.1, fun c hc => ⟨(G.2.2.2.2.2.2.1 c hc).1, nest_warm (G.2.2.2.2.2.2.1 c hc).1 hW (G.2.2.2.2.2.2.1 c hc).2⟩, hD.weaken (fun _ _ _ _ => trivial)⟩⟩ rfl rfl hl.1 rfl (lv_room hroom) dd ⟨hcs.1, hcs.2⟩) (fun r hr => k r hr H locs ls hP hD hS hl)
theorem x_call0S0l (G : xG p s m args c cc nL own Ts NW D cl tys A) {y : MethodName} {bytes : ByteArray} {maxL index d : Nat} {ret : Option FieldType} {Tc : List Cond} {post : Int64 → Prop} (hM : xCl0 l D cl tys NW ws y Tc d [] post) (cw : (CallB R s args own index y bytes maxL ret Tc { frames := d, cells := 0, slots := 0, locals := 40 * d } 0 0 0 ∧ (Cond.static y).before args s = true)) (dd : decode cc pc = .ok (.invokestatic index, 3)) (hroom : (st.map fun v => v.category).sum ≤ 8) (hcs : cells ≤ R.cells ∧ slots ≤ R.slots) (k : ∀ r : Int64, post r → xJ p l e R s m args below meth c cells slots Q D cl A nL (S) (ws) (vs) (pc + 3) (.long r :: st)) : xJ p l e R s m args below meth c cells slots Q D cl A nL (S) (ws) (vs) (pc) (st) := fun H locs ls hP hD hS hl => x_samel (va_runS (As := []) (rest := st) ⟨G.1, G.2.1, G.2.2.1, G.2.2.2.1, G.2.2.2.2.1⟩ hM cw ⟨fun a U g mk q => by obtain ⟨q0, qP, qK, qN, qD⟩ := q; exact ⟨q0, qP, va_K.moved (u := U) (U := U.calling g mk a) (Vm.Alike.refl U.vm) qK, fun c hc => ⟨(qN c hc).1, nest_same (s := U) (U := U.calling g mk a) (qN c hc).1 rfl (qN c hc).2⟩, qD⟩, fun U hU hW => ⟨rfl, by rw [hU]; exact hP, va_K.moved hW.alike G.2.2.2.2.2.1, fun c hc => ⟨(G.2.2.2.2.2.2.1 c hc).1, nest_warm (G.2.2.2.2.2.2.1 c hc).1 hW (G.2.2.2.2.2.2.1 c hc).2⟩, hD.weaken (fun _ _ _ _ => trivial)⟩⟩ rfl rfl hl.1 rfl (lv_room hroom) dd ⟨hcs.1, hcs.2⟩) (fun r hr => k r hr H locs ls hP hD hS hl)
theorem x_call0SN0i (G : xG p s m args c cc nL own Ts NW D cl tys A) {host : String} {y : MethodName} {bytes : ByteArray} {maxL index d : Nat} {ret : Option FieldType} {Tc : List Cond} {post : Int32 → Prop} (hM : xCi0 l D cl tys NW ws y Tc d [] post) (cw : (va_CN R s args own index y host bytes maxL ret Tc { frames := d, cells := 0, slots := 0, locals := 40 * d } 0 0 0 ∧ (Cond.static y).before args s = true ∧ True)) (dd : decode cc pc = .ok (.invokestatic index, 3)) (hroom : (st.map fun v => v.category).sum ≤ 8) (hcs : cells ≤ R.cells ∧ slots ≤ R.slots) (k : ∀ r : Int32, post r → xJ p l e R s m args below meth c cells slots Q D cl A nL (S) (ws) (vs) (pc + 3) (.int r :: st)) : xJ p l e R s m args below meth c cells slots Q D cl A nL (S) (ws) (vs) (pc) (st) := fun H locs ls hP hD hS hl => x_samei (va_runSN (As := []) (rest := st) ⟨G.1, G.2.1, G.2.2.1, G.2.2.2.1, G.2.2.2.2.1⟩ hM cw ⟨fun a U g mk q => by obtain ⟨q0, qP, qK, qN, qD⟩ := q; exact ⟨q0, qP, va_K.moved (u := U) (U := U.calling g mk a) (Vm.Alike.refl U.vm) qK, fun c hc => ⟨(qN c hc).1, nest_same (s := U) (U := U.calling g mk a) (qN c hc).1 rfl (qN c hc).2⟩, qD⟩, fun U hU hW => ⟨rfl, by rw [hU]; exact hP, va_K.moved hW.alike G.2.2.2.2.2.1, fun c hc => ⟨(G.2.2.2.2.2.2.1 c hc).1, nest_warm (G.2.2.2.2.2.2.1 c hc).1 hW (G.2.2.2.2.2.2.1 c hc).2⟩, hD.weaken (fun _ _ _ _ => trivial)⟩⟩ rfl rfl hl.1 rfl (lv_room hroom) dd ⟨hcs.1, hcs.2⟩) (fun r hr => k r hr H locs ls hP hD hS hl)
theorem x_call0SN0l (G : xG p s m args c cc nL own Ts NW D cl tys A) {host : String} {y : MethodName} {bytes : ByteArray} {maxL index d : Nat} {ret : Option FieldType} {Tc : List Cond} {post : Int64 → Prop} (hM : xCl0 l D cl tys NW ws y Tc d [] post) (cw : (va_CN R s args own index y host bytes maxL ret Tc { frames := d, cells := 0, slots := 0, locals := 40 * d } 0 0 0 ∧ (Cond.static y).before args s = true ∧ True)) (dd : decode cc pc = .ok (.invokestatic index, 3)) (hroom : (st.map fun v => v.category).sum ≤ 8) (hcs : cells ≤ R.cells ∧ slots ≤ R.slots) (k : ∀ r : Int64, post r → xJ p l e R s m args below meth c cells slots Q D cl A nL (S) (ws) (vs) (pc + 3) (.long r :: st)) : xJ p l e R s m args below meth c cells slots Q D cl A nL (S) (ws) (vs) (pc) (st) := fun H locs ls hP hD hS hl => x_samel (va_runSN (As := []) (rest := st) ⟨G.1, G.2.1, G.2.2.1, G.2.2.2.1, G.2.2.2.2.1⟩ hM cw ⟨fun a U g mk q => by obtain ⟨q0, qP, qK, qN, qD⟩ := q; exact ⟨q0, qP, va_K.moved (u := U) (U := U.calling g mk a) (Vm.Alike.refl U.vm) qK, fun c hc => ⟨(qN c hc).1, nest_same (s := U) (U := U.calling g mk a) (qN c hc).1 rfl (qN c hc).2⟩, qD⟩, fun U hU hW => ⟨rfl, by rw [hU]; exact hP, va_K.moved hW.alike G.2.2.2.2.2.1, fun c hc => ⟨(G.2.2.2.2.2.2.1 c hc).1, nest_warm (G.2.2.2.2.2.2.1 c hc).1 hW (G.2.2.2.2.2.2.1 c hc).2⟩, hD.weaken (fun _ _ _ _ => trivial)⟩⟩ rfl rfl hl.1 rfl (lv_room hroom) dd ⟨hcs.1, hcs.2⟩) (fun r hr => k r hr H locs ls hP hD hS hl)
theorem x_call0V1i (G : xG p s m args c cc nL own Ts NW D cl tys A) {b : Nat} {C : String} {y : MethodName} {bytes : ByteArray} {maxL index d : Nat} {ret : Option FieldType} {Tc : List Cond} {a1 : Value} {post : Int32 → Prop} (hM : xCi0 l D cl tys NW ws y Tc d [.ref b, a1] post) (q0 : Nat) {fs : List Value} {ci : Nat} {T : u_T} {N : Nat} (he : ws[q0]? = some (b, .inr (ci, fs))) (hc : cl[ci]? = some (C, T, N)) (cw : CallW R s args own C index y bytes maxL ret Tc { frames := d, cells := 0, slots := 0, locals := 40 * d } 0 0 1) (dd : decode cc pc = .ok (.invokevirtual index, 3)) (hroom : (st.map fun v => v.category).sum ≤ 8) (hcs : cells ≤ R.cells ∧ slots ≤ R.slots) (k : ∀ r : Int32, post r → xJ p l e R s m args below meth c cells slots Q D cl A nL (S) (ws) (vs) (pc + 3) (.int r :: st)) : xJ p l e R s m args below meth c cells slots Q D cl A nL (S) (ws) (vs) (pc) (a1 :: .ref b :: st) := fun H locs ls hP hD hS hl => x_samei (va_runV (As := [a1]) (rest := st) ⟨G.1, G.2.1, G.2.2.1, G.2.2.2.1, G.2.2.2.2.1⟩ hM cw ⟨fun a U g mk q => by obtain ⟨q0, qP, qK, qN, qD⟩ := q; exact ⟨q0, qP, va_K.moved (u := U) (U := U.calling g mk a) (Vm.Alike.refl U.vm) qK, fun c hc => ⟨(qN c hc).1, nest_same (s := U) (U := U.calling g mk a) (qN c hc).1 rfl (qN c hc).2⟩, qD⟩, va_recv G.2.2.2.2.2.1 hP hc he, fun U hU hW => ⟨rfl, by rw [hU]; exact hP, va_K.moved hW.alike G.2.2.2.2.2.1, fun c hc => ⟨(G.2.2.2.2.2.2.1 c hc).1, nest_warm (G.2.2.2.2.2.2.1 c hc).1 hW (G.2.2.2.2.2.2.1 c hc).2⟩, hD.weaken (fun _ _ _ _ => trivial)⟩⟩ rfl rfl hl.1 rfl (lv_room hroom) dd ⟨hcs.1, hcs.2⟩) (fun r hr => k r hr H locs ls hP hD hS hl)
theorem x_call0V1l (G : xG p s m args c cc nL own Ts NW D cl tys A) {b : Nat} {C : String} {y : MethodName} {bytes : ByteArray} {maxL index d : Nat} {ret : Option FieldType} {Tc : List Cond} {a1 : Value} {post : Int64 → Prop} (hM : xCl0 l D cl tys NW ws y Tc d [.ref b, a1] post) (q0 : Nat) {fs : List Value} {ci : Nat} {T : u_T} {N : Nat} (he : ws[q0]? = some (b, .inr (ci, fs))) (hc : cl[ci]? = some (C, T, N)) (cw : CallW R s args own C index y bytes maxL ret Tc { frames := d, cells := 0, slots := 0, locals := 40 * d } 0 0 1) (dd : decode cc pc = .ok (.invokevirtual index, 3)) (hroom : (st.map fun v => v.category).sum ≤ 8) (hcs : cells ≤ R.cells ∧ slots ≤ R.slots) (k : ∀ r : Int64, post r → xJ p l e R s m args below meth c cells slots Q D cl A nL (S) (ws) (vs) (pc + 3) (.long r :: st)) : xJ p l e R s m args below meth c cells slots Q D cl A nL (S) (ws) (vs) (pc) (a1 :: .ref b :: st) := fun H locs ls hP hD hS hl => x_samel (va_runV (As := [a1]) (rest := st) ⟨G.1, G.2.1, G.2.2.1, G.2.2.2.1, G.2.2.2.2.1⟩ hM cw ⟨fun a U g mk q => by obtain ⟨q0, qP, qK, qN, qD⟩ := q; exact ⟨q0, qP, va_K.moved (u := U) (U := U.calling g mk a) (Vm.Alike.refl U.vm) qK, fun c hc => ⟨(qN c hc).1, nest_same (s := U) (U := U.calling g mk a) (qN c hc).1 rfl (qN c hc).2⟩, qD⟩, va_recv G.2.2.2.2.2.1 hP hc he, fun U hU hW => ⟨rfl, by rw [hU]; exact hP, va_K.moved hW.alike G.2.2.2.2.2.1, fun c hc => ⟨(G.2.2.2.2.2.2.1 c hc).1, nest_warm (G.2.2.2.2.2.2.1 c hc).1 hW (G.2.2.2.2.2.2.1 c hc).2⟩, hD.weaken (fun _ _ _ _ => trivial)⟩⟩ rfl rfl hl.1 rfl (lv_room hroom) dd ⟨hcs.1, hcs.2⟩) (fun r hr => k r hr H locs ls hP hD hS hl)
theorem x_call0VN1i (G : xG p s m args c cc nL own Ts NW D cl tys A) {b : Nat} {C : String} {host : String} {y : MethodName} {bytes : ByteArray} {maxL index d : Nat} {ret : Option FieldType} {Tc : List Cond} {a1 : Value} {post : Int32 → Prop} (hM : xCi0 l D cl tys NW ws y Tc d [.ref b, a1] post) (q0 : Nat) {fs : List Value} {ci : Nat} {T : u_T} {N : Nat} (he : ws[q0]? = some (b, .inr (ci, fs))) (hc : cl[ci]? = some (C, T, N)) (cw : (va_CN R s args own index y host bytes maxL ret Tc { frames := d, cells := 0, slots := 0, locals := 40 * d } 0 0 1 ∧ (Cond.instanceMethod y).before args s = true ∧ (Cond.selects C y y).before args s = true)) (dd : decode cc pc = .ok (.invokevirtual index, 3)) (hroom : (st.map fun v => v.category).sum ≤ 8) (hcs : cells ≤ R.cells ∧ slots ≤ R.slots) (k : ∀ r : Int32, post r → xJ p l e R s m args below meth c cells slots Q D cl A nL (S) (ws) (vs) (pc + 3) (.int r :: st)) : xJ p l e R s m args below meth c cells slots Q D cl A nL (S) (ws) (vs) (pc) (a1 :: .ref b :: st) := fun H locs ls hP hD hS hl => x_samei (va_runVN (As := [a1]) (rest := st) ⟨G.1, G.2.1, G.2.2.1, G.2.2.2.1, G.2.2.2.2.1⟩ hM cw ⟨fun a U g mk q => by obtain ⟨q0, qP, qK, qN, qD⟩ := q; exact ⟨q0, qP, va_K.moved (u := U) (U := U.calling g mk a) (Vm.Alike.refl U.vm) qK, fun c hc => ⟨(qN c hc).1, nest_same (s := U) (U := U.calling g mk a) (qN c hc).1 rfl (qN c hc).2⟩, qD⟩, va_recv G.2.2.2.2.2.1 hP hc he, fun U hU hW => ⟨rfl, by rw [hU]; exact hP, va_K.moved hW.alike G.2.2.2.2.2.1, fun c hc => ⟨(G.2.2.2.2.2.2.1 c hc).1, nest_warm (G.2.2.2.2.2.2.1 c hc).1 hW (G.2.2.2.2.2.2.1 c hc).2⟩, hD.weaken (fun _ _ _ _ => trivial)⟩⟩ rfl rfl hl.1 rfl (lv_room hroom) dd ⟨hcs.1, hcs.2⟩) (fun r hr => k r hr H locs ls hP hD hS hl)
theorem x_call0VN1l (G : xG p s m args c cc nL own Ts NW D cl tys A) {b : Nat} {C : String} {host : String} {y : MethodName} {bytes : ByteArray} {maxL index d : Nat} {ret : Option FieldType} {Tc : List Cond} {a1 : Value} {post : Int64 → Prop} (hM : xCl0 l D cl tys NW ws y Tc d [.ref b, a1] post) (q0 : Nat) {fs : List Value} {ci : Nat} {T : u_T} {N : Nat} (he : ws[q0]? = some (b, .inr (ci, fs))) (hc : cl[ci]? = some (C, T, N)) (cw : (va_CN R s args own index y host bytes maxL ret Tc { frames := d, cells := 0, slots := 0, locals := 40 * d } 0 0 1 ∧ (Cond.instanceMethod y).before args s = true ∧ (Cond.selects C y y).before args s = true)) (dd : decode cc pc = .ok (.invokevirtual index, 3)) (hroom : (st.map fun v => v.category).sum ≤ 8) (hcs : cells ≤ R.cells ∧ slots ≤ R.slots) (k : ∀ r : Int64, post r → xJ p l e R s m args below meth c cells slots Q D cl A nL (S) (ws) (vs) (pc + 3) (.long r :: st)) : xJ p l e R s m args below meth c cells slots Q D cl A nL (S) (ws) (vs) (pc) (a1 :: .ref b :: st) := fun H locs ls hP hD hS hl => x_samel (va_runVN (As := [a1]) (rest := st) ⟨G.1, G.2.1, G.2.2.1, G.2.2.2.1, G.2.2.2.2.1⟩ hM cw ⟨fun a U g mk q => by obtain ⟨q0, qP, qK, qN, qD⟩ := q; exact ⟨q0, qP, va_K.moved (u := U) (U := U.calling g mk a) (Vm.Alike.refl U.vm) qK, fun c hc => ⟨(qN c hc).1, nest_same (s := U) (U := U.calling g mk a) (qN c hc).1 rfl (qN c hc).2⟩, qD⟩, va_recv G.2.2.2.2.2.1 hP hc he, fun U hU hW => ⟨rfl, by rw [hU]; exact hP, va_K.moved hW.alike G.2.2.2.2.2.1, fun c hc => ⟨(G.2.2.2.2.2.2.1 c hc).1, nest_warm (G.2.2.2.2.2.2.1 c hc).1 hW (G.2.2.2.2.2.2.1 c hc).2⟩, hD.weaken (fun _ _ _ _ => trivial)⟩⟩ rfl rfl hl.1 rfl (lv_room hroom) dd ⟨hcs.1, hcs.2⟩) (fun r hr => k r hr H locs ls hP hD hS hl)
theorem x_call0S1i (G : xG p s m args c cc nL own Ts NW D cl tys A) {y : MethodName} {bytes : ByteArray} {maxL index d : Nat} {ret : Option FieldType} {Tc : List Cond} {a1 : Value} {post : Int32 → Prop} (hM : xCi0 l D cl tys NW ws y Tc d [a1] post) (cw : (CallB R s args own index y bytes maxL ret Tc { frames := d, cells := 0, slots := 0, locals := 40 * d } 0 0 1 ∧ (Cond.static y).before args s = true)) (dd : decode cc pc = .ok (.invokestatic index, 3)) (hroom : (st.map fun v => v.category).sum ≤ 8) (hcs : cells ≤ R.cells ∧ slots ≤ R.slots) (k : ∀ r : Int32, post r → xJ p l e R s m args below meth c cells slots Q D cl A nL (S) (ws) (vs) (pc + 3) (.int r :: st)) : xJ p l e R s m args below meth c cells slots Q D cl A nL (S) (ws) (vs) (pc) (a1 :: st) := fun H locs ls hP hD hS hl => x_samei (va_runS (As := [a1]) (rest := st) ⟨G.1, G.2.1, G.2.2.1, G.2.2.2.1, G.2.2.2.2.1⟩ hM cw ⟨fun a U g mk q => by obtain ⟨q0, qP, qK, qN, qD⟩ := q; exact ⟨q0, qP, va_K.moved (u := U) (U := U.calling g mk a) (Vm.Alike.refl U.vm) qK, fun c hc => ⟨(qN c hc).1, nest_same (s := U) (U := U.calling g mk a) (qN c hc).1 rfl (qN c hc).2⟩, qD⟩, fun U hU hW => ⟨rfl, by rw [hU]; exact hP, va_K.moved hW.alike G.2.2.2.2.2.1, fun c hc => ⟨(G.2.2.2.2.2.2.1 c hc).1, nest_warm (G.2.2.2.2.2.2.1 c hc).1 hW (G.2.2.2.2.2.2.1 c hc).2⟩, hD.weaken (fun _ _ _ _ => trivial)⟩⟩ rfl rfl hl.1 rfl (lv_room hroom) dd ⟨hcs.1, hcs.2⟩) (fun r hr => k r hr H locs ls hP hD hS hl)
theorem x_call0S1l (G : xG p s m args c cc nL own Ts NW D cl tys A) {y : MethodName} {bytes : ByteArray} {maxL index d : Nat} {ret : Option FieldType} {Tc : List Cond} {a1 : Value} {post : Int64 → Prop} (hM : xCl0 l D cl tys NW ws y Tc d [a1] post) (cw : (CallB R s args own index y bytes maxL ret Tc { frames := d, cells := 0, slots := 0, locals := 40 * d } 0 0 1 ∧ (Cond.static y).before args s = true)) (dd : decode cc pc = .ok (.invokestatic index, 3)) (hroom : (st.map fun v => v.category).sum ≤ 8) (hcs : cells ≤ R.cells ∧ slots ≤ R.slots) (k : ∀ r : Int64, post r → xJ p l e R s m args below meth c cells slots Q D cl A nL (S) (ws) (vs) (pc + 3) (.long r :: st)) : xJ p l e R s m args below meth c cells slots Q D cl A nL (S) (ws) (vs) (pc) (a1 :: st) := fun H locs ls hP hD hS hl => x_samel (va_runS (As := [a1]) (rest := st) ⟨G.1, G.2.1, G.2.2.1, G.2.2.2.1, G.2.2.2.2.1⟩ hM cw ⟨fun a U g mk q => by obtain ⟨q0, qP, qK, qN, qD⟩ := q; exact ⟨q0, qP, va_K.moved (u := U) (U := U.calling g mk a) (Vm.Alike.refl U.vm) qK, fun c hc => ⟨(qN c hc).1, nest_same (s := U) (U := U.calling g mk a) (qN c hc).1 rfl (qN c hc).2⟩, qD⟩, fun U hU hW => ⟨rfl, by rw [hU]; exact hP, va_K.moved hW.alike G.2.2.2.2.2.1, fun c hc => ⟨(G.2.2.2.2.2.2.1 c hc).1, nest_warm (G.2.2.2.2.2.2.1 c hc).1 hW (G.2.2.2.2.2.2.1 c hc).2⟩, hD.weaken (fun _ _ _ _ => trivial)⟩⟩ rfl rfl hl.1 rfl (lv_room hroom) dd ⟨hcs.1, hcs.2⟩) (fun r hr => k r hr H locs ls hP hD hS hl)
theorem x_call0SN1i (G : xG p s m args c cc nL own Ts NW D cl tys A) {host : String} {y : MethodName} {bytes : ByteArray} {maxL index d : Nat} {ret : Option FieldType} {Tc : List Cond} {a1 : Value} {post : Int32 → Prop} (hM : xCi0 l D cl tys NW ws y Tc d [a1] post) (cw : (va_CN R s args own index y host bytes maxL ret Tc { frames := d, cells := 0, slots := 0, locals := 40 * d } 0 0 1 ∧ (Cond.static y).before args s = true ∧ True)) (dd : decode cc pc = .ok (.invokestatic index, 3)) (hroom : (st.map fun v => v.category).sum ≤ 8) (hcs : cells ≤ R.cells ∧ slots ≤ R.slots) (k : ∀ r : Int32, post r → xJ p l e R s m args below meth c cells slots Q D cl A nL (S) (ws) (vs) (pc + 3) (.int r :: st)) : xJ p l e R s m args below meth c cells slots Q D cl A nL (S) (ws) (vs) (pc) (a1 :: st) := fun H locs ls hP hD hS hl => x_samei (va_runSN (As := [a1]) (rest := st) ⟨G.1, G.2.1, G.2.2.1, G.2.2.2.1, G.2.2.2.2.1⟩ hM cw ⟨fun a U g mk q => by obtain ⟨q0, qP, qK, qN, qD⟩ := q; exact ⟨q0, qP, va_K.moved (u := U) (U := U.calling g mk a) (Vm.Alike.refl U.vm) qK, fun c hc => ⟨(qN c hc).1, nest_same (s := U) (U := U.calling g mk a) (qN c hc).1 rfl (qN c hc).2⟩, qD⟩, fun U hU hW => ⟨rfl, by rw [hU]; exact hP, va_K.moved hW.alike G.2.2.2.2.2.1, fun c hc => ⟨(G.2.2.2.2.2.2.1 c hc).1, nest_warm (G.2.2.2.2.2.2.1 c hc).1 hW (G.2.2.2.2.2.2.1 c hc).2⟩, hD.weaken (fun _ _ _ _ => trivial)⟩⟩ rfl rfl hl.1 rfl (lv_room hroom) dd ⟨hcs.1, hcs.2⟩) (fun r hr => k r hr H locs ls hP hD hS hl)
theorem x_call0SN1l (G : xG p s m args c cc nL own Ts NW D cl tys A) {host : String} {y : MethodName} {bytes : ByteArray} {maxL index d : Nat} {ret : Option FieldType} {Tc : List Cond} {a1 : Value} {post : Int64 → Prop} (hM : xCl0 l D cl tys NW ws y Tc d [a1] post) (cw : (va_CN R s args own index y host bytes maxL ret Tc { frames := d, cells := 0, slots := 0, locals := 40 * d } 0 0 1 ∧ (Cond.static y).before args s = true ∧ True)) (dd : decode cc pc = .ok (.invokestatic index, 3)) (hroom : (st.map fun v => v.category).sum ≤ 8) (hcs : cells ≤ R.cells ∧ slots ≤ R.slots) (k : ∀ r : Int64, post r → xJ p l e R s m args below meth c cells slots Q D cl A nL (S) (ws) (vs) (pc + 3) (.long r :: st)) : xJ p l e R s m args below meth c cells slots Q D cl A nL (S) (ws) (vs) (pc) (a1 :: st) := fun H locs ls hP hD hS hl => x_samel (va_runSN (As := [a1]) (rest := st) ⟨G.1, G.2.1, G.2.2.1, G.2.2.2.1, G.2.2.2.2.1⟩ hM cw ⟨fun a U g mk q => by obtain ⟨q0, qP, qK, qN, qD⟩ := q; exact ⟨q0, qP, va_K.moved (u := U) (U := U.calling g mk a) (Vm.Alike.refl U.vm) qK, fun c hc => ⟨(qN c hc).1, nest_same (s := U) (U := U.calling g mk a) (qN c hc).1 rfl (qN c hc).2⟩, qD⟩, fun U hU hW => ⟨rfl, by rw [hU]; exact hP, va_K.moved hW.alike G.2.2.2.2.2.1, fun c hc => ⟨(G.2.2.2.2.2.2.1 c hc).1, nest_warm (G.2.2.2.2.2.2.1 c hc).1 hW (G.2.2.2.2.2.2.1 c hc).2⟩, hD.weaken (fun _ _ _ _ => trivial)⟩⟩ rfl rfl hl.1 rfl (lv_room hroom) dd ⟨hcs.1, hcs.2⟩) (fun r hr => k r hr H locs ls hP hD hS hl)
theorem x_call0V2i (G : xG p s m args c cc nL own Ts NW D cl tys A) {b : Nat} {C : String} {y : MethodName} {bytes : ByteArray} {maxL index d : Nat} {ret : Option FieldType} {Tc : List Cond} {a1 a2 : Value} {post : Int32 → Prop} (hM : xCi0 l D cl tys NW ws y Tc d [.ref b, a1, a2] post) (q0 : Nat) {fs : List Value} {ci : Nat} {T : u_T} {N : Nat} (he : ws[q0]? = some (b, .inr (ci, fs))) (hc : cl[ci]? = some (C, T, N)) (cw : CallW R s args own C index y bytes maxL ret Tc { frames := d, cells := 0, slots := 0, locals := 40 * d } 0 0 2) (dd : decode cc pc = .ok (.invokevirtual index, 3)) (hroom : (st.map fun v => v.category).sum ≤ 8) (hcs : cells ≤ R.cells ∧ slots ≤ R.slots) (k : ∀ r : Int32, post r → xJ p l e R s m args below meth c cells slots Q D cl A nL (S) (ws) (vs) (pc + 3) (.int r :: st)) : xJ p l e R s m args below meth c cells slots Q D cl A nL (S) (ws) (vs) (pc) (a2 :: a1 :: .ref b :: st) := fun H locs ls hP hD hS hl => x_samei (va_runV (As := [a1, a2]) (rest := st) ⟨G.1, G.2.1, G.2.2.1, G.2.2.2.1, G.2.2.2.2.1⟩ hM cw ⟨fun a U g mk q => by obtain ⟨q0, qP, qK, qN, qD⟩ := q; exact ⟨q0, qP, va_K.moved (u := U) (U := U.calling g mk a) (Vm.Alike.refl U.vm) qK, fun c hc => ⟨(qN c hc).1, nest_same (s := U) (U := U.calling g mk a) (qN c hc).1 rfl (qN c hc).2⟩, qD⟩, va_recv G.2.2.2.2.2.1 hP hc he, fun U hU hW => ⟨rfl, by rw [hU]; exact hP, va_K.moved hW.alike G.2.2.2.2.2.1, fun c hc => ⟨(G.2.2.2.2.2.2.1 c hc).1, nest_warm (G.2.2.2.2.2.2.1 c hc).1 hW (G.2.2.2.2.2.2.1 c hc).2⟩, hD.weaken (fun _ _ _ _ => trivial)⟩⟩ rfl rfl hl.1 rfl (lv_room hroom) dd ⟨hcs.1, hcs.2⟩) (fun r hr => k r hr H locs ls hP hD hS hl)
theorem x_call0V2l (G : xG p s m args c cc nL own Ts NW D cl tys A) {b : Nat} {C : String} {y : MethodName} {bytes : ByteArray} {maxL index d : Nat} {ret : Option FieldType} {Tc : List Cond} {a1 a2 : Value} {post : Int64 → Prop} (hM : xCl0 l D cl tys NW ws y Tc d [.ref b, a1, a2] post) (q0 : Nat) {fs : List Value} {ci : Nat} {T : u_T} {N : Nat} (he : ws[q0]? = some (b, .inr (ci, fs))) (hc : cl[ci]? = some (C, T, N)) (cw : CallW R s args own C index y bytes maxL ret Tc { frames := d, cells := 0, slots := 0, locals := 40 * d } 0 0 2) (dd : decode cc pc = .ok (.invokevirtual index, 3)) (hroom : (st.map fun v => v.category).sum ≤ 8) (hcs : cells ≤ R.cells ∧ slots ≤ R.slots) (k : ∀ r : Int64, post r → xJ p l e R s m args below meth c cells slots Q D cl A nL (S) (ws) (vs) (pc + 3) (.long r :: st)) : xJ p l e R s m args below meth c cells slots Q D cl A nL (S) (ws) (vs) (pc) (a2 :: a1 :: .ref b :: st) := fun H locs ls hP hD hS hl => x_samel (va_runV (As := [a1, a2]) (rest := st) ⟨G.1, G.2.1, G.2.2.1, G.2.2.2.1, G.2.2.2.2.1⟩ hM cw ⟨fun a U g mk q => by obtain ⟨q0, qP, qK, qN, qD⟩ := q; exact ⟨q0, qP, va_K.moved (u := U) (U := U.calling g mk a) (Vm.Alike.refl U.vm) qK, fun c hc => ⟨(qN c hc).1, nest_same (s := U) (U := U.calling g mk a) (qN c hc).1 rfl (qN c hc).2⟩, qD⟩, va_recv G.2.2.2.2.2.1 hP hc he, fun U hU hW => ⟨rfl, by rw [hU]; exact hP, va_K.moved hW.alike G.2.2.2.2.2.1, fun c hc => ⟨(G.2.2.2.2.2.2.1 c hc).1, nest_warm (G.2.2.2.2.2.2.1 c hc).1 hW (G.2.2.2.2.2.2.1 c hc).2⟩, hD.weaken (fun _ _ _ _ => trivial)⟩⟩ rfl rfl hl.1 rfl (lv_room hroom) dd ⟨hcs.1, hcs.2⟩) (fun r hr => k r hr H locs ls hP hD hS hl)
theorem x_call0VN2i (G : xG p s m args c cc nL own Ts NW D cl tys A) {b : Nat} {C : String} {host : String} {y : MethodName} {bytes : ByteArray} {maxL index d : Nat} {ret : Option FieldType} {Tc : List Cond} {a1 a2 : Value} {post : Int32 → Prop} (hM : xCi0 l D cl tys NW ws y Tc d [.ref b, a1, a2] post) (q0 : Nat) {fs : List Value} {ci : Nat} {T : u_T} {N : Nat} (he : ws[q0]? = some (b, .inr (ci, fs))) (hc : cl[ci]? = some (C, T, N)) (cw : (va_CN R s args own index y host bytes maxL ret Tc { frames := d, cells := 0, slots := 0, locals := 40 * d } 0 0 2 ∧ (Cond.instanceMethod y).before args s = true ∧ (Cond.selects C y y).before args s = true)) (dd : decode cc pc = .ok (.invokevirtual index, 3)) (hroom : (st.map fun v => v.category).sum ≤ 8) (hcs : cells ≤ R.cells ∧ slots ≤ R.slots) (k : ∀ r : Int32, post r → xJ p l e R s m args below meth c cells slots Q D cl A nL (S) (ws) (vs) (pc + 3) (.int r :: st)) : xJ p l e R s m args below meth c cells slots Q D cl A nL (S) (ws) (vs) (pc) (a2 :: a1 :: .ref b :: st) := fun H locs ls hP hD hS hl => x_samei (va_runVN (As := [a1, a2]) (rest := st) ⟨G.1, G.2.1, G.2.2.1, G.2.2.2.1, G.2.2.2.2.1⟩ hM cw ⟨fun a U g mk q => by obtain ⟨q0, qP, qK, qN, qD⟩ := q; exact ⟨q0, qP, va_K.moved (u := U) (U := U.calling g mk a) (Vm.Alike.refl U.vm) qK, fun c hc => ⟨(qN c hc).1, nest_same (s := U) (U := U.calling g mk a) (qN c hc).1 rfl (qN c hc).2⟩, qD⟩, va_recv G.2.2.2.2.2.1 hP hc he, fun U hU hW => ⟨rfl, by rw [hU]; exact hP, va_K.moved hW.alike G.2.2.2.2.2.1, fun c hc => ⟨(G.2.2.2.2.2.2.1 c hc).1, nest_warm (G.2.2.2.2.2.2.1 c hc).1 hW (G.2.2.2.2.2.2.1 c hc).2⟩, hD.weaken (fun _ _ _ _ => trivial)⟩⟩ rfl rfl hl.1 rfl (lv_room hroom) dd ⟨hcs.1, hcs.2⟩) (fun r hr => k r hr H locs ls hP hD hS hl)
theorem x_call0VN2l (G : xG p s m args c cc nL own Ts NW D cl tys A) {b : Nat} {C : String} {host : String} {y : MethodName} {bytes : ByteArray} {maxL index d : Nat} {ret : Option FieldType} {Tc : List Cond} {a1 a2 : Value} {post : Int64 → Prop} (hM : xCl0 l D cl tys NW ws y Tc d [.ref b, a1, a2] post) (q0 : Nat) {fs : List Value} {ci : Nat} {T : u_T} {N : Nat} (he : ws[q0]? = some (b, .inr (ci, fs))) (hc : cl[ci]? = some (C, T, N)) (cw : (va_CN R s args own index y host bytes maxL ret Tc { frames := d, cells := 0, slots := 0, locals := 40 * d } 0 0 2 ∧ (Cond.instanceMethod y).before args s = true ∧ (Cond.selects C y y).before args s = true)) (dd : decode cc pc = .ok (.invokevirtual index, 3)) (hroom : (st.map fun v => v.category).sum ≤ 8) (hcs : cells ≤ R.cells ∧ slots ≤ R.slots) (k : ∀ r : Int64, post r → xJ p l e R s m args below meth c cells slots Q D cl A nL (S) (ws) (vs) (pc + 3) (.long r :: st)) : xJ p l e R s m args below meth c cells slots Q D cl A nL (S) (ws) (vs) (pc) (a2 :: a1 :: .ref b :: st) := fun H locs ls hP hD hS hl => x_samel (va_runVN (As := [a1, a2]) (rest := st) ⟨G.1, G.2.1, G.2.2.1, G.2.2.2.1, G.2.2.2.2.1⟩ hM cw ⟨fun a U g mk q => by obtain ⟨q0, qP, qK, qN, qD⟩ := q; exact ⟨q0, qP, va_K.moved (u := U) (U := U.calling g mk a) (Vm.Alike.refl U.vm) qK, fun c hc => ⟨(qN c hc).1, nest_same (s := U) (U := U.calling g mk a) (qN c hc).1 rfl (qN c hc).2⟩, qD⟩, va_recv G.2.2.2.2.2.1 hP hc he, fun U hU hW => ⟨rfl, by rw [hU]; exact hP, va_K.moved hW.alike G.2.2.2.2.2.1, fun c hc => ⟨(G.2.2.2.2.2.2.1 c hc).1, nest_warm (G.2.2.2.2.2.2.1 c hc).1 hW (G.2.2.2.2.2.2.1 c hc).2⟩, hD.weaken (fun _ _ _ _ => trivial)⟩⟩ rfl rfl hl.1 rfl (lv_room hroom) dd ⟨hcs.1, hcs.2⟩) (fun r hr => k r hr H locs ls hP hD hS hl)
theorem x_call0S2i (G : xG p s m args c cc nL own Ts NW D cl tys A) {y : MethodName} {bytes : ByteArray} {maxL index d : Nat} {ret : Option FieldType} {Tc : List Cond} {a1 a2 : Value} {post : Int32 → Prop} (hM : xCi0 l D cl tys NW ws y Tc d [a1, a2] post) (cw : (CallB R s args own index y bytes maxL ret Tc { frames := d, cells := 0, slots := 0, locals := 40 * d } 0 0 2 ∧ (Cond.static y).before args s = true)) (dd : decode cc pc = .ok (.invokestatic index, 3)) (hroom : (st.map fun v => v.category).sum ≤ 8) (hcs : cells ≤ R.cells ∧ slots ≤ R.slots) (k : ∀ r : Int32, post r → xJ p l e R s m args below meth c cells slots Q D cl A nL (S) (ws) (vs) (pc + 3) (.int r :: st)) : xJ p l e R s m args below meth c cells slots Q D cl A nL (S) (ws) (vs) (pc) (a2 :: a1 :: st) := fun H locs ls hP hD hS hl => x_samei (va_runS (As := [a1, a2]) (rest := st) ⟨G.1, G.2.1, G.2.2.1, G.2.2.2.1, G.2.2.2.2.1⟩ hM cw ⟨fun a U g mk q => by obtain ⟨q0, qP, qK, qN, qD⟩ := q; exact ⟨q0, qP, va_K.moved (u := U) (U := U.calling g mk a) (Vm.Alike.refl U.vm) qK, fun c hc => ⟨(qN c hc).1, nest_same (s := U) (U := U.calling g mk a) (qN c hc).1 rfl (qN c hc).2⟩, qD⟩, fun U hU hW => ⟨rfl, by rw [hU]; exact hP, va_K.moved hW.alike G.2.2.2.2.2.1, fun c hc => ⟨(G.2.2.2.2.2.2.1 c hc).1, nest_warm (G.2.2.2.2.2.2.1 c hc).1 hW (G.2.2.2.2.2.2.1 c hc).2⟩, hD.weaken (fun _ _ _ _ => trivial)⟩⟩ rfl rfl hl.1 rfl (lv_room hroom) dd ⟨hcs.1, hcs.2⟩) (fun r hr => k r hr H locs ls hP hD hS hl)
theorem x_call0S2l (G : xG p s m args c cc nL own Ts NW D cl tys A) {y : MethodName} {bytes : ByteArray} {maxL index d : Nat} {ret : Option FieldType} {Tc : List Cond} {a1 a2 : Value} {post : Int64 → Prop} (hM : xCl0 l D cl tys NW ws y Tc d [a1, a2] post) (cw : (CallB R s args own index y bytes maxL ret Tc { frames := d, cells := 0, slots := 0, locals := 40 * d } 0 0 2 ∧ (Cond.static y).before args s = true)) (dd : decode cc pc = .ok (.invokestatic index, 3)) (hroom : (st.map fun v => v.category).sum ≤ 8) (hcs : cells ≤ R.cells ∧ slots ≤ R.slots) (k : ∀ r : Int64, post r → xJ p l e R s m args below meth c cells slots Q D cl A nL (S) (ws) (vs) (pc + 3) (.long r :: st)) : xJ p l e R s m args below meth c cells slots Q D cl A nL (S) (ws) (vs) (pc) (a2 :: a1 :: st) := fun H locs ls hP hD hS hl => x_samel (va_runS (As := [a1, a2]) (rest := st) ⟨G.1, G.2.1, G.2.2.1, G.2.2.2.1, G.2.2.2.2.1⟩ hM cw ⟨fun a U g mk q => by obtain ⟨q0, qP, qK, qN, qD⟩ := q; exact ⟨q0, qP, va_K.moved (u := U) (U := U.calling g mk a) (Vm.Alike.refl U.vm) qK, fun c hc => ⟨(qN c hc).1, nest_same (s := U) (U := U.calling g mk a) (qN c hc).1 rfl (qN c hc).2⟩, qD⟩, fun U hU hW => ⟨rfl, by rw [hU]; exact hP, va_K.moved hW.alike G.2.2.2.2.2.1, fun c hc => ⟨(G.2.2.2.2.2.2.1 c hc).1, nest_warm (G.2.2.2.2.2.2.1 c hc).1 hW (G.2.2.2.2.2.2.1 c hc).2⟩, hD.weaken (fun _ _ _ _ => trivial)⟩⟩ rfl rfl hl.1 rfl (lv_room hroom) dd ⟨hcs.1, hcs.2⟩) (fun r hr => k r hr H locs ls hP hD hS hl)
theorem x_call0SN2i (G : xG p s m args c cc nL own Ts NW D cl tys A) {host : String} {y : MethodName} {bytes : ByteArray} {maxL index d : Nat} {ret : Option FieldType} {Tc : List Cond} {a1 a2 : Value} {post : Int32 → Prop} (hM : xCi0 l D cl tys NW ws y Tc d [a1, a2] post) (cw : (va_CN R s args own index y host bytes maxL ret Tc { frames := d, cells := 0, slots := 0, locals := 40 * d } 0 0 2 ∧ (Cond.static y).before args s = true ∧ True)) (dd : decode cc pc = .ok (.invokestatic index, 3)) (hroom : (st.map fun v => v.category).sum ≤ 8) (hcs : cells ≤ R.cells ∧ slots ≤ R.slots) (k : ∀ r : Int32, post r → xJ p l e R s m args below meth c cells slots Q D cl A nL (S) (ws) (vs) (pc + 3) (.int r :: st)) : xJ p l e R s m args below meth c cells slots Q D cl A nL (S) (ws) (vs) (pc) (a2 :: a1 :: st) := fun H locs ls hP hD hS hl => x_samei (va_runSN (As := [a1, a2]) (rest := st) ⟨G.1, G.2.1, G.2.2.1, G.2.2.2.1, G.2.2.2.2.1⟩ hM cw ⟨fun a U g mk q => by obtain ⟨q0, qP, qK, qN, qD⟩ := q; exact ⟨q0, qP, va_K.moved (u := U) (U := U.calling g mk a) (Vm.Alike.refl U.vm) qK, fun c hc => ⟨(qN c hc).1, nest_same (s := U) (U := U.calling g mk a) (qN c hc).1 rfl (qN c hc).2⟩, qD⟩, fun U hU hW => ⟨rfl, by rw [hU]; exact hP, va_K.moved hW.alike G.2.2.2.2.2.1, fun c hc => ⟨(G.2.2.2.2.2.2.1 c hc).1, nest_warm (G.2.2.2.2.2.2.1 c hc).1 hW (G.2.2.2.2.2.2.1 c hc).2⟩, hD.weaken (fun _ _ _ _ => trivial)⟩⟩ rfl rfl hl.1 rfl (lv_room hroom) dd ⟨hcs.1, hcs.2⟩) (fun r hr => k r hr H locs ls hP hD hS hl)
theorem x_call0SN2l (G : xG p s m args c cc nL own Ts NW D cl tys A) {host : String} {y : MethodName} {bytes : ByteArray} {maxL index d : Nat} {ret : Option FieldType} {Tc : List Cond} {a1 a2 : Value} {post : Int64 → Prop} (hM : xCl0 l D cl tys NW ws y Tc d [a1, a2] post) (cw : (va_CN R s args own index y host bytes maxL ret Tc { frames := d, cells := 0, slots := 0, locals := 40 * d } 0 0 2 ∧ (Cond.static y).before args s = true ∧ True)) (dd : decode cc pc = .ok (.invokestatic index, 3)) (hroom : (st.map fun v => v.category).sum ≤ 8) (hcs : cells ≤ R.cells ∧ slots ≤ R.slots) (k : ∀ r : Int64, post r → xJ p l e R s m args below meth c cells slots Q D cl A nL (S) (ws) (vs) (pc + 3) (.long r :: st)) : xJ p l e R s m args below meth c cells slots Q D cl A nL (S) (ws) (vs) (pc) (a2 :: a1 :: st) := fun H locs ls hP hD hS hl => x_samel (va_runSN (As := [a1, a2]) (rest := st) ⟨G.1, G.2.1, G.2.2.1, G.2.2.2.1, G.2.2.2.2.1⟩ hM cw ⟨fun a U g mk q => by obtain ⟨q0, qP, qK, qN, qD⟩ := q; exact ⟨q0, qP, va_K.moved (u := U) (U := U.calling g mk a) (Vm.Alike.refl U.vm) qK, fun c hc => ⟨(qN c hc).1, nest_same (s := U) (U := U.calling g mk a) (qN c hc).1 rfl (qN c hc).2⟩, qD⟩, fun U hU hW => ⟨rfl, by rw [hU]; exact hP, va_K.moved hW.alike G.2.2.2.2.2.1, fun c hc => ⟨(G.2.2.2.2.2.2.1 c hc).1, nest_warm (G.2.2.2.2.2.2.1 c hc).1 hW (G.2.2.2.2.2.2.1 c hc).2⟩, hD.weaken (fun _ _ _ _ => trivial)⟩⟩ rfl rfl hl.1 rfl (lv_room hroom) dd ⟨hcs.1, hcs.2⟩) (fun r hr => k r hr H locs ls hP hD hS hl)
theorem x_call0V3i (G : xG p s m args c cc nL own Ts NW D cl tys A) {b : Nat} {C : String} {y : MethodName} {bytes : ByteArray} {maxL index d : Nat} {ret : Option FieldType} {Tc : List Cond} {a1 a2 a3 : Value} {post : Int32 → Prop} (hM : xCi0 l D cl tys NW ws y Tc d [.ref b, a1, a2, a3] post) (q0 : Nat) {fs : List Value} {ci : Nat} {T : u_T} {N : Nat} (he : ws[q0]? = some (b, .inr (ci, fs))) (hc : cl[ci]? = some (C, T, N)) (cw : CallW R s args own C index y bytes maxL ret Tc { frames := d, cells := 0, slots := 0, locals := 40 * d } 0 0 3) (dd : decode cc pc = .ok (.invokevirtual index, 3)) (hroom : (st.map fun v => v.category).sum ≤ 8) (hcs : cells ≤ R.cells ∧ slots ≤ R.slots) (k : ∀ r : Int32, post r → xJ p l e R s m args below meth c cells slots Q D cl A nL (S) (ws) (vs) (pc + 3) (.int r :: st)) : xJ p l e R s m args below meth c cells slots Q D cl A nL (S) (ws) (vs) (pc) (a3 :: a2 :: a1 :: .ref b :: st) := fun H locs ls hP hD hS hl => x_samei (va_runV (As := [a1, a2, a3]) (rest := st) ⟨G.1, G.2.1, G.2.2.1, G.2.2.2.1, G.2.2.2.2.1⟩ hM cw ⟨fun a U g mk q => by obtain ⟨q0, qP, qK, qN, qD⟩ := q; exact ⟨q0, qP, va_K.moved (u := U) (U := U.calling g mk a) (Vm.Alike.refl U.vm) qK, fun c hc => ⟨(qN c hc).1, nest_same (s := U) (U := U.calling g mk a) (qN c hc).1 rfl (qN c hc).2⟩, qD⟩, va_recv G.2.2.2.2.2.1 hP hc he, fun U hU hW => ⟨rfl, by rw [hU]; exact hP, va_K.moved hW.alike G.2.2.2.2.2.1, fun c hc => ⟨(G.2.2.2.2.2.2.1 c hc).1, nest_warm (G.2.2.2.2.2.2.1 c hc).1 hW (G.2.2.2.2.2.2.1 c hc).2⟩, hD.weaken (fun _ _ _ _ => trivial)⟩⟩ rfl rfl hl.1 rfl (lv_room hroom) dd ⟨hcs.1, hcs.2⟩) (fun r hr => k r hr H locs ls hP hD hS hl)
theorem x_call0V3l (G : xG p s m args c cc nL own Ts NW D cl tys A) {b : Nat} {C : String} {y : MethodName} {bytes : ByteArray} {maxL index d : Nat} {ret : Option FieldType} {Tc : List Cond} {a1 a2 a3 : Value} {post : Int64 → Prop} (hM : xCl0 l D cl tys NW ws y Tc d [.ref b, a1, a2, a3] post) (q0 : Nat) {fs : List Value} {ci : Nat} {T : u_T} {N : Nat} (he : ws[q0]? = some (b, .inr (ci, fs))) (hc : cl[ci]? = some (C, T, N)) (cw : CallW R s args own C index y bytes maxL ret Tc { frames := d, cells := 0, slots := 0, locals := 40 * d } 0 0 3) (dd : decode cc pc = .ok (.invokevirtual index, 3)) (hroom : (st.map fun v => v.category).sum ≤ 8) (hcs : cells ≤ R.cells ∧ slots ≤ R.slots) (k : ∀ r : Int64, post r → xJ p l e R s m args below meth c cells slots Q D cl A nL (S) (ws) (vs) (pc + 3) (.long r :: st)) : xJ p l e R s m args below meth c cells slots Q D cl A nL (S) (ws) (vs) (pc) (a3 :: a2 :: a1 :: .ref b :: st) := fun H locs ls hP hD hS hl => x_samel (va_runV (As := [a1, a2, a3]) (rest := st) ⟨G.1, G.2.1, G.2.2.1, G.2.2.2.1, G.2.2.2.2.1⟩ hM cw ⟨fun a U g mk q => by obtain ⟨q0, qP, qK, qN, qD⟩ := q; exact ⟨q0, qP, va_K.moved (u := U) (U := U.calling g mk a) (Vm.Alike.refl U.vm) qK, fun c hc => ⟨(qN c hc).1, nest_same (s := U) (U := U.calling g mk a) (qN c hc).1 rfl (qN c hc).2⟩, qD⟩, va_recv G.2.2.2.2.2.1 hP hc he, fun U hU hW => ⟨rfl, by rw [hU]; exact hP, va_K.moved hW.alike G.2.2.2.2.2.1, fun c hc => ⟨(G.2.2.2.2.2.2.1 c hc).1, nest_warm (G.2.2.2.2.2.2.1 c hc).1 hW (G.2.2.2.2.2.2.1 c hc).2⟩, hD.weaken (fun _ _ _ _ => trivial)⟩⟩ rfl rfl hl.1 rfl (lv_room hroom) dd ⟨hcs.1, hcs.2⟩) (fun r hr => k r hr H locs ls hP hD hS hl)
theorem x_call0VN3i (G : xG p s m args c cc nL own Ts NW D cl tys A) {b : Nat} {C : String} {host : String} {y : MethodName} {bytes : ByteArray} {maxL index d : Nat} {ret : Option FieldType} {Tc : List Cond} {a1 a2 a3 : Value} {post : Int32 → Prop} (hM : xCi0 l D cl tys NW ws y Tc d [.ref b, a1, a2, a3] post) (q0 : Nat) {fs : List Value} {ci : Nat} {T : u_T} {N : Nat} (he : ws[q0]? = some (b, .inr (ci, fs))) (hc : cl[ci]? = some (C, T, N)) (cw : (va_CN R s args own index y host bytes maxL ret Tc { frames := d, cells := 0, slots := 0, locals := 40 * d } 0 0 3 ∧ (Cond.instanceMethod y).before args s = true ∧ (Cond.selects C y y).before args s = true)) (dd : decode cc pc = .ok (.invokevirtual index, 3)) (hroom : (st.map fun v => v.category).sum ≤ 8) (hcs : cells ≤ R.cells ∧ slots ≤ R.slots) (k : ∀ r : Int32, post r → xJ p l e R s m args below meth c cells slots Q D cl A nL (S) (ws) (vs) (pc + 3) (.int r :: st)) : xJ p l e R s m args below meth c cells slots Q D cl A nL (S) (ws) (vs) (pc) (a3 :: a2 :: a1 :: .ref b :: st) := fun H locs ls hP hD hS hl => x_samei (va_runVN (As := [a1, a2, a3]) (rest := st) ⟨G.1, G.2.1, G.2.2.1, G.2.2.2.1, G.2.2.2.2.1⟩ hM cw ⟨fun a U g mk q => by obtain ⟨q0, qP, qK, qN, qD⟩ := q; exact ⟨q0, qP, va_K.moved (u := U) (U := U.calling g mk a) (Vm.Alike.refl U.vm) qK, fun c hc => ⟨(qN c hc).1, nest_same (s := U) (U := U.calling g mk a) (qN c hc).1 rfl (qN c hc).2⟩, qD⟩, va_recv G.2.2.2.2.2.1 hP hc he, fun U hU hW => ⟨rfl, by rw [hU]; exact hP, va_K.moved hW.alike G.2.2.2.2.2.1, fun c hc => ⟨(G.2.2.2.2.2.2.1 c hc).1, nest_warm (G.2.2.2.2.2.2.1 c hc).1 hW (G.2.2.2.2.2.2.1 c hc).2⟩, hD.weaken (fun _ _ _ _ => trivial)⟩⟩ rfl rfl hl.1 rfl (lv_room hroom) dd ⟨hcs.1, hcs.2⟩) (fun r hr => k r hr H locs ls hP hD hS hl)
theorem x_call0VN3l (G : xG p s m args c cc nL own Ts NW D cl tys A) {b : Nat} {C : String} {host : String} {y : MethodName} {bytes : ByteArray} {maxL index d : Nat} {ret : Option FieldType} {Tc : List Cond} {a1 a2 a3 : Value} {post : Int64 → Prop} (hM : xCl0 l D cl tys NW ws y Tc d [.ref b, a1, a2, a3] post) (q0 : Nat) {fs : List Value} {ci : Nat} {T : u_T} {N : Nat} (he : ws[q0]? = some (b, .inr (ci, fs))) (hc : cl[ci]? = some (C, T, N)) (cw : (va_CN R s args own index y host bytes maxL ret Tc { frames := d, cells := 0, slots := 0, locals := 40 * d } 0 0 3 ∧ (Cond.instanceMethod y).before args s = true ∧ (Cond.selects C y y).before args s = true)) (dd : decode cc pc = .ok (.invokevirtual index, 3)) (hroom : (st.map fun v => v.category).sum ≤ 8) (hcs : cells ≤ R.cells ∧ slots ≤ R.slots) (k : ∀ r : Int64, post r → xJ p l e R s m args below meth c cells slots Q D cl A nL (S) (ws) (vs) (pc + 3) (.long r :: st)) : xJ p l e R s m args below meth c cells slots Q D cl A nL (S) (ws) (vs) (pc) (a3 :: a2 :: a1 :: .ref b :: st) := fun H locs ls hP hD hS hl => x_samel (va_runVN (As := [a1, a2, a3]) (rest := st) ⟨G.1, G.2.1, G.2.2.1, G.2.2.2.1, G.2.2.2.2.1⟩ hM cw ⟨fun a U g mk q => by obtain ⟨q0, qP, qK, qN, qD⟩ := q; exact ⟨q0, qP, va_K.moved (u := U) (U := U.calling g mk a) (Vm.Alike.refl U.vm) qK, fun c hc => ⟨(qN c hc).1, nest_same (s := U) (U := U.calling g mk a) (qN c hc).1 rfl (qN c hc).2⟩, qD⟩, va_recv G.2.2.2.2.2.1 hP hc he, fun U hU hW => ⟨rfl, by rw [hU]; exact hP, va_K.moved hW.alike G.2.2.2.2.2.1, fun c hc => ⟨(G.2.2.2.2.2.2.1 c hc).1, nest_warm (G.2.2.2.2.2.2.1 c hc).1 hW (G.2.2.2.2.2.2.1 c hc).2⟩, hD.weaken (fun _ _ _ _ => trivial)⟩⟩ rfl rfl hl.1 rfl (lv_room hroom) dd ⟨hcs.1, hcs.2⟩) (fun r hr => k r hr H locs ls hP hD hS hl)
theorem x_call0S3i (G : xG p s m args c cc nL own Ts NW D cl tys A) {y : MethodName} {bytes : ByteArray} {maxL index d : Nat} {ret : Option FieldType} {Tc : List Cond} {a1 a2 a3 : Value} {post : Int32 → Prop} (hM : xCi0 l D cl tys NW ws y Tc d [a1, a2, a3] post) (cw : (CallB R s args own index y bytes maxL ret Tc { frames := d, cells := 0, slots := 0, locals := 40 * d } 0 0 3 ∧ (Cond.static y).before args s = true)) (dd : decode cc pc = .ok (.invokestatic index, 3)) (hroom : (st.map fun v => v.category).sum ≤ 8) (hcs : cells ≤ R.cells ∧ slots ≤ R.slots) (k : ∀ r : Int32, post r → xJ p l e R s m args below meth c cells slots Q D cl A nL (S) (ws) (vs) (pc + 3) (.int r :: st)) : xJ p l e R s m args below meth c cells slots Q D cl A nL (S) (ws) (vs) (pc) (a3 :: a2 :: a1 :: st) := fun H locs ls hP hD hS hl => x_samei (va_runS (As := [a1, a2, a3]) (rest := st) ⟨G.1, G.2.1, G.2.2.1, G.2.2.2.1, G.2.2.2.2.1⟩ hM cw ⟨fun a U g mk q => by obtain ⟨q0, qP, qK, qN, qD⟩ := q; exact ⟨q0, qP, va_K.moved (u := U) (U := U.calling g mk a) (Vm.Alike.refl U.vm) qK, fun c hc => ⟨(qN c hc).1, nest_same (s := U) (U := U.calling g mk a) (qN c hc).1 rfl (qN c hc).2⟩, qD⟩, fun U hU hW => ⟨rfl, by rw [hU]; exact hP, va_K.moved hW.alike G.2.2.2.2.2.1, fun c hc => ⟨(G.2.2.2.2.2.2.1 c hc).1, nest_warm (G.2.2.2.2.2.2.1 c hc).1 hW (G.2.2.2.2.2.2.1 c hc).2⟩, hD.weaken (fun _ _ _ _ => trivial)⟩⟩ rfl rfl hl.1 rfl (lv_room hroom) dd ⟨hcs.1, hcs.2⟩) (fun r hr => k r hr H locs ls hP hD hS hl)
theorem x_call0S3l (G : xG p s m args c cc nL own Ts NW D cl tys A) {y : MethodName} {bytes : ByteArray} {maxL index d : Nat} {ret : Option FieldType} {Tc : List Cond} {a1 a2 a3 : Value} {post : Int64 → Prop} (hM : xCl0 l D cl tys NW ws y Tc d [a1, a2, a3] post) (cw : (CallB R s args own index y bytes maxL ret Tc { frames := d, cells := 0, slots := 0, locals := 40 * d } 0 0 3 ∧ (Cond.static y).before args s = true)) (dd : decode cc pc = .ok (.invokestatic index, 3)) (hroom : (st.map fun v => v.category).sum ≤ 8) (hcs : cells ≤ R.cells ∧ slots ≤ R.slots) (k : ∀ r : Int64, post r → xJ p l e R s m args below meth c cells slots Q D cl A nL (S) (ws) (vs) (pc + 3) (.long r :: st)) : xJ p l e R s m args below meth c cells slots Q D cl A nL (S) (ws) (vs) (pc) (a3 :: a2 :: a1 :: st) := fun H locs ls hP hD hS hl => x_samel (va_runS (As := [a1, a2, a3]) (rest := st) ⟨G.1, G.2.1, G.2.2.1, G.2.2.2.1, G.2.2.2.2.1⟩ hM cw ⟨fun a U g mk q => by obtain ⟨q0, qP, qK, qN, qD⟩ := q; exact ⟨q0, qP, va_K.moved (u := U) (U := U.calling g mk a) (Vm.Alike.refl U.vm) qK, fun c hc => ⟨(qN c hc).1, nest_same (s := U) (U := U.calling g mk a) (qN c hc).1 rfl (qN c hc).2⟩, qD⟩, fun U hU hW => ⟨rfl, by rw [hU]; exact hP, va_K.moved hW.alike G.2.2.2.2.2.1, fun c hc => ⟨(G.2.2.2.2.2.2.1 c hc).1, nest_warm (G.2.2.2.2.2.2.1 c hc).1 hW (G.2.2.2.2.2.2.1 c hc).2⟩, hD.weaken (fun _ _ _ _ => trivial)⟩⟩ rfl rfl hl.1 rfl (lv_room hroom) dd ⟨hcs.1, hcs.2⟩) (fun r hr => k r hr H locs ls hP hD hS hl)
theorem x_call0SN3i (G : xG p s m args c cc nL own Ts NW D cl tys A) {host : String} {y : MethodName} {bytes : ByteArray} {maxL index d : Nat} {ret : Option FieldType} {Tc : List Cond} {a1 a2 a3 : Value} {post : Int32 → Prop} (hM : xCi0 l D cl tys NW ws y Tc d [a1, a2, a3] post) (cw : (va_CN R s args own index y host bytes maxL ret Tc { frames := d, cells := 0, slots := 0, locals := 40 * d } 0 0 3 ∧ (Cond.static y).before args s = true ∧ True)) (dd : decode cc pc = .ok (.invokestatic index, 3)) (hroom : (st.map fun v => v.category).sum ≤ 8) (hcs : cells ≤ R.cells ∧ slots ≤ R.slots) (k : ∀ r : Int32, post r → xJ p l e R s m args below meth c cells slots Q D cl A nL (S) (ws) (vs) (pc + 3) (.int r :: st)) : xJ p l e R s m args below meth c cells slots Q D cl A nL (S) (ws) (vs) (pc) (a3 :: a2 :: a1 :: st) := fun H locs ls hP hD hS hl => x_samei (va_runSN (As := [a1, a2, a3]) (rest := st) ⟨G.1, G.2.1, G.2.2.1, G.2.2.2.1, G.2.2.2.2.1⟩ hM cw ⟨fun a U g mk q => by obtain ⟨q0, qP, qK, qN, qD⟩ := q; exact ⟨q0, qP, va_K.moved (u := U) (U := U.calling g mk a) (Vm.Alike.refl U.vm) qK, fun c hc => ⟨(qN c hc).1, nest_same (s := U) (U := U.calling g mk a) (qN c hc).1 rfl (qN c hc).2⟩, qD⟩, fun U hU hW => ⟨rfl, by rw [hU]; exact hP, va_K.moved hW.alike G.2.2.2.2.2.1, fun c hc => ⟨(G.2.2.2.2.2.2.1 c hc).1, nest_warm (G.2.2.2.2.2.2.1 c hc).1 hW (G.2.2.2.2.2.2.1 c hc).2⟩, hD.weaken (fun _ _ _ _ => trivial)⟩⟩ rfl rfl hl.1 rfl (lv_room hroom) dd ⟨hcs.1, hcs.2⟩) (fun r hr => k r hr H locs ls hP hD hS hl)
theorem x_call0SN3l (G : xG p s m args c cc nL own Ts NW D cl tys A) {host : String} {y : MethodName} {bytes : ByteArray} {maxL index d : Nat} {ret : Option FieldType} {Tc : List Cond} {a1 a2 a3 : Value} {post : Int64 → Prop} (hM : xCl0 l D cl tys NW ws y Tc d [a1, a2, a3] post) (cw : (va_CN R s args own index y host bytes maxL ret Tc { frames := d, cells := 0, slots := 0, locals := 40 * d } 0 0 3 ∧ (Cond.static y).before args s = true ∧ True)) (dd : decode cc pc = .ok (.invokestatic index, 3)) (hroom : (st.map fun v => v.category).sum ≤ 8) (hcs : cells ≤ R.cells ∧ slots ≤ R.slots) (k : ∀ r : Int64, post r → xJ p l e R s m args below meth c cells slots Q D cl A nL (S) (ws) (vs) (pc + 3) (.long r :: st)) : xJ p l e R s m args below meth c cells slots Q D cl A nL (S) (ws) (vs) (pc) (a3 :: a2 :: a1 :: st) := fun H locs ls hP hD hS hl => x_samel (va_runSN (As := [a1, a2, a3]) (rest := st) ⟨G.1, G.2.1, G.2.2.1, G.2.2.2.1, G.2.2.2.2.1⟩ hM cw ⟨fun a U g mk q => by obtain ⟨q0, qP, qK, qN, qD⟩ := q; exact ⟨q0, qP, va_K.moved (u := U) (U := U.calling g mk a) (Vm.Alike.refl U.vm) qK, fun c hc => ⟨(qN c hc).1, nest_same (s := U) (U := U.calling g mk a) (qN c hc).1 rfl (qN c hc).2⟩, qD⟩, fun U hU hW => ⟨rfl, by rw [hU]; exact hP, va_K.moved hW.alike G.2.2.2.2.2.1, fun c hc => ⟨(G.2.2.2.2.2.2.1 c hc).1, nest_warm (G.2.2.2.2.2.2.1 c hc).1 hW (G.2.2.2.2.2.2.1 c hc).2⟩, hD.weaken (fun _ _ _ _ => trivial)⟩⟩ rfl rfl hl.1 rfl (lv_room hroom) dd ⟨hcs.1, hcs.2⟩) (fun r hr => k r hr H locs ls hP hD hS hl)
theorem x_call0V4i (G : xG p s m args c cc nL own Ts NW D cl tys A) {b : Nat} {C : String} {y : MethodName} {bytes : ByteArray} {maxL index d : Nat} {ret : Option FieldType} {Tc : List Cond} {a1 a2 a3 a4 : Value} {post : Int32 → Prop} (hM : xCi0 l D cl tys NW ws y Tc d [.ref b, a1, a2, a3, a4] post) (q0 : Nat) {fs : List Value} {ci : Nat} {T : u_T} {N : Nat} (he : ws[q0]? = some (b, .inr (ci, fs))) (hc : cl[ci]? = some (C, T, N)) (cw : CallW R s args own C index y bytes maxL ret Tc { frames := d, cells := 0, slots := 0, locals := 40 * d } 0 0 4) (dd : decode cc pc = .ok (.invokevirtual index, 3)) (hroom : (st.map fun v => v.category).sum ≤ 8) (hcs : cells ≤ R.cells ∧ slots ≤ R.slots) (k : ∀ r : Int32, post r → xJ p l e R s m args below meth c cells slots Q D cl A nL (S) (ws) (vs) (pc + 3) (.int r :: st)) : xJ p l e R s m args below meth c cells slots Q D cl A nL (S) (ws) (vs) (pc) (a4 :: a3 :: a2 :: a1 :: .ref b :: st) := fun H locs ls hP hD hS hl => x_samei (va_runV (As := [a1, a2, a3, a4]) (rest := st) ⟨G.1, G.2.1, G.2.2.1, G.2.2.2.1, G.2.2.2.2.1⟩ hM cw ⟨fun a U g mk q => by obtain ⟨q0, qP, qK, qN, qD⟩ := q; exact ⟨q0, qP, va_K.moved (u := U) (U := U.calling g mk a) (Vm.Alike.refl U.vm) qK, fun c hc => ⟨(qN c hc).1, nest_same (s := U) (U := U.calling g mk a) (qN c hc).1 rfl (qN c hc).2⟩, qD⟩, va_recv G.2.2.2.2.2.1 hP hc he, fun U hU hW => ⟨rfl, by rw [hU]; exact hP, va_K.moved hW.alike G.2.2.2.2.2.1, fun c hc => ⟨(G.2.2.2.2.2.2.1 c hc).1, nest_warm (G.2.2.2.2.2.2.1 c hc).1 hW (G.2.2.2.2.2.2.1 c hc).2⟩, hD.weaken (fun _ _ _ _ => trivial)⟩⟩ rfl rfl hl.1 rfl (lv_room hroom) dd ⟨hcs.1, hcs.2⟩) (fun r hr => k r hr H locs ls hP hD hS hl)
theorem x_call0V4l (G : xG p s m args c cc nL own Ts NW D cl tys A) {b : Nat} {C : String} {y : MethodName} {bytes : ByteArray} {maxL index d : Nat} {ret : Option FieldType} {Tc : List Cond} {a1 a2 a3 a4 : Value} {post : Int64 → Prop} (hM : xCl0 l D cl tys NW ws y Tc d [.ref b, a1, a2, a3, a4] post) (q0 : Nat) {fs : List Value} {ci : Nat} {T : u_T} {N : Nat} (he : ws[q0]? = some (b, .inr (ci, fs))) (hc : cl[ci]? = some (C, T, N)) (cw : CallW R s args own C index y bytes maxL ret Tc { frames := d, cells := 0, slots := 0, locals := 40 * d } 0 0 4) (dd : decode cc pc = .ok (.invokevirtual index, 3)) (hroom : (st.map fun v => v.category).sum ≤ 8) (hcs : cells ≤ R.cells ∧ slots ≤ R.slots) (k : ∀ r : Int64, post r → xJ p l e R s m args below meth c cells slots Q D cl A nL (S) (ws) (vs) (pc + 3) (.long r :: st)) : xJ p l e R s m args below meth c cells slots Q D cl A nL (S) (ws) (vs) (pc) (a4 :: a3 :: a2 :: a1 :: .ref b :: st) := fun H locs ls hP hD hS hl => x_samel (va_runV (As := [a1, a2, a3, a4]) (rest := st) ⟨G.1, G.2.1, G.2.2.1, G.2.2.2.1, G.2.2.2.2.1⟩ hM cw ⟨fun a U g mk q => by obtain ⟨q0, qP, qK, qN, qD⟩ := q; exact ⟨q0, qP, va_K.moved (u := U) (U := U.calling g mk a) (Vm.Alike.refl U.vm) qK, fun c hc => ⟨(qN c hc).1, nest_same (s := U) (U := U.calling g mk a) (qN c hc).1 rfl (qN c hc).2⟩, qD⟩, va_recv G.2.2.2.2.2.1 hP hc he, fun U hU hW => ⟨rfl, by rw [hU]; exact hP, va_K.moved hW.alike G.2.2.2.2.2.1, fun c hc => ⟨(G.2.2.2.2.2.2.1 c hc).1, nest_warm (G.2.2.2.2.2.2.1 c hc).1 hW (G.2.2.2.2.2.2.1 c hc).2⟩, hD.weaken (fun _ _ _ _ => trivial)⟩⟩ rfl rfl hl.1 rfl (lv_room hroom) dd ⟨hcs.1, hcs.2⟩) (fun r hr => k r hr H locs ls hP hD hS hl)
theorem x_call0VN4i (G : xG p s m args c cc nL own Ts NW D cl tys A) {b : Nat} {C : String} {host : String} {y : MethodName} {bytes : ByteArray} {maxL index d : Nat} {ret : Option FieldType} {Tc : List Cond} {a1 a2 a3 a4 : Value} {post : Int32 → Prop} (hM : xCi0 l D cl tys NW ws y Tc d [.ref b, a1, a2, a3, a4] post) (q0 : Nat) {fs : List Value} {ci : Nat} {T : u_T} {N : Nat} (he : ws[q0]? = some (b, .inr (ci, fs))) (hc : cl[ci]? = some (C, T, N)) (cw : (va_CN R s args own index y host bytes maxL ret Tc { frames := d, cells := 0, slots := 0, locals := 40 * d } 0 0 4 ∧ (Cond.instanceMethod y).before args s = true ∧ (Cond.selects C y y).before args s = true)) (dd : decode cc pc = .ok (.invokevirtual index, 3)) (hroom : (st.map fun v => v.category).sum ≤ 8) (hcs : cells ≤ R.cells ∧ slots ≤ R.slots) (k : ∀ r : Int32, post r → xJ p l e R s m args below meth c cells slots Q D cl A nL (S) (ws) (vs) (pc + 3) (.int r :: st)) : xJ p l e R s m args below meth c cells slots Q D cl A nL (S) (ws) (vs) (pc) (a4 :: a3 :: a2 :: a1 :: .ref b :: st) := fun H locs ls hP hD hS hl => x_samei (va_runVN (As := [a1, a2, a3, a4]) (rest := st) ⟨G.1, G.2.1, G.2.2.1, G.2.2.2.1, G.2.2.2.2.1⟩ hM cw ⟨fun a U g mk q => by obtain ⟨q0, qP, qK, qN, qD⟩ := q; exact ⟨q0, qP, va_K.moved (u := U) (U := U.calling g mk a) (Vm.Alike.refl U.vm) qK, fun c hc => ⟨(qN c hc).1, nest_same (s := U) (U := U.calling g mk a) (qN c hc).1 rfl (qN c hc).2⟩, qD⟩, va_recv G.2.2.2.2.2.1 hP hc he, fun U hU hW => ⟨rfl, by rw [hU]; exact hP, va_K.moved hW.alike G.2.2.2.2.2.1, fun c hc => ⟨(G.2.2.2.2.2.2.1 c hc).1, nest_warm (G.2.2.2.2.2.2.1 c hc).1 hW (G.2.2.2.2.2.2.1 c hc).2⟩, hD.weaken (fun _ _ _ _ => trivial)⟩⟩ rfl rfl hl.1 rfl (lv_room hroom) dd ⟨hcs.1, hcs.2⟩) (fun r hr => k r hr H locs ls hP hD hS hl)
theorem x_call0VN4l (G : xG p s m args c cc nL own Ts NW D cl tys A) {b : Nat} {C : String} {host : String} {y : MethodName} {bytes : ByteArray} {maxL index d : Nat} {ret : Option FieldType} {Tc : List Cond} {a1 a2 a3 a4 : Value} {post : Int64 → Prop} (hM : xCl0 l D cl tys NW ws y Tc d [.ref b, a1, a2, a3, a4] post) (q0 : Nat) {fs : List Value} {ci : Nat} {T : u_T} {N : Nat} (he : ws[q0]? = some (b, .inr (ci, fs))) (hc : cl[ci]? = some (C, T, N)) (cw : (va_CN R s args own index y host bytes maxL ret Tc { frames := d, cells := 0, slots := 0, locals := 40 * d } 0 0 4 ∧ (Cond.instanceMethod y).before args s = true ∧ (Cond.selects C y y).before args s = true)) (dd : decode cc pc = .ok (.invokevirtual index, 3)) (hroom : (st.map fun v => v.category).sum ≤ 8) (hcs : cells ≤ R.cells ∧ slots ≤ R.slots) (k : ∀ r : Int64, post r → xJ p l e R s m args below meth c cells slots Q D cl A nL (S) (ws) (vs) (pc + 3) (.long r :: st)) : xJ p l e R s m args below meth c cells slots Q D cl A nL (S) (ws) (vs) (pc) (a4 :: a3 :: a2 :: a1 :: .ref b :: st) := fun H locs ls hP hD hS hl => x_samel (va_runVN (As := [a1, a2, a3, a4]) (rest := st) ⟨G.1, G.2.1, G.2.2.1, G.2.2.2.1, G.2.2.2.2.1⟩ hM cw ⟨fun a U g mk q => by obtain ⟨q0, qP, qK, qN, qD⟩ := q; exact ⟨q0, qP, va_K.moved (u := U) (U := U.calling g mk a) (Vm.Alike.refl U.vm) qK, fun c hc => ⟨(qN c hc).1, nest_same (s := U) (U := U.calling g mk a) (qN c hc).1 rfl (qN c hc).2⟩, qD⟩, va_recv G.2.2.2.2.2.1 hP hc he, fun U hU hW => ⟨rfl, by rw [hU]; exact hP, va_K.moved hW.alike G.2.2.2.2.2.1, fun c hc => ⟨(G.2.2.2.2.2.2.1 c hc).1, nest_warm (G.2.2.2.2.2.2.1 c hc).1 hW (G.2.2.2.2.2.2.1 c hc).2⟩, hD.weaken (fun _ _ _ _ => trivial)⟩⟩ rfl rfl hl.1 rfl (lv_room hroom) dd ⟨hcs.1, hcs.2⟩) (fun r hr => k r hr H locs ls hP hD hS hl)
theorem x_call0S4i (G : xG p s m args c cc nL own Ts NW D cl tys A) {y : MethodName} {bytes : ByteArray} {maxL index d : Nat} {ret : Option FieldType} {Tc : List Cond} {a1 a2 a3 a4 : Value} {post : Int32 → Prop} (hM : xCi0 l D cl tys NW ws y Tc d [a1, a2, a3, a4] post) (cw : (CallB R s args own index y bytes maxL ret Tc { frames := d, cells := 0, slots := 0, locals := 40 * d } 0 0 4 ∧ (Cond.static y).before args s = true)) (dd : decode cc pc = .ok (.invokestatic index, 3)) (hroom : (st.map fun v => v.category).sum ≤ 8) (hcs : cells ≤ R.cells ∧ slots ≤ R.slots) (k : ∀ r : Int32, post r → xJ p l e R s m args below meth c cells slots Q D cl A nL (S) (ws) (vs) (pc + 3) (.int r :: st)) : xJ p l e R s m args below meth c cells slots Q D cl A nL (S) (ws) (vs) (pc) (a4 :: a3 :: a2 :: a1 :: st) := fun H locs ls hP hD hS hl => x_samei (va_runS (As := [a1, a2, a3, a4]) (rest := st) ⟨G.1, G.2.1, G.2.2.1, G.2.2.2.1, G.2.2.2.2.1⟩ hM cw ⟨fun a U g mk q => by obtain ⟨q0, qP, qK, qN, qD⟩ := q; exact ⟨q0, qP, va_K.moved (u := U) (U := U.calling g mk a) (Vm.Alike.refl U.vm) qK, fun c hc => ⟨(qN c hc).1, nest_same (s := U) (U := U.calling g mk a) (qN c hc).1 rfl (qN c hc).2⟩, qD⟩, fun U hU hW => ⟨rfl, by rw [hU]; exact hP, va_K.moved hW.alike G.2.2.2.2.2.1, fun c hc => ⟨(G.2.2.2.2.2.2.1 c hc).1, nest_warm (G.2.2.2.2.2.2.1 c hc).1 hW (G.2.2.2.2.2.2.1 c hc).2⟩, hD.weaken (fun _ _ _ _ => trivial)⟩⟩ rfl rfl hl.1 rfl (lv_room hroom) dd ⟨hcs.1, hcs.2⟩) (fun r hr => k r hr H locs ls hP hD hS hl)
theorem x_call0S4l (G : xG p s m args c cc nL own Ts NW D cl tys A) {y : MethodName} {bytes : ByteArray} {maxL index d : Nat} {ret : Option FieldType} {Tc : List Cond} {a1 a2 a3 a4 : Value} {post : Int64 → Prop} (hM : xCl0 l D cl tys NW ws y Tc d [a1, a2, a3, a4] post) (cw : (CallB R s args own index y bytes maxL ret Tc { frames := d, cells := 0, slots := 0, locals := 40 * d } 0 0 4 ∧ (Cond.static y).before args s = true)) (dd : decode cc pc = .ok (.invokestatic index, 3)) (hroom : (st.map fun v => v.category).sum ≤ 8) (hcs : cells ≤ R.cells ∧ slots ≤ R.slots) (k : ∀ r : Int64, post r → xJ p l e R s m args below meth c cells slots Q D cl A nL (S) (ws) (vs) (pc + 3) (.long r :: st)) : xJ p l e R s m args below meth c cells slots Q D cl A nL (S) (ws) (vs) (pc) (a4 :: a3 :: a2 :: a1 :: st) := fun H locs ls hP hD hS hl => x_samel (va_runS (As := [a1, a2, a3, a4]) (rest := st) ⟨G.1, G.2.1, G.2.2.1, G.2.2.2.1, G.2.2.2.2.1⟩ hM cw ⟨fun a U g mk q => by obtain ⟨q0, qP, qK, qN, qD⟩ := q; exact ⟨q0, qP, va_K.moved (u := U) (U := U.calling g mk a) (Vm.Alike.refl U.vm) qK, fun c hc => ⟨(qN c hc).1, nest_same (s := U) (U := U.calling g mk a) (qN c hc).1 rfl (qN c hc).2⟩, qD⟩, fun U hU hW => ⟨rfl, by rw [hU]; exact hP, va_K.moved hW.alike G.2.2.2.2.2.1, fun c hc => ⟨(G.2.2.2.2.2.2.1 c hc).1, nest_warm (G.2.2.2.2.2.2.1 c hc).1 hW (G.2.2.2.2.2.2.1 c hc).2⟩, hD.weaken (fun _ _ _ _ => trivial)⟩⟩ rfl rfl hl.1 rfl (lv_room hroom) dd ⟨hcs.1, hcs.2⟩) (fun r hr => k r hr H locs ls hP hD hS hl)
theorem x_call0SN4i (G : xG p s m args c cc nL own Ts NW D cl tys A) {host : String} {y : MethodName} {bytes : ByteArray} {maxL index d : Nat} {ret : Option FieldType} {Tc : List Cond} {a1 a2 a3 a4 : Value} {post : Int32 → Prop} (hM : xCi0 l D cl tys NW ws y Tc d [a1, a2, a3, a4] post) (cw : (va_CN R s args own index y host bytes maxL ret Tc { frames := d, cells := 0, slots := 0, locals := 40 * d } 0 0 4 ∧ (Cond.static y).before args s = true ∧ True)) (dd : decode cc pc = .ok (.invokestatic index, 3)) (hroom : (st.map fun v => v.category).sum ≤ 8) (hcs : cells ≤ R.cells ∧ slots ≤ R.slots) (k : ∀ r : Int32, post r → xJ p l e R s m args below meth c cells slots Q D cl A nL (S) (ws) (vs) (pc + 3) (.int r :: st)) : xJ p l e R s m args below meth c cells slots Q D cl A nL (S) (ws) (vs) (pc) (a4 :: a3 :: a2 :: a1 :: st) := fun H locs ls hP hD hS hl => x_samei (va_runSN (As := [a1, a2, a3, a4]) (rest := st) ⟨G.1, G.2.1, G.2.2.1, G.2.2.2.1, G.2.2.2.2.1⟩ hM cw ⟨fun a U g mk q => by obtain ⟨q0, qP, qK, qN, qD⟩ := q; exact ⟨q0, qP, va_K.moved (u := U) (U := U.calling g mk a) (Vm.Alike.refl U.vm) qK, fun c hc => ⟨(qN c hc).1, nest_same (s := U) (U := U.calling g mk a) (qN c hc).1 rfl (qN c hc).2⟩, qD⟩, fun U hU hW => ⟨rfl, by rw [hU]; exact hP, va_K.moved hW.alike G.2.2.2.2.2.1, fun c hc => ⟨(G.2.2.2.2.2.2.1 c hc).1, nest_warm (G.2.2.2.2.2.2.1 c hc).1 hW (G.2.2.2.2.2.2.1 c hc).2⟩, hD.weaken (fun _ _ _ _ => trivial)⟩⟩ rfl rfl hl.1 rfl (lv_room hroom) dd ⟨hcs.1, hcs.2⟩) (fun r hr => k r hr H locs ls hP hD hS hl)
theorem x_call0SN4l (G : xG p s m args c cc nL own Ts NW D cl tys A) {host : String} {y : MethodName} {bytes : ByteArray} {maxL index d : Nat} {ret : Option FieldType} {Tc : List Cond} {a1 a2 a3 a4 : Value} {post : Int64 → Prop} (hM : xCl0 l D cl tys NW ws y Tc d [a1, a2, a3, a4] post) (cw : (va_CN R s args own index y host bytes maxL ret Tc { frames := d, cells := 0, slots := 0, locals := 40 * d } 0 0 4 ∧ (Cond.static y).before args s = true ∧ True)) (dd : decode cc pc = .ok (.invokestatic index, 3)) (hroom : (st.map fun v => v.category).sum ≤ 8) (hcs : cells ≤ R.cells ∧ slots ≤ R.slots) (k : ∀ r : Int64, post r → xJ p l e R s m args below meth c cells slots Q D cl A nL (S) (ws) (vs) (pc + 3) (.long r :: st)) : xJ p l e R s m args below meth c cells slots Q D cl A nL (S) (ws) (vs) (pc) (a4 :: a3 :: a2 :: a1 :: st) := fun H locs ls hP hD hS hl => x_samel (va_runSN (As := [a1, a2, a3, a4]) (rest := st) ⟨G.1, G.2.1, G.2.2.1, G.2.2.2.1, G.2.2.2.2.1⟩ hM cw ⟨fun a U g mk q => by obtain ⟨q0, qP, qK, qN, qD⟩ := q; exact ⟨q0, qP, va_K.moved (u := U) (U := U.calling g mk a) (Vm.Alike.refl U.vm) qK, fun c hc => ⟨(qN c hc).1, nest_same (s := U) (U := U.calling g mk a) (qN c hc).1 rfl (qN c hc).2⟩, qD⟩, fun U hU hW => ⟨rfl, by rw [hU]; exact hP, va_K.moved hW.alike G.2.2.2.2.2.1, fun c hc => ⟨(G.2.2.2.2.2.2.1 c hc).1, nest_warm (G.2.2.2.2.2.2.1 c hc).1 hW (G.2.2.2.2.2.2.1 c hc).2⟩, hD.weaken (fun _ _ _ _ => trivial)⟩⟩ rfl rfl hl.1 rfl (lv_room hroom) dd ⟨hcs.1, hcs.2⟩) (fun r hr => k r hr H locs ls hP hD hS hl)
end XL
end
