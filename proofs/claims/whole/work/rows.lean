section
/-! PURE ROWS: times, sharings, the best of a list, rows in order. No machine here. -/
/-- rounded up -/
def cdv (a b : Nat) : Nat := (a + b - 1) / b
theorem cdv_le {a b : Nat} (hb : 0 < b) : cdv a b ≤ a := by
  unfold cdv
  cases a with
  | zero => rw [Nat.div_eq_of_lt (by omega)]; exact Nat.le_refl 0
  | succ a =>
    have h : a + 1 + b - 1 = a + b := by omega
    rw [h, Nat.add_div_right _ hb]
    have := Nat.div_le_self a b
    omega
theorem cdv_eq {v m : Nat} (hm : 0 < m) : v / m + (if 0 < v % m then 1 else 0) = cdv v m := by
  have h := Nat.div_add_mod v m
  have hlt := Nat.mod_lt v hm
  unfold cdv
  by_cases h0 : 0 < v % m
  · rw [if_pos h0]
    have e : v + m - 1 = m * (v / m + 1) + (v % m - 1) := by rw [Nat.mul_add]; omega
    rw [e, Nat.mul_add_div hm, show (v % m - 1) / m = 0 from Nat.div_eq_of_lt (by omega)]
  · rw [if_neg h0]
    have e : v + m - 1 = m * (v / m) + (m - 1) := by omega
    rw [e, Nat.mul_add_div hm, show (m - 1) / m = 0 from Nat.div_eq_of_lt (by omega)]
theorem cdv_pos {a b : Nat} (ha : 0 < a) (hb : 0 < b) : 0 < cdv a b := by
  unfold cdv
  exact Nat.div_pos (by omega) hb
/-- a crane's first and last bay among the bays below k -/
def fstA (A : Nat → Nat) (c : Nat) : Nat → Option Nat
  | 0 => none
  | k + 1 => match fstA A c k with
    | some b => some b
    | none => if A k = c then some k else none
def lstA (A : Nat → Nat) (c : Nat) : Nat → Option Nat
  | 0 => none
  | k + 1 => if A k = c then some k else lstA A c k
theorem fstA_none {A : Nat → Nat} {c : Nat} : ∀ {k : Nat}, fstA A c k = none ↔ ∀ b, b < k → A b ≠ c
  | 0 => by simp [fstA]
  | k + 1 => by
    have ih := fstA_none (A := A) (c := c) (k := k)
    unfold fstA
    cases hf : fstA A c k with
    | some b =>
      simp only [hf] at ih
      constructor
      · intro h; cases h
      · intro h
        exact absurd (ih.mpr fun b hb => h b (by omega)) (by simp)
    | none =>
      have h0 := ih.mp hf
      by_cases hk : A k = c
      · simp only [if_pos hk]
        constructor
        · intro h; cases h
        · intro h; exact absurd hk (h k (by omega))
      · simp only [if_neg hk, true_iff]
        intro b hb
        rcases (show b < k ∨ b = k by omega) with h | rfl
        · exact h0 b h
        · exact hk
theorem fstA_some {A : Nat → Nat} {c : Nat} : ∀ {k f : Nat}, fstA A c k = some f → f < k ∧ A f = c ∧ ∀ b, b < f → A b ≠ c
  | 0, f, h => by simp [fstA] at h
  | k + 1, f, h => by
    unfold fstA at h
    cases hf : fstA A c k with
    | some b =>
      rw [hf] at h
      cases h
      obtain ⟨h1, h2, h3⟩ := fstA_some hf
      exact ⟨by omega, h2, h3⟩
    | none =>
      rw [hf] at h
      by_cases hk : A k = c
      · simp only [if_pos hk] at h
        cases h
        exact ⟨by omega, hk, fstA_none.mp hf⟩
      · simp [if_neg hk] at h
theorem lstA_none {A : Nat → Nat} {c : Nat} : ∀ {k : Nat}, lstA A c k = none ↔ ∀ b, b < k → A b ≠ c
  | 0 => by simp [lstA]
  | k + 1 => by
    have ih := lstA_none (A := A) (c := c) (k := k)
    unfold lstA
    by_cases hk : A k = c
    · simp only [if_pos hk]
      constructor
      · intro h; cases h
      · intro h; exact absurd hk (h k (by omega))
    · simp only [if_neg hk]
      rw [ih]
      constructor
      · intro h b hb
        rcases (show b < k ∨ b = k by omega) with h1 | rfl
        · exact h b h1
        · exact hk
      · intro h b hb
        exact h b (by omega)
theorem lstA_some {A : Nat → Nat} {c : Nat} : ∀ {k f : Nat}, lstA A c k = some f → f < k ∧ A f = c ∧ ∀ b, f < b → b < k → A b ≠ c
  | 0, f, h => by simp [lstA] at h
  | k + 1, f, h => by
    unfold lstA at h
    by_cases hk : A k = c
    · simp only [if_pos hk] at h
      cases h
      exact ⟨by omega, hk, fun b h1 h2 => by omega⟩
    · simp only [if_neg hk] at h
      obtain ⟨h1, h2, h3⟩ := lstA_some h
      refine ⟨by omega, h2, fun b hb1 hb2 => ?_⟩
      rcases (show b < k ∨ b = k by omega) with q | rfl
      · exact h3 b hb1 q
      · exact hk
/-- when a crane comes to a bay: du its work there, f its first bay, w when the next crane came to a bay -/
def tim (du : Nat → Nat) (f g s : Nat) (w : Nat → Nat) : Nat → Nat
  | 0 => 0
  | b + 1 => if b + 1 ≤ f then 0 else max (tim du f g s w b + du b) (w (b + 2 + g)) + s
theorem tim_low {du : Nat → Nat} {f g s : Nat} {w : Nat → Nat} : ∀ {b : Nat}, b ≤ f → tim du f g s w b = 0
  | 0, _ => rfl
  | b + 1, h => by simp [tim, h]
theorem tim_up {du : Nat → Nat} {f g s : Nat} {w : Nat → Nat} {b : Nat} (h : f ≤ b) : tim du f g s w (b + 1) = max (tim du f g s w b + du b) (w (b + 2 + g)) + s := by
  simp only [tim]
  rw [if_neg (by omega)]
theorem tim_le {du w : Nat → Nat} {f g s K : Nat} (hd : ∀ b, du b ≤ 25000) (hw : ∀ b, w b ≤ 25020 * (b + K)) (hg : g ≤ 3) (hs : s ≤ 20) : ∀ b, tim du f g s w b ≤ 25020 * (b + (K + 5))
  | 0 => by simp [tim]
  | b + 1 => by
    have ih := tim_le (f := f) hd hw hg hs b
    have h1 := hd b
    have h2 := hw (b + 2 + g)
    simp only [tim]
    by_cases hb : b + 1 ≤ f
    · rw [if_pos hb]; omega
    · rw [if_neg hb]
      have h3 : max (tim du f g s w b + du b) (w (b + 2 + g)) ≤ 25020 * (b + (K + 5)) + 25000 := Nat.max_le.mpr ⟨by omega, by omega⟩
      omega
/-- how long a crane works at a bay -/
def tkA (mv mo mi : Nat → Nat) (c b : Nat) : Nat := cdv (mv b * mi c) (mo c)
def duA (A mv mo mi : Nat → Nat) (c b : Nat) : Nat := if A b = c then tkA mv mo mi c b else 0
/-- when the next crane with bays, of the j last ones of four, came to a bay -/
def wtA (A mv mo mi : Nat → Nat) (n g s : Nat) : Nat → Nat → Nat
  | 0 => fun _ => 0
  | j + 1 => match fstA A (3 - j) n with
    | none => wtA A mv mo mi n g s j
    | some f => tim (duA A mv mo mi (3 - j)) f g s (wtA A mv mo mi n g s j)
/-- when crane c comes to bay b -/
def cmA (A mv mo mi : Nat → Nat) (n g s c b : Nat) : Nat := tim (duA A mv mo mi c) ((fstA A c n).getD 0) g s (wtA A mv mo mi n g s (3 - c)) b
theorem tkA_le {mv mo mi : Nat → Nat} {c b : Nat} (h1 : mv b ≤ 250) (h2 : mi c ≤ 100) (h3 : 0 < mo c) : tkA mv mo mi c b ≤ 25000 := by
  have h := cdv_le (a := mv b * mi c) h3
  have h4 : mv b * mi c ≤ 250 * 100 := Nat.mul_le_mul h1 h2
  unfold tkA
  omega
theorem duA_le {A mv mo mi : Nat → Nat} {c : Nat} (h1 : ∀ b, mv b ≤ 250) (h2 : mi c ≤ 100) (h3 : 0 < mo c) (b : Nat) : duA A mv mo mi c b ≤ 25000 := by
  unfold duA
  split
  · exact tkA_le (h1 b) h2 h3
  · omega
theorem wtA_le {A mv mo mi : Nat → Nat} {n g s : Nat} (h1 : ∀ b, mv b ≤ 250) (h2 : ∀ c, c < 4 → mi c ≤ 100) (h3 : ∀ c, c < 4 → 0 < mo c) (hg : g ≤ 3) (hs : s ≤ 20) : ∀ (j : Nat), j ≤ 4 → ∀ b, wtA A mv mo mi n g s j b ≤ 25020 * (b + 5 * j)
  | 0, _, b => by simp [wtA]
  | j + 1, hj, b => by
    have ih := wtA_le (A := A) (n := n) h1 h2 h3 hg hs j (by omega)
    unfold wtA
    cases hf : fstA A (3 - j) n with
    | none =>
      have := ih b
      show wtA A mv mo mi n g s j b ≤ _
      omega
    | some f =>
      have := tim_le (f := f) (K := 5 * j) (duA_le (A := A) h1 (h2 (3 - j) (by omega)) (h3 (3 - j) (by omega))) ih hg hs b
      show tim _ _ _ _ _ b ≤ _
      omega
theorem cmA_le {A mv mo mi : Nat → Nat} {n g s c b : Nat} (h1 : ∀ b, mv b ≤ 250) (h2 : ∀ c, c < 4 → mi c ≤ 100) (h3 : ∀ c, c < 4 → 0 < mo c) (hg : g ≤ 3) (hs : s ≤ 20) (hc : c < 4) (hb : b < 8) : cmA A mv mo mi n g s c b ≤ 675540 := by
  have h := tim_le (f := (fstA A c n).getD 0) (K := 5 * (3 - c)) (duA_le (A := A) h1 (h2 c hc) (h3 c hc)) (wtA_le (A := A) (n := n) h1 h2 h3 hg hs (3 - c) (by omega)) hg hs b
  unfold cmA
  omega
/-- when all work ends: of the bays below k -/
def fiA (A mv mo mi : Nat → Nat) (n g s : Nat) : Nat → Nat
  | 0 => 0
  | k + 1 => if A k < 4 then max (fiA A mv mo mi n g s k) (cmA A mv mo mi n g s (A k) k + tkA mv mo mi (A k) k) else fiA A mv mo mi n g s k
theorem fiA_le {A mv mo mi : Nat → Nat} {n g s : Nat} (h1 : ∀ b, mv b ≤ 250) (h2 : ∀ c, c < 4 → mi c ≤ 100) (h3 : ∀ c, c < 4 → 0 < mo c) (hg : g ≤ 3) (hs : s ≤ 20) : ∀ (k : Nat), k ≤ 8 → fiA A mv mo mi n g s k ≤ 700540
  | 0, _ => by simp [fiA]
  | k + 1, hk => by
    have ih := fiA_le (A := A) (n := n) h1 h2 h3 hg hs k (by omega)
    unfold fiA
    by_cases ha : A k < 4
    · rw [if_pos ha]
      have q1 := cmA_le (A := A) (n := n) h1 h2 h3 hg hs ha (show k < 8 by omega)
      have q2 := tkA_le (mo := mo) (h1 k) (h2 (A k) ha) (h3 (A k) ha)
      exact Nat.max_le.mpr ⟨ih, by omega⟩
    · rw [if_neg ha]; exact ih
/-- the steps of the cranes below k -/
def spA (A : Nat → Nat) (n : Nat) : Nat → Nat
  | 0 => 0
  | c + 1 => spA A n c + ((lstA A c n).getD 0 - (fstA A c n).getD 0)
/-- of the cranes below k: the last one with bays; whether they keep apart -/
def apA (A : Nat → Nat) (n g : Nat) : Nat → Option Nat × Bool
  | 0 => (none, true)
  | c + 1 => match fstA A c n with
    | none => apA A n g c
    | some f => (some c, (apA A n g c).2 && match (apA A n g c).1 with
      | none => true
      | some d => decide ((fstA A d n).getD 0 + g < f) && decide ((lstA A d n).getD 0 + g < (lstA A c n).getD 0))
/-! sharings -/
def lastLt (x : Nat → Nat) (k : Nat) : Nat → Option Nat
  | 0 => none
  | i + 1 => if x i + 1 < k then some i else lastLt x k i
def gDn (xs : List Nat) (i : Nat) : Nat := xs.getD i 0
def nxtL (k : Nat) (xs : List Nat) : Option (List Nat) := (lastLt (gDn xs) k xs.length).map (fun i => (List.range xs.length).map (fun j => if j < i then gDn xs j else gDn xs i + 1))
def enL (k : Nat) : Nat → List Nat → List (List Nat)
  | 0, _ => []
  | f + 1, xs => xs :: (match nxtL k xs with
    | none => []
    | some ys => enL k f ys)
def enE (k : Nat) : Nat → List Nat → Bool
  | 0, _ => false
  | f + 1, xs => match nxtL k xs with
    | none => true
    | some ys => enE k f ys
def zrL (n : Nat) : List Nat := List.replicate n 0
def mskL (m c : Nat) : Bool := m / 2 ^ c % 2 == 0
def ablL (C m : Nat) : List Nat := (List.range C).filter (mskL m)
def chk1 (C n m : Nat) : Bool := (ablL C m).isEmpty || ((enL C 165 (zrL n)).filter (fun xs => xs.all (mskL m)) == (enL (ablL C m).length 165 (zrL n)).map (fun xs => xs.map (gDn (ablL C m))))
def chkA : Bool := (List.range 4).all fun C => (List.range 9).all fun n => (List.range (2 ^ (C + 1))).all fun m => chk1 (C + 1) n m
def chkE : Bool := (List.range 4).all fun C => (List.range 9).all fun n => enE (C + 1) 165 (zrL n)
set_option maxRecDepth 100000 in
theorem chkE_ok : chkE = true := by decide +kernel
set_option maxRecDepth 100000 in
theorem chkA_ok : chkA = true := by decide +kernel
end
section
/-! the best of a list: the first of least finish, then of fewest steps; key none: not allowed -/
def bstS (key : List Nat → Option (Nat × Nat)) (acc : Option (List Nat × Nat × Nat)) (x : List Nat) : Option (List Nat × Nat × Nat) :=
  match key x with
  | none => acc
  | some (f, s) => match acc with
    | none => some (x, f, s)
    | some (y, f', s') => if f < f' ∨ (f = f' ∧ s < s') then some (x, f, s) else some (y, f', s')
def bstL (key : List Nat → Option (Nat × Nat)) (L : List (List Nat)) (acc : Option (List Nat × Nat × Nat)) : Option (List Nat × Nat × Nat) := L.foldl (bstS key) acc
theorem bstL_nil {key : List Nat → Option (Nat × Nat)} {acc : Option (List Nat × Nat × Nat)} : bstL key [] acc = acc := rfl
theorem bstL_cons {key : List Nat → Option (Nat × Nat)} {x : List Nat} {L : List (List Nat)} {acc : Option (List Nat × Nat × Nat)} : bstL key (x :: L) acc = bstL key L (bstS key acc x) := rfl
theorem bstL_filter {key : List Nat → Option (Nat × Nat)} {P : List Nat → Bool} (h : ∀ x, P x = false → key x = none) : ∀ (L : List (List Nat)) (acc : Option (List Nat × Nat × Nat)), bstL key (L.filter P) acc = bstL key L acc
  | [], acc => rfl
  | x :: L, acc => by
    rw [bstL_cons]
    cases hp : P x with
    | true =>
      rw [List.filter_cons_of_pos (by simpa using hp), bstL_cons]
      exact bstL_filter h L _
    | false =>
      rw [List.filter_cons_of_neg (by simp [hp])]
      have e : bstS key acc x = acc := by unfold bstS; rw [h x hp]
      rw [e]
      exact bstL_filter h L _
theorem bstS_map {key : List Nat → Option (Nat × Nat)} {f : List Nat → List Nat} {acc : Option (List Nat × Nat × Nat)} {x : List Nat} : bstS key (acc.map (fun q => (f q.1, q.2))) (f x) = (bstS (fun z => key (f z)) acc x).map (fun q => (f q.1, q.2)) := by
  unfold bstS
  dsimp only
  cases hk : key (f x) with
  | none => rfl
  | some q =>
    obtain ⟨a, b⟩ := q
    cases acc with
    | none => rfl
    | some r =>
      obtain ⟨y, c, d⟩ := r
      simp only [Option.map_some]
      split <;> rfl
theorem bstL_map {key : List Nat → Option (Nat × Nat)} {f : List Nat → List Nat} : ∀ (L : List (List Nat)) (acc : Option (List Nat × Nat × Nat)), bstL key (L.map f) (acc.map (fun q => (f q.1, q.2))) = (bstL (fun z => key (f z)) L acc).map (fun q => (f q.1, q.2))
  | [], acc => rfl
  | x :: L, acc => by
    rw [List.map_cons, bstL_cons, bstL_cons, bstS_map]
    exact bstL_map L _
/-! rows in order -/
def ahd (bg cr : Nat → Nat) (x y : Nat) : Prop := bg x < bg y ∨ (bg x = bg y ∧ cr x < cr y)
theorem ahd_irr {bg cr : Nat → Nat} {x : Nat} : ¬ ahd bg cr x x := by unfold ahd; omega
theorem ahd_tr {bg cr : Nat → Nat} {x y z : Nat} (h1 : ahd bg cr x y) (h2 : ahd bg cr y z) : ahd bg cr x z := by unfold ahd at *; omega
theorem ahd_as {bg cr : Nat → Nat} {x y : Nat} (h1 : ahd bg cr x y) : ¬ ahd bg cr y x := by unfold ahd at *; omega
theorem ins_ok {bg cr : Nat → Nat} {L : List Nat} {k b : Nat} (hs : L.Pairwise (ahd bg cr)) (h1 : ∀ x ∈ L.drop k, ahd bg cr b x) (h2 : ∀ x ∈ L.take k, ahd bg cr x b) : (L.take k ++ b :: L.drop k).Pairwise (ahd bg cr) := by
  have hs' : (L.take k ++ L.drop k).Pairwise (ahd bg cr) := by rw [List.take_append_drop]; exact hs
  obtain ⟨p1, p2, p3⟩ := List.pairwise_append.mp hs'
  refine List.pairwise_append.mpr ⟨p1, List.pairwise_cons.mpr ⟨fun x hx => h1 x hx, p2⟩, fun x hx y hy => ?_⟩
  rcases List.mem_cons.mp hy with rfl | hy
  · exact h2 x hx
  · exact p3 x hx y hy
theorem cnt_sorted {bg cr : Nat → Nat} : ∀ {L : List Nat}, L.Pairwise (ahd bg cr) → ∀ (i : Nat) (h : i < L.length) (q : Nat → Bool), (∀ x, q x = true ↔ ahd bg cr x (L[i])) → L.countP q = i
  | [], _, i, h, _, _ => by simp at h
  | a :: L, hs, 0, h, q, hq => by
    obtain ⟨p1, p2⟩ := List.pairwise_cons.mp hs
    rw [List.countP_eq_zero]
    intro x hx hqx
    have h1 : ahd bg cr x a := (hq x).mp hqx
    rcases List.mem_cons.mp hx with rfl | hx
    · exact ahd_irr h1
    · exact ahd_as (p1 x hx) h1
  | a :: L, hs, i + 1, h, q, hq => by
    obtain ⟨p1, p2⟩ := List.pairwise_cons.mp hs
    have hi : i < L.length := by simpa using h
    have ha : q a = true := (hq a).mpr (p1 _ (List.getElem_mem hi))
    rw [List.countP_cons_of_pos ha, cnt_sorted p2 i hi q hq]
/-! bays with work, and a sharing of them as what each bay has -/
def cntB (bz : Nat → Bool) : Nat → Nat
  | 0 => 0
  | k + 1 => cntB bz k + (if bz k = true then 1 else 0)
def sprB (bz : Nat → Bool) (xs : List Nat) (b : Nat) : Nat := if bz b = true then gDn xs (cntB bz b) else 9
def lastB (bz : Nat → Bool) (x : Nat → Nat) (k : Nat) : Nat → Option Nat
  | 0 => none
  | b + 1 => if bz b = true ∧ x b + 1 < k then some b else lastB bz x k b
theorem cntB_mono {bz : Nat → Bool} {a : Nat} : ∀ {b : Nat}, a ≤ b → cntB bz a ≤ cntB bz b
  | 0, h => by have : a = 0 := by omega
               subst this; exact Nat.le_refl _
  | b + 1, h => by
    rcases (show a ≤ b ∨ a = b + 1 by omega) with h1 | rfl
    · have := cntB_mono (bz := bz) h1
      have e : cntB bz (b + 1) = cntB bz b + (if bz b = true then 1 else 0) := rfl
      rw [e]
      omega
    · exact Nat.le_refl _
theorem cntB_lt {bz : Nat → Bool} {a b : Nat} (ha : bz a = true) : cntB bz a < cntB bz b ↔ a < b := by
  constructor
  · intro h
    rcases Nat.lt_or_ge a b with q | q
    · exact q
    · have := cntB_mono (bz := bz) q
      omega
  · intro h
    have h1 := cntB_mono (bz := bz) (show a + 1 ≤ b from h)
    have h2 : cntB bz (a + 1) = cntB bz a + 1 := by simp [cntB, ha]
    omega
theorem cntB_inj {bz : Nat → Bool} {a b : Nat} (ha : bz a = true) (hb : bz b = true) (h : cntB bz a = cntB bz b) : a = b := by
  rcases Nat.lt_trichotomy a b with q | q | q
  · have := (cntB_lt (b := b) ha).mpr q; omega
  · exact q
  · have := (cntB_lt (b := a) hb).mpr q; omega
theorem cntB_le {bz : Nat → Bool} : ∀ (k : Nat), cntB bz k ≤ k
  | 0 => Nat.le_refl _
  | k + 1 => by
    have := cntB_le (bz := bz) k
    have e : cntB bz (k + 1) = cntB bz k + (if bz k = true then 1 else 0) := rfl
    rw [e]
    split <;> omega
theorem cntB_has {bz : Nat → Bool} : ∀ {n i : Nat}, i < cntB bz n → ∃ b, b < n ∧ bz b = true ∧ cntB bz b = i
  | 0, i, h => by simp [cntB] at h
  | n + 1, i, h => by
    unfold cntB at h
    rcases Nat.lt_or_ge i (cntB bz n) with q | q
    · obtain ⟨b, h1, h2, h3⟩ := cntB_has q
      exact ⟨b, by omega, h2, h3⟩
    · by_cases hb : bz n = true
      · rw [if_pos hb] at h
        exact ⟨n, by omega, hb, by omega⟩
      · rw [if_neg hb] at h
        omega
theorem lastB_eq {bz : Nat → Bool} {xs : List Nat} {k : Nat} : ∀ (b : Nat), lastLt (gDn xs) k (cntB bz b) = (lastB bz (sprB bz xs) k b).map (cntB bz)
  | 0 => rfl
  | b + 1 => by
    have ih := lastB_eq (bz := bz) (xs := xs) (k := k) b
    by_cases hb : bz b = true
    · have e : cntB bz (b + 1) = cntB bz b + 1 := by simp [cntB, hb]
      have e2 : sprB bz xs b = gDn xs (cntB bz b) := by simp [sprB, hb]
      rw [e]
      unfold lastLt lastB
      rw [e2]
      by_cases hx : gDn xs (cntB bz b) + 1 < k
      · rw [if_pos hx, if_pos ⟨hb, hx⟩]; rfl
      · rw [if_neg hx, if_neg (fun q => hx q.2)]; exact ih
    · have e : cntB bz (b + 1) = cntB bz b := by simp [cntB, hb]
      rw [e]
      unfold lastB
      rw [if_neg (fun q => hb q.1)]
      exact ih
theorem lastB_some {bz : Nat → Bool} {x : Nat → Nat} {k : Nat} : ∀ {n b : Nat}, lastB bz x k n = some b → b < n ∧ bz b = true ∧ x b + 1 < k
  | 0, b, h => by simp [lastB] at h
  | n + 1, b, h => by
    unfold lastB at h
    by_cases hq : bz n = true ∧ x n + 1 < k
    · rw [if_pos hq] at h
      cases h
      exact ⟨by omega, hq.1, hq.2⟩
    · rw [if_neg hq] at h
      obtain ⟨h1, h2, h3⟩ := lastB_some h
      exact ⟨by omega, h2, h3⟩
theorem gDn_map {n i : Nat} {f : Nat → Nat} (h : i < n) : gDn ((List.range n).map f) i = f i := by
  unfold gDn
  simp [List.getD_eq_getElem?_getD, h]
theorem nxtL_none {bz : Nat → Bool} {xs : List Nat} {k n : Nat} (hn : xs.length = cntB bz n) (h : lastB bz (sprB bz xs) k n = none) : nxtL k xs = none := by
  unfold nxtL
  rw [hn, lastB_eq, h]; rfl
theorem nxtL_some {bz : Nat → Bool} {xs : List Nat} {k n b0 : Nat} (hn : xs.length = cntB bz n) (h : lastB bz (sprB bz xs) k n = some b0) :
    ∃ ys, nxtL k xs = some ys ∧ ys.length = xs.length ∧ ∀ b, b < n → sprB bz ys b = if bz b = true then (if b < b0 then sprB bz xs b else sprB bz xs b0 + 1) else 9 := by
  obtain ⟨h1, h2, h3⟩ := lastB_some h
  refine ⟨(List.range xs.length).map (fun j => if j < cntB bz b0 then gDn xs j else gDn xs (cntB bz b0) + 1), ?_, by simp, fun b hb => ?_⟩
  · unfold nxtL
    rw [hn, lastB_eq, h]; rfl
  · by_cases hz : bz b = true
    · have hlt : cntB bz b < xs.length := by rw [hn]; exact (cntB_lt hz).mpr hb
      rw [if_pos hz]
      unfold sprB
      rw [if_pos hz, gDn_map hlt, if_pos h2]
      by_cases hq : b < b0
      · rw [if_pos hq, if_pos ((cntB_lt hz).mpr hq), if_pos hz]
      · rw [if_neg hq, if_neg (fun q => hq ((cntB_lt hz).mp q))]
    · rw [if_neg hz]
      unfold sprB
      rw [if_neg hz]
end
section
/-! one more bay is given; the sharings of the able cranes among all -/
theorem fstA_is {A : Nat → Nat} {c k f : Nat} (h1 : f < k) (h2 : A f = c) (h3 : ∀ b, b < f → A b ≠ c) : fstA A c k = some f := by
  cases h : fstA A c k with
  | none => exact absurd h2 (fstA_none.mp h f h1)
  | some g =>
    obtain ⟨q1, q2, q3⟩ := fstA_some h
    rcases Nat.lt_trichotomy f g with q | q | q
    · exact absurd h2 (q3 f q)
    · rw [q]
    · exact absurd q2 (h3 g q)
theorem lstA_is {A : Nat → Nat} {c k f : Nat} (h1 : f < k) (h2 : A f = c) (h3 : ∀ b, f < b → b < k → A b ≠ c) : lstA A c k = some f := by
  cases h : lstA A c k with
  | none => exact absurd h2 (lstA_none.mp h f h1)
  | some g =>
    obtain ⟨q1, q2, q3⟩ := lstA_some h
    rcases Nat.lt_trichotomy f g with q | q | q
    · exact absurd q2 (h3 g q q1)
    · rw [q]
    · exact absurd h2 (q3 f q h1)
theorem fstA_congr {A B : Nat → Nat} {c : Nat} : ∀ {k : Nat}, (∀ b, b < k → A b = B b) → fstA A c k = fstA B c k
  | 0, _ => rfl
  | k + 1, h => by
    unfold fstA
    rw [fstA_congr (k := k) (fun b hb => h b (by omega)), h k (by omega)]
theorem lstA_congr {A B : Nat → Nat} {c : Nat} : ∀ {k : Nat}, (∀ b, b < k → A b = B b) → lstA A c k = lstA B c k
  | 0, _ => rfl
  | k + 1, h => by
    unfold lstA
    rw [lstA_congr (k := k) (fun b hb => h b (by omega)), h k (by omega)]
theorem lst_of_fst {A : Nat → Nat} {c k f : Nat} (h : fstA A c k = some f) : ∃ l, lstA A c k = some l ∧ f ≤ l ∧ l < k ∧ A l = c := by
  obtain ⟨h1, h2, h3⟩ := fstA_some h
  cases hl : lstA A c k with
  | none => exact absurd h2 (lstA_none.mp hl f h1)
  | some l =>
    obtain ⟨q1, q2, q3⟩ := lstA_some hl
    refine ⟨l, rfl, ?_, q1, q2⟩
    rcases Nat.lt_or_ge l f with q | q
    · exact absurd q2 (h3 l q)
    · exact q
theorem lst_none_fst {A : Nat → Nat} {c k : Nat} (h : fstA A c k = none) : lstA A c k = none := lstA_none.mpr (fstA_none.mp h)
def upA (A : Nat → Nat) (b c : Nat) : Nat → Nat := fun x => if x = b then c else A x
theorem fstA_up {A : Nat → Nat} {b c k : Nat} (hA : ∀ x, b ≤ x → 4 ≤ A x) (hb : b < k) (hc : c < 4) : fstA (upA A b c) c k = some ((fstA A c k).getD b) := by
  cases h : fstA A c k with
  | none =>
    show _ = some b
    refine fstA_is hb (by simp [upA]) (fun x hx => ?_)
    have := fstA_none.mp h x (by omega)
    simp [upA, show x ≠ b by omega, this]
  | some f =>
    obtain ⟨q1, q2, q3⟩ := fstA_some h
    have hfb : f < b := by
      rcases Nat.lt_or_ge f b with q | q
      · exact q
      · have := hA f q; omega
    show _ = some f
    refine fstA_is q1 (by simp [upA, show f ≠ b by omega, q2]) (fun x hx => ?_)
    simp [upA, show x ≠ b by omega, q3 x hx]
theorem fstA_up' {A : Nat → Nat} {b c d k : Nat} (hd : d ≠ c) (hA : 4 ≤ A b) (hd4 : d < 4) : fstA (upA A b c) d k = fstA A d k := by
  cases h : fstA A d k with
  | none =>
    refine fstA_none.mpr (fun x hx => ?_)
    have := fstA_none.mp h x hx
    by_cases hx : x = b
    · simp [upA, hx]; omega
    · simp [upA, hx, this]
  | some f =>
    obtain ⟨q1, q2, q3⟩ := fstA_some h
    have hfb : f ≠ b := fun q => by rw [q] at q2; omega
    refine fstA_is q1 (by simp [upA, hfb, q2]) (fun x hx => ?_)
    by_cases hx : x = b
    · simp [upA, hx]; omega
    · simp [upA, hx, q3 x (by assumption)]
theorem lstA_up {A : Nat → Nat} {b c k : Nat} (hA : ∀ x, b ≤ x → 4 ≤ A x) (hb : b < k) (hc : c < 4) : lstA (upA A b c) c k = some b := by
  refine lstA_is hb (by simp [upA]) (fun x hx _ => ?_)
  have := hA x (by omega)
  simp [upA, show x ≠ b by omega]
  omega
theorem lstA_up' {A : Nat → Nat} {b c d k : Nat} (hd : d ≠ c) (hA : 4 ≤ A b) (hd4 : d < 4) : lstA (upA A b c) d k = lstA A d k := by
  cases h : lstA A d k with
  | none =>
    refine lstA_none.mpr (fun x hx => ?_)
    have := lstA_none.mp h x hx
    by_cases hx : x = b
    · simp [upA, hx]; omega
    · simp [upA, hx, this]
  | some f =>
    obtain ⟨q1, q2, q3⟩ := lstA_some h
    have hfb : f ≠ b := fun q => by rw [q] at q2; omega
    refine lstA_is q1 (by simp [upA, hfb, q2]) (fun x hx1 hx2 => ?_)
    by_cases hx : x = b
    · simp [upA, hx]; omega
    · simp [upA, hx, q3 x hx1 hx2]
theorem spA_up {A : Nat → Nat} {b c n : Nat} (hA : ∀ x, b ≤ x → 4 ≤ A x) (hb : b < n) (hc : c < 4) : ∀ {k : Nat}, k ≤ 4 → spA (upA A b c) n k = spA A n k + (if c < k then b - (lstA A c n).getD b else 0)
  | 0, _ => by simp [spA]
  | k + 1, hk => by
    have ih := spA_up hA hb hc (k := k) (by omega)
    unfold spA
    rw [ih]
    by_cases hck : c = k
    · subst hck
      rw [if_neg (by omega), if_pos (by omega), lstA_up hA hb hc, fstA_up hA hb hc]
      cases h : fstA A c n with
      | none =>
        rw [lst_none_fst h]
        simp
      | some f =>
        obtain ⟨l, h1, h2, h3, h4⟩ := lst_of_fst h
        rw [h1]
        have hlb : l < b := by
          rcases Nat.lt_or_ge l b with q | q
          · exact q
          · have := hA l q; omega
        simp only [Option.getD_some]
        omega
    · rw [lstA_up' (fun q => hck q.symm) (hA b (Nat.le_refl b)) (by omega), fstA_up' (fun q => hck q.symm) (hA b (Nat.le_refl b)) (by omega)]
      by_cases h1 : c < k
      · rw [if_pos h1, if_pos (by omega)]; omega
      · rw [if_neg h1, if_neg (by omega), Nat.add_zero, Nat.add_zero]
/-- the first i bays with work are given -/
def prA (bz : Nat → Bool) (xs : List Nat) (i b : Nat) : Nat := if bz b = true ∧ cntB bz b < i then gDn xs (cntB bz b) else 9
theorem prA_0 {bz : Nat → Bool} {xs : List Nat} : prA bz xs 0 = fun _ => 9 := by
  funext b; simp [prA]
theorem prA_succ {bz : Nat → Bool} {xs : List Nat} {i b : Nat} (hz : bz b = true) (hi : cntB bz b = i) : prA bz xs (i + 1) = upA (prA bz xs i) b (gDn xs i) := by
  funext x
  unfold upA
  dsimp only [prA]
  by_cases hx : x = b
  · subst hx
    rw [if_pos rfl, if_pos ⟨hz, by omega⟩, hi]
  · rw [if_neg hx]
    by_cases hzx : bz x = true
    · have hne : cntB bz x ≠ i := fun q => hx (cntB_inj hzx hz (by omega))
      by_cases hlt : cntB bz x < i
      · rw [if_pos ⟨hzx, by omega⟩, if_pos ⟨hzx, hlt⟩]
      · rw [if_neg (fun q => hlt (by omega)), if_neg (fun q => hlt q.2)]
    · rw [if_neg (fun q => hzx q.1), if_neg (fun q => hzx q.1)]
theorem prA_above {bz : Nat → Bool} {xs : List Nat} {i b : Nat} (hz : bz b = true) (hi : cntB bz b = i) : ∀ x, b ≤ x → 4 ≤ prA bz xs i x := by
  intro x hx
  unfold prA
  have := cntB_mono (bz := bz) hx
  rw [if_neg (fun q => by omega)]
  omega
theorem prA_all {bz : Nat → Bool} {xs : List Nat} {n b : Nat} (h : ∀ x, bz x = true → x < n) : prA bz xs (cntB bz n) b = sprB bz xs b := by
  unfold prA sprB
  by_cases hz : bz b = true
  · rw [if_pos hz, if_pos ⟨hz, (cntB_lt hz).mpr (h b hz)⟩]
  · rw [if_neg hz, if_neg (fun q => hz q.1)]
theorem bstL_congr {key key' : List Nat → Option (Nat × Nat)} : ∀ {L : List (List Nat)} {acc : Option (List Nat × Nat × Nat)}, (∀ x ∈ L, key x = key' x) → bstL key L acc = bstL key' L acc
  | [], _, _ => rfl
  | x :: L, acc, h => by
    have e : bstS key acc x = bstS key' acc x := by unfold bstS; rw [h x List.mem_cons_self]
    rw [bstL_cons, bstL_cons, e]
    exact bstL_congr (fun y hy => h y (List.mem_cons_of_mem _ hy))
theorem chk_of {C n m : Nat} (h1 : 1 ≤ C) (h4 : C ≤ 4) (hn : n ≤ 8) (hm : m < 2 ^ C) (hab : (ablL C m).isEmpty = false) : (enL C 165 (zrL n)).filter (fun xs => xs.all (mskL m)) = (enL (ablL C m).length 165 (zrL n)).map (fun xs => xs.map (gDn (ablL C m))) := by
  have h := chkA_ok
  unfold chkA at h
  rw [List.all_eq_true] at h
  have q1 := h (C - 1) (List.mem_range.mpr (by omega))
  rw [List.all_eq_true] at q1
  have q2 := q1 n (List.mem_range.mpr (by omega))
  rw [List.all_eq_true] at q2
  have e : C - 1 + 1 = C := by omega
  rw [e] at q2
  have q3 := q2 m (List.mem_range.mpr hm)
  unfold chk1 at q3
  rw [hab, Bool.false_or] at q3
  exact eq_of_beq q3
theorem end_of {C n : Nat} (h1 : 1 ≤ C) (h4 : C ≤ 4) (hn : n ≤ 8) : enE C 165 (zrL n) = true := by
  have h := chkE_ok
  unfold chkE at h
  rw [List.all_eq_true] at h
  have q1 := h (C - 1) (List.mem_range.mpr (by omega))
  rw [List.all_eq_true] at q1
  have q2 := q1 n (List.mem_range.mpr (by omega))
  have e : C - 1 + 1 = C := by omega
  rw [e] at q2
  exact q2
/-- the able cranes' best sharing is the best of all cranes' sharings, those with a crane that is out left aside -/
theorem best_same {keyA : List Nat → Option (Nat × Nat)} {C n m : Nat} (h1 : 1 ≤ C) (h4 : C ≤ 4) (hn : n ≤ 8) (hm : m < 2 ^ C) (hab : (ablL C m).isEmpty = false) :
    bstL (fun xs => if xs.all (mskL m) = true then keyA xs else none) (enL C 165 (zrL n)) none = (bstL (fun xs => keyA (xs.map (gDn (ablL C m)))) (enL (ablL C m).length 165 (zrL n)) none).map (fun q => (q.1.map (gDn (ablL C m)), q.2)) := by
  have h := chk_of h1 h4 hn hm hab
  rw [← bstL_filter (P := fun xs => xs.all (mskL m)) (fun x hx => by simp [hx]), h]
  have e := bstL_map (key := fun xs => if xs.all (mskL m) = true then keyA xs else none) (f := fun xs => xs.map (gDn (ablL C m))) (enL (ablL C m).length 165 (zrL n)) none
  rw [show (none : Option (List Nat × Nat × Nat)).map (fun q => (q.1.map (gDn (ablL C m)), q.2)) = none from rfl] at e
  rw [e]
  congr 1
  refine bstL_congr (fun x hx => ?_)
  have hmem : x.map (gDn (ablL C m)) ∈ (enL C 165 (zrL n)).filter (fun xs => xs.all (mskL m)) := by
    rw [h]; exact List.mem_map.mpr ⟨x, hx, rfl⟩
  have := (List.mem_filter.mp hmem).2
  simp only [this, if_true]
/-! the work done by a time -/
theorem cdv_lt {x v m : Nat} (hm : 0 < m) (h : x < cdv v m) : x * m < v := by
  unfold cdv at h
  have h1 : x + 1 ≤ (v + m - 1) / m := h
  have h2 := (Nat.le_div_iff_mul_le hm).mp h1
  rw [Nat.add_mul] at h2
  omega
theorem done_le {t a mo mi : Nat} (hm : 0 < mo) (hi : 0 < mi) (h : t < cdv (a * mi) mo) : t * mo / mi ≤ a := by
  have h1 := cdv_lt hm h
  have h2 : t * mo / mi ≤ a * mi / mi := Nat.div_le_div_right (Nat.le_of_lt h1)
  rw [Nat.mul_div_cancel _ hi] at h2
  exact h2
end
section
/-! the greatest of some numbers, one more of them -/
def fiG (P : Nat → Bool) (E : Nat → Nat) : Nat → Nat
  | 0 => 0
  | k + 1 => if P k = true then max (fiG P E k) (E k) else fiG P E k
theorem fiG_congr {P P' : Nat → Bool} {E E' : Nat → Nat} : ∀ {k : Nat}, (∀ b, b < k → P b = P' b) → (∀ b, b < k → P b = true → E b = E' b) → fiG P E k = fiG P' E' k
  | 0, _, _ => rfl
  | k + 1, h1, h2 => by
    have ih := fiG_congr (P := P) (P' := P') (E := E) (E' := E') (k := k) (fun b hb => h1 b (by omega)) (fun b hb => h2 b (by omega))
    unfold fiG
    rw [ih, h1 k (by omega)]
    by_cases hp : P' k = true
    · rw [if_pos hp, if_pos hp, h2 k (by omega) (by rw [h1 k (by omega)]; exact hp)]
    · rw [if_neg hp, if_neg hp]
theorem fiG_add {P : Nat → Bool} {E : Nat → Nat} {b0 : Nat} : ∀ {k : Nat}, fiG (fun b => P b || b == b0) E k = if b0 < k then max (fiG P E k) (E b0) else fiG P E k
  | 0 => by simp [fiG]
  | k + 1 => by
    have ih := fiG_add (P := P) (E := E) (b0 := b0) (k := k)
    unfold fiG
    rw [ih]
    by_cases hk : k = b0
    · subst hk
      have e : (P k || k == k) = true := by simp
      rw [if_pos e, if_neg (Nat.lt_irrefl k), if_pos (Nat.lt_succ_self k)]
      by_cases hp : P k = true
      · rw [if_pos hp]; omega
      · rw [if_neg hp]
    · have e : (P k || k == b0) = P k := by simp [hk]
      rw [e]
      by_cases hb : b0 < k
      · have hb1 : b0 < k + 1 := by omega
        rw [if_pos hb, if_pos hb1]
        by_cases hp : P k = true
        · rw [if_pos hp, if_pos hp]; omega
        · rw [if_neg hp, if_neg hp]
      · have hb1 : ¬ b0 < k + 1 := by omega
        rw [if_neg hb, if_neg hb1]
theorem fiG_le {P : Nat → Bool} {E : Nat → Nat} {M : Nat} : ∀ {k : Nat}, (∀ b, b < k → P b = true → E b ≤ M) → fiG P E k ≤ M
  | 0, _ => Nat.zero_le _
  | k + 1, h => by
    have ih := fiG_le (P := P) (E := E) (M := M) (k := k) (fun b hb => h b (by omega))
    unfold fiG
    by_cases hp : P k = true
    · rw [if_pos hp]; exact Nat.max_le.mpr ⟨ih, h k (by omega) hp⟩
    · rw [if_neg hp]; exact ih
/-! all cranes' rates together: the class adds fractions, the reference multiplies all minutes first -/
def prM (ab : Nat → Bool) (mi : Nat → Nat) : Nat → Nat
  | 0 => 1
  | c + 1 => if ab c = true then prM ab mi c * mi c else prM ab mi c
def abv (ab : Nat → Bool) (mo mi : Nat → Nat) : Nat → Nat
  | 0 => 0
  | c + 1 => if ab c = true then abv ab mo mi c * mi c + mo c * prM ab mi c else abv ab mo mi c
def ratS (ab : Nat → Bool) (mo mi : Nat → Nat) (P : Nat) : Nat → Nat
  | 0 => 0
  | c + 1 => ratS ab mo mi P c + (if ab c = true then P / mi c * mo c else 0)
theorem prM_pos {ab : Nat → Bool} {mi : Nat → Nat} (h : ∀ c, 0 < mi c) : ∀ c, 0 < prM ab mi c
  | 0 => by simp [prM]
  | c + 1 => by
    unfold prM
    split
    · exact Nat.mul_pos (prM_pos h c) (h c)
    · exact prM_pos h c
theorem rat_same {ab : Nat → Bool} {mo mi : Nat → Nat} (h : ∀ c, 0 < mi c) {P : Nat} : ∀ (c q : Nat), P = prM ab mi c * q → abv ab mo mi c * q = ratS ab mo mi P c
  | 0, q, _ => by simp [abv, ratS]
  | c + 1, q, hP => by
    unfold abv ratS
    by_cases ha : ab c = true
    · have e : prM ab mi (c + 1) = prM ab mi c * mi c := by simp [prM, ha]
      rw [e] at hP
      have ih := rat_same (ab := ab) (mo := mo) (P := P) h c (mi c * q) (by rw [hP, Nat.mul_assoc])
      rw [if_pos ha, if_pos ha, ← ih]
      have hd : P / mi c = prM ab mi c * q := by
        rw [hP, Nat.mul_right_comm]
        exact Nat.mul_div_cancel _ (h c)
      rw [hd, Nat.add_mul, Nat.mul_assoc, Nat.mul_assoc, Nat.mul_comm (mo c)]
    · have e : prM ab mi (c + 1) = prM ab mi c := by simp [prM, ha]
      rw [e] at hP
      rw [if_neg ha, if_neg ha, Nat.add_zero]
      exact rat_same h c q hP
theorem rat_eq {ab : Nat → Bool} {mo mi : Nat → Nat} (h : ∀ c, 0 < mi c) (c : Nat) : ratS ab mo mi (prM ab mi c) c = abv ab mo mi c := by
  have := rat_same (mo := mo) h c 1 (by rw [Nat.mul_one] : prM ab mi c = prM ab mi c * 1)
  rw [Nat.mul_one] at this
  exact this.symm
theorem prM_le {ab : Nat → Bool} {mi : Nat → Nat} (h : ∀ c, mi c ≤ 100) : ∀ c, prM ab mi c ≤ 100 ^ c
  | 0 => by simp [prM]
  | c + 1 => by
    have ih := prM_le (ab := ab) h c
    unfold prM
    rw [Nat.pow_succ]
    split
    · exact Nat.mul_le_mul ih (h c)
    · omega
theorem abv_le {ab : Nat → Bool} {mo mi : Nat → Nat} (h : ∀ c, mi c ≤ 100) (ho : ∀ c, mo c ≤ 100) : ∀ c, abv ab mo mi c ≤ c * 100 ^ c
  | 0 => by simp [abv]
  | c + 1 => by
    have ih := abv_le (ab := ab) h ho c
    have hp := prM_le (ab := ab) h c
    have h1 : abv ab mo mi c * mi c ≤ c * 100 ^ c * 100 := Nat.mul_le_mul ih (h c)
    have h2 : mo c * prM ab mi c ≤ 100 * 100 ^ c := Nat.mul_le_mul (ho c) hp
    have e : (c + 1) * 100 ^ (c + 1) = c * 100 ^ c * 100 + 100 * 100 ^ c := by
      rw [Nat.pow_succ, Nat.add_mul, Nat.mul_assoc, Nat.one_mul, Nat.mul_comm (100 ^ c) 100, Nat.mul_comm 100 (100 ^ c)]
    unfold abv
    rw [e]
    split
    · omega
    · have : c * 100 ^ c ≤ c * 100 ^ c * 100 := Nat.le_mul_of_pos_right _ (by omega)
      omega
end
section
/-! ONE JUDGEMENT FOR A WALK IN A WHOLE WORLD. X .. ws vs pc st: with the world ws, the locals vs (.null: nothing known), at pc with the stack st. -/
abbrev xSg : Type := Nat → Nat → Int32
def sst (σ : xSg) (q i : Nat) (v : Int32) : xSg := fun a j => if a = q ∧ j = i then v else σ a j
theorem sst_same {σ : xSg} {q i : Nat} {v : Int32} : sst σ q i v q i = v := by simp [sst]
theorem sst_q {σ : xSg} {q i a j : Nat} {v : Int32} (h : a ≠ q) : sst σ q i v a j = σ a j := by simp [sst, h]
theorem sst_i {σ : xSg} {q i a j : Nat} {v : Int32} (h : j ≠ i) : sst σ q i v a j = σ a j := by simp [sst, h]
def xLV (ls : Array Slot) (nL : Nat) (vs : List Value) : Prop := ls.size = nL ∧ lv_wf ls ∧ ∀ (i : Nat) (v : Value), vs[i]? = some v → v ≠ .null → ls[i]? = some (.val v)
def asP (vs : List Value) (j : Nat) : Option (Nat × Value) := match vs[j]? with
  | none => none
  | some .null => none
  | some v => some (j, v)
def asL (vs : List Value) : List (Nat × Value) := (List.range vs.length).filterMap (asP vs)
theorem asP_some {vs : List Value} {j : Nat} {q : Nat × Value} : asP vs j = some q ↔ q.1 = j ∧ vs[j]? = some q.2 ∧ q.2 ≠ .null := by
  obtain ⟨a, b⟩ := q
  cases h : vs[j]? with
  | none =>
    have e : asP vs j = none := by unfold asP; rw [h]
    rw [e]; simp
  | some v =>
    by_cases hv : v = .null
    · subst hv
      have e : asP vs j = none := by unfold asP; rw [h]
      rw [e]
      constructor
      · intro h1; cases h1
      · rintro ⟨-, h2, h3⟩; exact absurd (Option.some.inj h2).symm h3
    · have e : asP vs j = some (j, v) := by
        unfold asP; rw [h]
        cases v <;> first | rfl | exact absurd rfl hv
      rw [e]
      constructor
      · intro h1; cases h1; exact ⟨rfl, rfl, hv⟩
      · rintro ⟨h1, h2, -⟩
        cases h2
        have h1 : a = j := h1
        rw [h1]
theorem asL_mem {vs : List Value} {j : Nat} {v : Value} : (j, v) ∈ asL vs ↔ vs[j]? = some v ∧ v ≠ .null := by
  unfold asL
  rw [List.mem_filterMap]
  constructor
  · rintro ⟨a, -, h⟩
    obtain ⟨h1, h2, h3⟩ := asP_some.mp h
    cases h1
    exact ⟨h2, h3⟩
  · rintro ⟨h1, h2⟩
    exact ⟨j, List.mem_range.mpr (List.getElem?_eq_some_iff.mp h1).1, asP_some.mpr ⟨rfl, h1, h2⟩⟩
theorem xLV.has {ls : Array Slot} {nL : Nat} {vs : List Value} (h : xLV ls nL vs) : lv_has ls nL (asL vs) := ⟨h.1, h.2.1, fun q hq => h.2.2 q.1 q.2 (asL_mem.mp hq).1 (asL_mem.mp hq).2⟩
theorem xLV.of {ls : Array Slot} {nL : Nat} {vs : List Value} (h : lv_has ls nL (asL vs)) : xLV ls nL vs := ⟨h.1, h.2.1, fun i v h1 h2 => h.2.2 (i, v) (asL_mem.mpr ⟨h1, h2⟩)⟩
def lkill (vs : List Value) : Nat → List Value
  | 0 => vs
  | i + 1 => match vs[i]? with
    | some (.long _) => vs.set i .null
    | some (.double _) => vs.set i .null
    | _ => vs
def lset (vs : List Value) (i : Nat) (v : Value) : List Value := (lkill vs i).set i v
def lset2 (vs : List Value) (i : Nat) (v : Value) : List Value := ((lkill vs i).set i v).set (i + 1) .null
theorem lkill_spec {vs : List Value} {j : Nat} {v : Value} (hv : v ≠ .null) : ∀ {i : Nat}, (lkill vs i)[j]? = some v → vs[j]? = some v ∧ ¬ (j + 1 = i ∧ v.category = 2)
  | 0, h => ⟨h, fun q => by omega⟩
  | i + 1, h => by
    have key : ∀ (x : Value), (vs.set i .null)[j]? = some v → vs[j]? = some v ∧ ¬ (j + 1 = i + 1 ∧ v.category = 2) := by
      intro x hx
      by_cases hj : j = i
      · subst hj
        rw [List.getElem?_set_self'] at hx
        cases hy : vs[j]? with
        | none => rw [hy] at hx; cases hx
        | some y => rw [hy] at hx; cases hx; exact absurd rfl hv
      · rw [List.getElem?_set_ne (fun q => hj q.symm)] at hx
        exact ⟨hx, fun q => hj (by omega)⟩
    have h : (match vs[i]? with
      | some (.long _) => vs.set i .null
      | some (.double _) => vs.set i .null
      | _ => vs)[j]? = some v := h
    cases hi : vs[i]? with
    | none =>
      rw [hi] at h
      refine ⟨h, fun q => ?_⟩
      have : j = i := by omega
      subst this
      rw [hi] at h; cases h
    | some y =>
      rw [hi] at h
      cases y with
      | long z => exact key .null h
      | double z => exact key .null h
      | int z => exact ⟨h, fun q => by have : j = i := by omega
                                       subst this
                                       rw [hi] at h; cases h; exact absurd q.2 (by simp [Value.category])⟩
      | float z => exact ⟨h, fun q => by have : j = i := by omega
                                         subst this
                                         rw [hi] at h; cases h; exact absurd q.2 (by simp [Value.category])⟩
      | ref z => exact ⟨h, fun q => by have : j = i := by omega
                                       subst this
                                       rw [hi] at h; cases h; exact absurd q.2 (by simp [Value.category])⟩
      | retAddr z => exact ⟨h, fun q => by have : j = i := by omega
                                           subst this
                                           rw [hi] at h; cases h; exact absurd q.2 (by simp [Value.category])⟩
      | null => exact ⟨h, fun q => by have : j = i := by omega
                                      subst this
                                      rw [hi] at h; cases h; exact absurd q.2 (by simp [Value.category])⟩
theorem lset_of {ls : Array Slot} {nL : Nat} {vs : List Value} {i : Nat} {v : Value} (h : lv_has ls nL ((i, v) :: (asL vs).filter (fun q => !(q.1 == i) && !(q.1 + 1 == i && q.2.category == 2)))) : xLV ls nL (lset vs i v) := by
  refine ⟨h.1, h.2.1, fun j x hj hx => ?_⟩
  unfold lset at hj
  by_cases hji : j = i
  · subst hji
    have e : x = v := by
      rw [List.getElem?_set_self'] at hj
      cases hy : (lkill vs j)[j]? with
      | none => rw [hy] at hj; cases hj
      | some y => rw [hy] at hj; cases hj; rfl
    subst e
    exact h.2.2 (j, x) List.mem_cons_self
  · rw [List.getElem?_set_ne (fun q => hji q.symm)] at hj
    obtain ⟨h1, h2⟩ := lkill_spec hx hj
    refine h.2.2 (j, x) (List.mem_cons_of_mem _ (List.mem_filter.mpr ⟨asL_mem.mpr ⟨h1, hx⟩, ?_⟩))
    simp only [Bool.and_eq_true, Bool.not_eq_true', beq_eq_false_iff_ne, ne_eq, Bool.and_eq_false_iff]
    refine ⟨hji, ?_⟩
    by_cases hq : j + 1 = i
    · exact Or.inr (fun q => h2 ⟨hq, q⟩)
    · exact Or.inl hq
theorem lset2_of {ls : Array Slot} {nL : Nat} {vs : List Value} {i : Nat} {v : Value} (h : lv_has ls nL ((i, v) :: (asL vs).filter (fun q => !(q.1 == i) && (!(q.1 == i + 1) && !(q.1 + 1 == i && q.2.category == 2))))) : xLV ls nL (lset2 vs i v) := by
  refine ⟨h.1, h.2.1, fun j x hj hx => ?_⟩
  unfold lset2 at hj
  by_cases hj1 : j = i + 1
  · subst hj1
    rw [List.getElem?_set_self'] at hj
    cases hy : ((lkill vs i).set i v)[i + 1]? with
    | none => rw [hy] at hj; cases hj
    | some y => rw [hy] at hj; cases hj; exact absurd rfl hx
  rw [List.getElem?_set_ne (fun q => hj1 q.symm)] at hj
  by_cases hji : j = i
  · subst hji
    have e : x = v := by
      rw [List.getElem?_set_self'] at hj
      cases hy : (lkill vs j)[j]? with
      | none => rw [hy] at hj; cases hj
      | some y => rw [hy] at hj; cases hj; rfl
    subst e
    exact h.2.2 (j, x) List.mem_cons_self
  · rw [List.getElem?_set_ne (fun q => hji q.symm)] at hj
    obtain ⟨h1, h2⟩ := lkill_spec hx hj
    refine h.2.2 (j, x) (List.mem_cons_of_mem _ (List.mem_filter.mpr ⟨asL_mem.mpr ⟨h1, hx⟩, ?_⟩))
    simp only [Bool.and_eq_true, Bool.not_eq_true', beq_eq_false_iff_ne, ne_eq, Bool.and_eq_false_iff]
    refine ⟨hji, hj1, ?_⟩
    by_cases hq : j + 1 = i
    · exact Or.inr (fun q => h2 ⟨hq, q⟩)
    · exact Or.inl hq
def isNest : Cond → Bool
  | .fieldLinkNest .. => true
  | .methodLinkNest .. => true
  | _ => false
theorem nest_warm {c : Cond} (h : isNest c = true) {s U : State} (hW : s.WarmedH U.vm) (hZ : va_Nw c s) : va_Nw c U := by
  cases c <;> first | exact va_Nw.warmF hW hZ | exact va_Nw.warmM hW hZ | (simp [isNest] at h)
theorem nest_same {c : Cond} (h : isNest c = true) {s U : State} (hW : s.vm = U.vm) (hZ : va_Nw c s) : va_Nw c U := by
  cases c <;> first | exact va_Nw.same rfl hW hZ | (simp [isNest] at h)
theorem nest_use {c : Cond} (h : isNest c = true) {s : State} (hZ : va_Nw c s) {a : Array Value} : c.before a s = true := by
  cases c <;> first | exact va_Nw.use rfl hZ | (simp [isNest] at h)
def xG (p : Program) (s : State) (m : MethodId) (args : Array Value) (c : Code) (cc : ByteArray) (nL : Nat) (own : String) (Ts NW : List Cond) (D : va_G) (cl : List vw_C) (tys : List (ClassId × FieldType)) (A : Nat → Prop) : Prop :=
  p.tables.exec = Jvm.exec ∧ c.code = cc ∧ c.maxLocals = nL ∧ s.vm.findClass own = some m.cls ∧ (∀ w ∈ Ts, w.before args s = true) ∧ va_K D cl tys s ∧ (∀ c ∈ NW, isNest c = true ∧ va_Nw c s) ∧ ∀ q : Nat, s.heap.size ≤ q → A q
def xJ (p : Program) (l : Launch) (e : Env) (R : Room) (s : State) (m : MethodId) (args : Array Value) (below : List Frame) (meth : Method) (c : Code) (cells slots : Nat) (Q : State → Prop) (D : va_G) (cl : List vw_C) (A : Nat → Prop) (nL : Nat) (S : Heap → List Loc → Prop) (ws : va_W) (vs : List Value) (pc : Nat) (st : List Value) : Prop :=
  ∀ (H : Heap) (locs : List Loc) (ls : Array Slot), va_P D cl ws H → va_D A ws → S H locs → xLV ls nL vs → W p l e R s m args below meth c H locs cells slots Q (F0 m pc ls st)
section XL
variable {p : Program} {l : Launch} {e : Env} {R : Room} {s : State} {m : MethodId} {args : Array Value} {below : List Frame} {meth : Method} {c : Code} {cells slots : Nat} {Q : State → Prop} {D : va_G} {cl : List vw_C} {A : Nat → Prop} {nL : Nat} {S : Heap → List Loc → Prop} {ws : va_W} {vs : List Value} {pc : Nat} {st : List Value} {cc : ByteArray} {own : String} {Ts NW : List Cond} {tys : List (ClassId × FieldType)}
theorem x_iconst (G : xG p s m args c cc nL own Ts NW D cl tys A) {n : Int} (v : Int32) (d : decode cc pc = .ok (.iconst n, 1)) (hv : Int32.ofInt n = v) (k : xJ p l e R s m args below meth c cells slots Q D cl A nL (S) (ws) (vs) (pc + 1) (.int v :: st)) : xJ p l e R s m args below meth c cells slots Q D cl A nL (S) (ws) (vs) (pc) (st) := fun H locs ls hP hD hS hl => lv_iconst G.1 G.2.1 d hv (k H locs ls hP hD hS hl)
theorem x_bipush (G : xG p s m args c cc nL own Ts NW D cl tys A) {n : Int} (v : Int32) (d : decode cc pc = .ok (.bipush n, 2)) (hv : (Int8.ofInt n).toInt32 = v) (k : xJ p l e R s m args below meth c cells slots Q D cl A nL (S) (ws) (vs) (pc + 2) (.int v :: st)) : xJ p l e R s m args below meth c cells slots Q D cl A nL (S) (ws) (vs) (pc) (st) := fun H locs ls hP hD hS hl => lv_bipush G.1 G.2.1 d hv (k H locs ls hP hD hS hl)
theorem x_sipush (G : xG p s m args c cc nL own Ts NW D cl tys A) {n : Int} (v : Int32) (d : decode cc pc = .ok (.sipush n, 3)) (hv : (Int16.ofInt n).toInt32 = v) (k : xJ p l e R s m args below meth c cells slots Q D cl A nL (S) (ws) (vs) (pc + 3) (.int v :: st)) : xJ p l e R s m args below meth c cells slots Q D cl A nL (S) (ws) (vs) (pc) (st) := fun H locs ls hP hD hS hl => lv_sipush G.1 G.2.1 d hv (k H locs ls hP hD hS hl)
theorem x_lconst (G : xG p s m args c cc nL own Ts NW D cl tys A) {n : Fin 2} (v : Int64) (d : decode cc pc = .ok (.lconst n, 1)) (hv : Int64.ofNat (n : Nat) = v) (k : xJ p l e R s m args below meth c cells slots Q D cl A nL (S) (ws) (vs) (pc + 1) (.long v :: st)) : xJ p l e R s m args below meth c cells slots Q D cl A nL (S) (ws) (vs) (pc) (st) := fun H locs ls hP hD hS hl => lv_lconst G.1 G.2.1 d hv (k H locs ls hP hD hS hl)
theorem x_ldc (G : xG p s m args c cc nL own Ts NW D cl tys A) {index : Nat} (v : Int32) (d : decode cc pc = .ok (.ldc index, 2)) (hc : Cond.constant own index v ∈ Ts) (k : xJ p l e R s m args below meth c cells slots Q D cl A nL (S) (ws) (vs) (pc + 2) (.int v :: st)) : xJ p l e R s m args below meth c cells slots Q D cl A nL (S) (ws) (vs) (pc) (st) := fun H locs ls hP hD hS hl => lv_ldc G.1 G.2.1 G.2.2.2.1 (G.2.2.2.2.1 _ hc) d (k H locs ls hP hD hS hl)
theorem x_iload_n (G : xG p s m args c cc nL own Ts NW D cl tys A) {kk : Fin 4} {x : Int32} (i : Nat) (d : decode cc pc = .ok (.iload_n kk, 1)) (hi : (kk : Nat) = i) (hv : vs[i]? = some (.int x)) (k : xJ p l e R s m args below meth c cells slots Q D cl A nL (S) (ws) (vs) (pc + 1) (.int x :: st)) : xJ p l e R s m args below meth c cells slots Q D cl A nL (S) (ws) (vs) (pc) (st) := fun H locs ls hP hD hS hl => lv_iload_n G.1 G.2.1 d hi (hl.2.2 i (.int x) hv (fun h => by cases h)) (k H locs ls hP hD hS hl)
theorem x_iload (G : xG p s m args c cc nL own Ts NW D cl tys A) {i : Nat} {x : Int32} (d : decode cc pc = .ok (.iload i, 2)) (hv : vs[i]? = some (.int x)) (k : xJ p l e R s m args below meth c cells slots Q D cl A nL (S) (ws) (vs) (pc + 2) (.int x :: st)) : xJ p l e R s m args below meth c cells slots Q D cl A nL (S) (ws) (vs) (pc) (st) := fun H locs ls hP hD hS hl => lv_iload G.1 G.2.1 d (hl.2.2 i (.int x) hv (fun h => by cases h)) (k H locs ls hP hD hS hl)
theorem x_istore_n (G : xG p s m args c cc nL own Ts NW D cl tys A) {kk : Fin 4} {x : Int32} (i : Nat) (d : decode cc pc = .ok (.istore_n kk, 1)) (hi : (kk : Nat) = i) (hn : i < nL) (k : xJ p l e R s m args below meth c cells slots Q D cl A nL (S) (ws) (lset vs i (.int x)) (pc + 1) (st)) : xJ p l e R s m args below meth c cells slots Q D cl A nL (S) (ws) (vs) (pc) (.int x :: st) := fun H locs ls hP hD hS hl => lv_istore_n G.1 G.2.1 d hi hl.has hn rfl (fun ls' hl' => k H locs ls' hP hD hS (lset_of hl'))
theorem x_istore (G : xG p s m args c cc nL own Ts NW D cl tys A) {i : Nat} {x : Int32} (d : decode cc pc = .ok (.istore i, 2)) (hn : i < nL) (k : xJ p l e R s m args below meth c cells slots Q D cl A nL (S) (ws) (lset vs i (.int x)) (pc + 2) (st)) : xJ p l e R s m args below meth c cells slots Q D cl A nL (S) (ws) (vs) (pc) (.int x :: st) := fun H locs ls hP hD hS hl => lv_istore G.1 G.2.1 d hl.has hn rfl (fun ls' hl' => k H locs ls' hP hD hS (lset_of hl'))
theorem x_lload_n (G : xG p s m args c cc nL own Ts NW D cl tys A) {kk : Fin 4} {x : Int64} (i : Nat) (d : decode cc pc = .ok (.lload_n kk, 1)) (hi : (kk : Nat) = i) (hv : vs[i]? = some (.long x)) (k : xJ p l e R s m args below meth c cells slots Q D cl A nL (S) (ws) (vs) (pc + 1) (.long x :: st)) : xJ p l e R s m args below meth c cells slots Q D cl A nL (S) (ws) (vs) (pc) (st) := fun H locs ls hP hD hS hl => lv_lload_n G.1 G.2.1 d hi (hl.2.2 i (.long x) hv (fun h => by cases h)) (k H locs ls hP hD hS hl)
theorem x_lload (G : xG p s m args c cc nL own Ts NW D cl tys A) {i : Nat} {x : Int64} (d : decode cc pc = .ok (.lload i, 2)) (hv : vs[i]? = some (.long x)) (k : xJ p l e R s m args below meth c cells slots Q D cl A nL (S) (ws) (vs) (pc + 2) (.long x :: st)) : xJ p l e R s m args below meth c cells slots Q D cl A nL (S) (ws) (vs) (pc) (st) := fun H locs ls hP hD hS hl => lv_lload G.1 G.2.1 d (hl.2.2 i (.long x) hv (fun h => by cases h)) (k H locs ls hP hD hS hl)
theorem x_lstore_n (G : xG p s m args c cc nL own Ts NW D cl tys A) {kk : Fin 4} {x : Int64} (i : Nat) (d : decode cc pc = .ok (.lstore_n kk, 1)) (hi : (kk : Nat) = i) (hn : i + 1 < nL) (k : xJ p l e R s m args below meth c cells slots Q D cl A nL (S) (ws) (lset2 vs i (.long x)) (pc + 1) (st)) : xJ p l e R s m args below meth c cells slots Q D cl A nL (S) (ws) (vs) (pc) (.long x :: st) := fun H locs ls hP hD hS hl => lv_lstore_n G.1 G.2.1 d hi hl.has hn rfl (fun ls' hl' => k H locs ls' hP hD hS (lset2_of hl'))
theorem x_lstore (G : xG p s m args c cc nL own Ts NW D cl tys A) {i : Nat} {x : Int64} (d : decode cc pc = .ok (.lstore i, 2)) (hn : i + 1 < nL) (k : xJ p l e R s m args below meth c cells slots Q D cl A nL (S) (ws) (lset2 vs i (.long x)) (pc + 2) (st)) : xJ p l e R s m args below meth c cells slots Q D cl A nL (S) (ws) (vs) (pc) (.long x :: st) := fun H locs ls hP hD hS hl => lv_lstore G.1 G.2.1 d hl.has hn rfl (fun ls' hl' => k H locs ls' hP hD hS (lset2_of hl'))
theorem x_aload_n (G : xG p s m args c cc nL own Ts NW D cl tys A) {kk : Fin 4} {x : Nat} (i : Nat) (d : decode cc pc = .ok (.aload_n kk, 1)) (hi : (kk : Nat) = i) (hv : vs[i]? = some (.ref x)) (k : xJ p l e R s m args below meth c cells slots Q D cl A nL (S) (ws) (vs) (pc + 1) (.ref x :: st)) : xJ p l e R s m args below meth c cells slots Q D cl A nL (S) (ws) (vs) (pc) (st) := fun H locs ls hP hD hS hl => lv_aload_n G.1 G.2.1 d hi (hl.2.2 i (.ref x) hv (fun h => by cases h)) (k H locs ls hP hD hS hl)
theorem x_aload (G : xG p s m args c cc nL own Ts NW D cl tys A) {i : Nat} {x : Nat} (d : decode cc pc = .ok (.aload i, 2)) (hv : vs[i]? = some (.ref x)) (k : xJ p l e R s m args below meth c cells slots Q D cl A nL (S) (ws) (vs) (pc + 2) (.ref x :: st)) : xJ p l e R s m args below meth c cells slots Q D cl A nL (S) (ws) (vs) (pc) (st) := fun H locs ls hP hD hS hl => lv_aload G.1 G.2.1 d (hl.2.2 i (.ref x) hv (fun h => by cases h)) (k H locs ls hP hD hS hl)
theorem x_astore_n (G : xG p s m args c cc nL own Ts NW D cl tys A) {kk : Fin 4} {x : Nat} (i : Nat) (d : decode cc pc = .ok (.astore_n kk, 1)) (hi : (kk : Nat) = i) (hn : i < nL) (k : xJ p l e R s m args below meth c cells slots Q D cl A nL (S) (ws) (lset vs i (.ref x)) (pc + 1) (st)) : xJ p l e R s m args below meth c cells slots Q D cl A nL (S) (ws) (vs) (pc) (.ref x :: st) := fun H locs ls hP hD hS hl => lv_astore_n G.1 G.2.1 d hi hl.has hn rfl (fun ls' hl' => k H locs ls' hP hD hS (lset_of hl'))
theorem x_astore (G : xG p s m args c cc nL own Ts NW D cl tys A) {i : Nat} {x : Nat} (d : decode cc pc = .ok (.astore i, 2)) (hn : i < nL) (k : xJ p l e R s m args below meth c cells slots Q D cl A nL (S) (ws) (lset vs i (.ref x)) (pc + 2) (st)) : xJ p l e R s m args below meth c cells slots Q D cl A nL (S) (ws) (vs) (pc) (.ref x :: st) := fun H locs ls hP hD hS hl => lv_astore G.1 G.2.1 d hl.has hn rfl (fun ls' hl' => k H locs ls' hP hD hS (lset_of hl'))
theorem x_iinc (G : xG p s m args c cc nL own Ts NW D cl tys A) {i : Nat} {n : Int} {x : Int32} (v : Int32) (d : decode cc pc = .ok (.iinc i n, 3)) (hv : vs[i]? = some (.int x)) (he : x + Int32.ofInt n = v) (hn : i < nL) (k : xJ p l e R s m args below meth c cells slots Q D cl A nL (S) (ws) (lset vs i (.int v)) (pc + 3) (st)) : xJ p l e R s m args below meth c cells slots Q D cl A nL (S) (ws) (vs) (pc) (st) := fun H locs ls hP hD hS hl => by
  obtain ⟨j, hj⟩ := List.mem_iff_getElem?.mp (asL_mem.mpr ⟨hv, fun h => by cases h⟩)
  exact lv_iinc G.1 G.2.1 d hl.has hj he hn rfl (fun ls' hl' => k H locs ls' hP hD hS (lset_of hl'))
theorem x_iadd (G : xG p s m args c cc nL own Ts NW D cl tys A) {x y : Int32} (d : decode cc pc = .ok (.iadd, 1)) (k : xJ p l e R s m args below meth c cells slots Q D cl A nL (S) (ws) (vs) (pc + 1) (.int (x + y) :: st)) : xJ p l e R s m args below meth c cells slots Q D cl A nL (S) (ws) (vs) (pc) (.int y :: .int x :: st) := fun H locs ls hP hD hS hl => lv_iadd G.1 G.2.1 d (k H locs ls hP hD hS hl)
theorem x_isub (G : xG p s m args c cc nL own Ts NW D cl tys A) {x y : Int32} (d : decode cc pc = .ok (.isub, 1)) (k : xJ p l e R s m args below meth c cells slots Q D cl A nL (S) (ws) (vs) (pc + 1) (.int (x - y) :: st)) : xJ p l e R s m args below meth c cells slots Q D cl A nL (S) (ws) (vs) (pc) (.int y :: .int x :: st) := fun H locs ls hP hD hS hl => lv_isub G.1 G.2.1 d (k H locs ls hP hD hS hl)
theorem x_imul (G : xG p s m args c cc nL own Ts NW D cl tys A) {x y : Int32} (d : decode cc pc = .ok (.imul, 1)) (k : xJ p l e R s m args below meth c cells slots Q D cl A nL (S) (ws) (vs) (pc + 1) (.int (x * y) :: st)) : xJ p l e R s m args below meth c cells slots Q D cl A nL (S) (ws) (vs) (pc) (.int y :: .int x :: st) := fun H locs ls hP hD hS hl => lv_imul G.1 G.2.1 d (k H locs ls hP hD hS hl)
theorem x_iand (G : xG p s m args c cc nL own Ts NW D cl tys A) {x y : Int32} (d : decode cc pc = .ok (.iand, 1)) (k : xJ p l e R s m args below meth c cells slots Q D cl A nL (S) (ws) (vs) (pc + 1) (.int (x &&& y) :: st)) : xJ p l e R s m args below meth c cells slots Q D cl A nL (S) (ws) (vs) (pc) (.int y :: .int x :: st) := fun H locs ls hP hD hS hl => lv_iand G.1 G.2.1 d (k H locs ls hP hD hS hl)
theorem x_idiv (G : xG p s m args c cc nL own Ts NW D cl tys A) {x y : Int32} (d : decode cc pc = .ok (.idiv, 1)) (hne : ¬ y = 0) (k : xJ p l e R s m args below meth c cells slots Q D cl A nL (S) (ws) (vs) (pc + 1) (.int (x / y) :: st)) : xJ p l e R s m args below meth c cells slots Q D cl A nL (S) (ws) (vs) (pc) (.int y :: .int x :: st) := fun H locs ls hP hD hS hl => lv_idiv G.1 G.2.1 d hne (k H locs ls hP hD hS hl)
theorem x_irem (G : xG p s m args c cc nL own Ts NW D cl tys A) {x y : Int32} (d : decode cc pc = .ok (.irem, 1)) (hne : ¬ y = 0) (k : xJ p l e R s m args below meth c cells slots Q D cl A nL (S) (ws) (vs) (pc + 1) (.int (x - x / y * y) :: st)) : xJ p l e R s m args below meth c cells slots Q D cl A nL (S) (ws) (vs) (pc) (.int y :: .int x :: st) := fun H locs ls hP hD hS hl => lv_irem G.1 G.2.1 d hne (k H locs ls hP hD hS hl)
theorem x_ladd (G : xG p s m args c cc nL own Ts NW D cl tys A) {x y : Int64} (d : decode cc pc = .ok (.ladd, 1)) (k : xJ p l e R s m args below meth c cells slots Q D cl A nL (S) (ws) (vs) (pc + 1) (.long (x + y) :: st)) : xJ p l e R s m args below meth c cells slots Q D cl A nL (S) (ws) (vs) (pc) (.long y :: .long x :: st) := fun H locs ls hP hD hS hl => lv_ladd G.1 G.2.1 d (k H locs ls hP hD hS hl)
theorem x_lsub (G : xG p s m args c cc nL own Ts NW D cl tys A) {x y : Int64} (d : decode cc pc = .ok (.lsub, 1)) (k : xJ p l e R s m args below meth c cells slots Q D cl A nL (S) (ws) (vs) (pc + 1) (.long (x - y) :: st)) : xJ p l e R s m args below meth c cells slots Q D cl A nL (S) (ws) (vs) (pc) (.long y :: .long x :: st) := fun H locs ls hP hD hS hl => lv_lsub G.1 G.2.1 d (k H locs ls hP hD hS hl)
theorem x_lmul (G : xG p s m args c cc nL own Ts NW D cl tys A) {x y : Int64} (d : decode cc pc = .ok (.lmul, 1)) (k : xJ p l e R s m args below meth c cells slots Q D cl A nL (S) (ws) (vs) (pc + 1) (.long (x * y) :: st)) : xJ p l e R s m args below meth c cells slots Q D cl A nL (S) (ws) (vs) (pc) (.long y :: .long x :: st) := fun H locs ls hP hD hS hl => lv_lmul G.1 G.2.1 d (k H locs ls hP hD hS hl)
theorem x_ldiv (G : xG p s m args c cc nL own Ts NW D cl tys A) {x y : Int64} (d : decode cc pc = .ok (.ldiv, 1)) (hne : ¬ y = 0) (k : xJ p l e R s m args below meth c cells slots Q D cl A nL (S) (ws) (vs) (pc + 1) (.long (x / y) :: st)) : xJ p l e R s m args below meth c cells slots Q D cl A nL (S) (ws) (vs) (pc) (.long y :: .long x :: st) := fun H locs ls hP hD hS hl => lv_ldiv G.1 G.2.1 d hne (k H locs ls hP hD hS hl)
theorem x_lcmp (G : xG p s m args c cc nL own Ts NW D cl tys A) {x y : Int64} (d : decode cc pc = .ok (.lcmp, 1)) (k : xJ p l e R s m args below meth c cells slots Q D cl A nL (S) (ws) (vs) (pc + 1) (.int (lg_cmp x y) :: st)) : xJ p l e R s m args below meth c cells slots Q D cl A nL (S) (ws) (vs) (pc) (.long y :: .long x :: st) := fun H locs ls hP hD hS hl => W.lcmp G.1 G.2.1 d (k H locs ls hP hD hS hl)
theorem x_i2l (G : xG p s m args c cc nL own Ts NW D cl tys A) {x : Int32} (d : decode cc pc = .ok (.i2l, 1)) (k : xJ p l e R s m args below meth c cells slots Q D cl A nL (S) (ws) (vs) (pc + 1) (.long x.toInt64 :: st)) : xJ p l e R s m args below meth c cells slots Q D cl A nL (S) (ws) (vs) (pc) (.int x :: st) := fun H locs ls hP hD hS hl => lv_i2l G.1 G.2.1 d rfl (k H locs ls hP hD hS hl)
theorem x_l2i (G : xG p s m args c cc nL own Ts NW D cl tys A) {x : Int64} (d : decode cc pc = .ok (.l2i, 1)) (k : xJ p l e R s m args below meth c cells slots Q D cl A nL (S) (ws) (vs) (pc + 1) (.int x.toInt32 :: st)) : xJ p l e R s m args below meth c cells slots Q D cl A nL (S) (ws) (vs) (pc) (.long x :: st) := fun H locs ls hP hD hS hl => lv_l2i G.1 G.2.1 d rfl (k H locs ls hP hD hS hl)
theorem x_dup (G : xG p s m args c cc nL own Ts NW D cl tys A) {v : Value} (d : decode cc pc = .ok (.dup, 1)) (h1 : v.category = 1) (k : xJ p l e R s m args below meth c cells slots Q D cl A nL (S) (ws) (vs) (pc + 1) (v :: v :: st)) : xJ p l e R s m args below meth c cells slots Q D cl A nL (S) (ws) (vs) (pc) (v :: st) := fun H locs ls hP hD hS hl => lv_dup G.1 G.2.1 d h1 (k H locs ls hP hD hS hl)
theorem x_pop (G : xG p s m args c cc nL own Ts NW D cl tys A) {v : Value} (d : decode cc pc = .ok (.pop, 1)) (h1 : v.category = 1) (k : xJ p l e R s m args below meth c cells slots Q D cl A nL (S) (ws) (vs) (pc + 1) (st)) : xJ p l e R s m args below meth c cells slots Q D cl A nL (S) (ws) (vs) (pc) (v :: st) := fun H locs ls hP hD hS hl => lv_pop G.1 G.2.1 d h1 (k H locs ls hP hD hS hl)
theorem x_dup_x1 (G : xG p s m args c cc nL own Ts NW D cl tys A) {v u : Value} (d : decode cc pc = .ok (.dup_x1, 1)) (h1 : v.category = 1) (h2 : u.category = 1) (k : xJ p l e R s m args below meth c cells slots Q D cl A nL (S) (ws) (vs) (pc + 1) (v :: u :: v :: st)) : xJ p l e R s m args below meth c cells slots Q D cl A nL (S) (ws) (vs) (pc) (v :: u :: st) := fun H locs ls hP hD hS hl => lv_dup_x1 G.1 G.2.1 d h1 h2 (k H locs ls hP hD hS hl)
theorem x_dup2 (G : xG p s m args c cc nL own Ts NW D cl tys A) {v u : Value} (d : decode cc pc = .ok (.dup2, 1)) (h1 : v.category = 1) (h2 : u.category = 1) (k : xJ p l e R s m args below meth c cells slots Q D cl A nL (S) (ws) (vs) (pc + 1) (v :: u :: v :: u :: st)) : xJ p l e R s m args below meth c cells slots Q D cl A nL (S) (ws) (vs) (pc) (v :: u :: st) := fun H locs ls hP hD hS hl => lv_dup2_11 G.1 G.2.1 d h1 h2 (k H locs ls hP hD hS hl)
theorem x_if_eq (G : xG p s m args c cc nL own Ts NW D cl tys A) {x : Int32} {off : Int} (tgt : Nat) (d : decode cc pc = .ok (.ifCond .eq off, 3)) (ht : (pc : Int) + off = (tgt : Int)) (kt : x = 0 → xJ p l e R s m args below meth c cells slots Q D cl A nL (S) (ws) (vs) (tgt) (st)) (kf : ¬ x = 0 → xJ p l e R s m args below meth c cells slots Q D cl A nL (S) (ws) (vs) (pc + 3) (st)) : xJ p l e R s m args below meth c cells slots Q D cl A nL (S) (ws) (vs) (pc) (.int x :: st) := fun H locs ls hP hD hS hl => lv_if_eq G.1 G.2.1 d ht (fun h => kt h H locs ls hP hD hS hl) (fun h => kf h H locs ls hP hD hS hl)
theorem x_icmp_eq (G : xG p s m args c cc nL own Ts NW D cl tys A) {x y : Int32} {off : Int} (tgt : Nat) (d : decode cc pc = .ok (.if_icmp .eq off, 3)) (ht : (pc : Int) + off = (tgt : Int)) (kt : x = y → xJ p l e R s m args below meth c cells slots Q D cl A nL (S) (ws) (vs) (tgt) (st)) (kf : ¬ x = y → xJ p l e R s m args below meth c cells slots Q D cl A nL (S) (ws) (vs) (pc + 3) (st)) : xJ p l e R s m args below meth c cells slots Q D cl A nL (S) (ws) (vs) (pc) (.int y :: .int x :: st) := fun H locs ls hP hD hS hl => lv_icmp_eq G.1 G.2.1 d ht (fun h => kt h H locs ls hP hD hS hl) (fun h => kf h H locs ls hP hD hS hl)
theorem x_if_ne (G : xG p s m args c cc nL own Ts NW D cl tys A) {x : Int32} {off : Int} (tgt : Nat) (d : decode cc pc = .ok (.ifCond .ne off, 3)) (ht : (pc : Int) + off = (tgt : Int)) (kt : ¬ x = 0 → xJ p l e R s m args below meth c cells slots Q D cl A nL (S) (ws) (vs) (tgt) (st)) (kf : x = 0 → xJ p l e R s m args below meth c cells slots Q D cl A nL (S) (ws) (vs) (pc + 3) (st)) : xJ p l e R s m args below meth c cells slots Q D cl A nL (S) (ws) (vs) (pc) (.int x :: st) := fun H locs ls hP hD hS hl => lv_if_ne G.1 G.2.1 d ht (fun h => kt h H locs ls hP hD hS hl) (fun h => kf h H locs ls hP hD hS hl)
theorem x_icmp_ne (G : xG p s m args c cc nL own Ts NW D cl tys A) {x y : Int32} {off : Int} (tgt : Nat) (d : decode cc pc = .ok (.if_icmp .ne off, 3)) (ht : (pc : Int) + off = (tgt : Int)) (kt : ¬ x = y → xJ p l e R s m args below meth c cells slots Q D cl A nL (S) (ws) (vs) (tgt) (st)) (kf : x = y → xJ p l e R s m args below meth c cells slots Q D cl A nL (S) (ws) (vs) (pc + 3) (st)) : xJ p l e R s m args below meth c cells slots Q D cl A nL (S) (ws) (vs) (pc) (.int y :: .int x :: st) := fun H locs ls hP hD hS hl => lv_icmp_ne G.1 G.2.1 d ht (fun h => kt h H locs ls hP hD hS hl) (fun h => kf h H locs ls hP hD hS hl)
theorem x_if_lt (G : xG p s m args c cc nL own Ts NW D cl tys A) {x : Int32} {off : Int} (tgt : Nat) (d : decode cc pc = .ok (.ifCond .lt off, 3)) (ht : (pc : Int) + off = (tgt : Int)) (kt : x < 0 → xJ p l e R s m args below meth c cells slots Q D cl A nL (S) (ws) (vs) (tgt) (st)) (kf : ¬ x < 0 → xJ p l e R s m args below meth c cells slots Q D cl A nL (S) (ws) (vs) (pc + 3) (st)) : xJ p l e R s m args below meth c cells slots Q D cl A nL (S) (ws) (vs) (pc) (.int x :: st) := fun H locs ls hP hD hS hl => lv_if_lt G.1 G.2.1 d ht (fun h => kt h H locs ls hP hD hS hl) (fun h => kf h H locs ls hP hD hS hl)
theorem x_icmp_lt (G : xG p s m args c cc nL own Ts NW D cl tys A) {x y : Int32} {off : Int} (tgt : Nat) (d : decode cc pc = .ok (.if_icmp .lt off, 3)) (ht : (pc : Int) + off = (tgt : Int)) (kt : x < y → xJ p l e R s m args below meth c cells slots Q D cl A nL (S) (ws) (vs) (tgt) (st)) (kf : ¬ x < y → xJ p l e R s m args below meth c cells slots Q D cl A nL (S) (ws) (vs) (pc + 3) (st)) : xJ p l e R s m args below meth c cells slots Q D cl A nL (S) (ws) (vs) (pc) (.int y :: .int x :: st) := fun H locs ls hP hD hS hl => lv_icmp_lt G.1 G.2.1 d ht (fun h => kt h H locs ls hP hD hS hl) (fun h => kf h H locs ls hP hD hS hl)
theorem x_if_ge (G : xG p s m args c cc nL own Ts NW D cl tys A) {x : Int32} {off : Int} (tgt : Nat) (d : decode cc pc = .ok (.ifCond .ge off, 3)) (ht : (pc : Int) + off = (tgt : Int)) (kt : 0 ≤ x → xJ p l e R s m args below meth c cells slots Q D cl A nL (S) (ws) (vs) (tgt) (st)) (kf : ¬ 0 ≤ x → xJ p l e R s m args below meth c cells slots Q D cl A nL (S) (ws) (vs) (pc + 3) (st)) : xJ p l e R s m args below meth c cells slots Q D cl A nL (S) (ws) (vs) (pc) (.int x :: st) := fun H locs ls hP hD hS hl => lv_if_ge G.1 G.2.1 d ht (fun h => kt h H locs ls hP hD hS hl) (fun h => kf h H locs ls hP hD hS hl)
theorem x_icmp_ge (G : xG p s m args c cc nL own Ts NW D cl tys A) {x y : Int32} {off : Int} (tgt : Nat) (d : decode cc pc = .ok (.if_icmp .ge off, 3)) (ht : (pc : Int) + off = (tgt : Int)) (kt : y ≤ x → xJ p l e R s m args below meth c cells slots Q D cl A nL (S) (ws) (vs) (tgt) (st)) (kf : ¬ y ≤ x → xJ p l e R s m args below meth c cells slots Q D cl A nL (S) (ws) (vs) (pc + 3) (st)) : xJ p l e R s m args below meth c cells slots Q D cl A nL (S) (ws) (vs) (pc) (.int y :: .int x :: st) := fun H locs ls hP hD hS hl => lv_icmp_ge G.1 G.2.1 d ht (fun h => kt h H locs ls hP hD hS hl) (fun h => kf h H locs ls hP hD hS hl)
theorem x_if_gt (G : xG p s m args c cc nL own Ts NW D cl tys A) {x : Int32} {off : Int} (tgt : Nat) (d : decode cc pc = .ok (.ifCond .gt off, 3)) (ht : (pc : Int) + off = (tgt : Int)) (kt : 0 < x → xJ p l e R s m args below meth c cells slots Q D cl A nL (S) (ws) (vs) (tgt) (st)) (kf : ¬ 0 < x → xJ p l e R s m args below meth c cells slots Q D cl A nL (S) (ws) (vs) (pc + 3) (st)) : xJ p l e R s m args below meth c cells slots Q D cl A nL (S) (ws) (vs) (pc) (.int x :: st) := fun H locs ls hP hD hS hl => lv_if_gt G.1 G.2.1 d ht (fun h => kt h H locs ls hP hD hS hl) (fun h => kf h H locs ls hP hD hS hl)
theorem x_icmp_gt (G : xG p s m args c cc nL own Ts NW D cl tys A) {x y : Int32} {off : Int} (tgt : Nat) (d : decode cc pc = .ok (.if_icmp .gt off, 3)) (ht : (pc : Int) + off = (tgt : Int)) (kt : y < x → xJ p l e R s m args below meth c cells slots Q D cl A nL (S) (ws) (vs) (tgt) (st)) (kf : ¬ y < x → xJ p l e R s m args below meth c cells slots Q D cl A nL (S) (ws) (vs) (pc + 3) (st)) : xJ p l e R s m args below meth c cells slots Q D cl A nL (S) (ws) (vs) (pc) (.int y :: .int x :: st) := fun H locs ls hP hD hS hl => lv_icmp_gt G.1 G.2.1 d ht (fun h => kt h H locs ls hP hD hS hl) (fun h => kf h H locs ls hP hD hS hl)
theorem x_if_le (G : xG p s m args c cc nL own Ts NW D cl tys A) {x : Int32} {off : Int} (tgt : Nat) (d : decode cc pc = .ok (.ifCond .le off, 3)) (ht : (pc : Int) + off = (tgt : Int)) (kt : x ≤ 0 → xJ p l e R s m args below meth c cells slots Q D cl A nL (S) (ws) (vs) (tgt) (st)) (kf : ¬ x ≤ 0 → xJ p l e R s m args below meth c cells slots Q D cl A nL (S) (ws) (vs) (pc + 3) (st)) : xJ p l e R s m args below meth c cells slots Q D cl A nL (S) (ws) (vs) (pc) (.int x :: st) := fun H locs ls hP hD hS hl => lv_if_le G.1 G.2.1 d ht (fun h => kt h H locs ls hP hD hS hl) (fun h => kf h H locs ls hP hD hS hl)
theorem x_icmp_le (G : xG p s m args c cc nL own Ts NW D cl tys A) {x y : Int32} {off : Int} (tgt : Nat) (d : decode cc pc = .ok (.if_icmp .le off, 3)) (ht : (pc : Int) + off = (tgt : Int)) (kt : x ≤ y → xJ p l e R s m args below meth c cells slots Q D cl A nL (S) (ws) (vs) (tgt) (st)) (kf : ¬ x ≤ y → xJ p l e R s m args below meth c cells slots Q D cl A nL (S) (ws) (vs) (pc + 3) (st)) : xJ p l e R s m args below meth c cells slots Q D cl A nL (S) (ws) (vs) (pc) (.int y :: .int x :: st) := fun H locs ls hP hD hS hl => lv_icmp_le G.1 G.2.1 d ht (fun h => kt h H locs ls hP hD hS hl) (fun h => kf h H locs ls hP hD hS hl)
theorem x_goto (G : xG p s m args c cc nL own Ts NW D cl tys A) {off : Int} (tgt : Nat) (d : decode cc pc = .ok (.goto off, 3)) (ht : (pc : Int) + off = (tgt : Int)) (k : xJ p l e R s m args below meth c cells slots Q D cl A nL (S) (ws) (vs) (tgt) (st)) : xJ p l e R s m args below meth c cells slots Q D cl A nL (S) (ws) (vs) (pc) (st) := fun H locs ls hP hD hS hl => lv_goto G.1 G.2.1 d ht (k H locs ls hP hD hS hl)
theorem x_tableOut (G : xG p s m args c cc nL own Ts NW D cl tys A) {dflt lo hi : Int} {offs : Array Int} {len : Nat} {x : Int32} (tgt : Nat) (d : decode cc pc = .ok (.tableswitch dflt lo hi offs, len)) (h : x.toInt < lo ∨ hi < x.toInt) (ht : (pc : Int) + dflt = (tgt : Int)) (k : xJ p l e R s m args below meth c cells slots Q D cl A nL (S) (ws) (vs) (tgt) (st)) : xJ p l e R s m args below meth c cells slots Q D cl A nL (S) (ws) (vs) (pc) (.int x :: st) := fun H locs ls hP hD hS hl => lv_tableOut G.1 G.2.1 d h ht (k H locs ls hP hD hS hl)
theorem x_tableIn (G : xG p s m args c cc nL own Ts NW D cl tys A) {dflt lo hi : Int} {offs : Array Int} {len : Nat} {x : Int32} {off : Int} (tgt : Nat) (d : decode cc pc = .ok (.tableswitch dflt lo hi offs, len)) (h1 : ¬ x.toInt < lo) (h2 : ¬ hi < x.toInt) (ho : offs[(x.toInt - lo).toNat]? = some off) (ht : (pc : Int) + off = (tgt : Int)) (k : xJ p l e R s m args below meth c cells slots Q D cl A nL (S) (ws) (vs) (tgt) (st)) : xJ p l e R s m args below meth c cells slots Q D cl A nL (S) (ws) (vs) (pc) (.int x :: st) := fun H locs ls hP hD hS hl => lv_tableIn G.1 G.2.1 d h1 h2 ho ht (k H locs ls hP hD hS hl)
theorem x_get (G : xG p s m args c cc nL own Ts NW D cl tys A) {ref C : String} {T : u_T} {N ci index : Nat} {a : Nat} (q0 : Nat) {fs : List Value} {v : Value} (he : ws[q0]? = some (a, .inr (ci, fs))) (hc : cl[ci]? = some (C, T, N)) (kf : Nat) (hk : kf < N) (hv : fs[kf]? = some v) (hin : ∀ w ∈ u_ws C T N, w ∈ Ts) (hlink : Cond.fieldLink own index ref (T kf).2.1 (T kf).2.2.1 ∈ Ts) (hsame : ref = (T kf).1) (d : decode cc pc = .ok (.getfield index, 3)) (k : xJ p l e R s m args below meth c cells slots Q D cl A nL (S) (ws) (vs) (pc + 3) (v :: st)) : xJ p l e R s m args below meth c cells slots Q D cl A nL (S) (ws) (vs) (pc) (.ref a :: st) := fun H locs ls hP hD hS hl => va_get G.1 G.2.1 G.2.2.2.2.1 hin G.2.2.2.1 G.2.2.2.2.2.1 hP q0 he hc kf hk (G.2.2.2.2.1 _ hlink) (fun _ h => by rw [hsame]; exact h) hv d (k H locs ls hP hD hS hl)
theorem x_getN (G : xG p s m args c cc nL own Ts NW D cl tys A) {ref C : String} {T : u_T} {N ci index : Nat} {a : Nat} {host : String} (q0 : Nat) {fs : List Value} {v : Value} (he : ws[q0]? = some (a, .inr (ci, fs))) (hc : cl[ci]? = some (C, T, N)) (kf : Nat) (hk : kf < N) (hv : fs[kf]? = some v) (hin : ∀ w ∈ u_ws C T N, w ∈ Ts) (hlink : Cond.fieldLinkNest own index ref (T kf).2.1 (T kf).2.2.1 host ∈ NW) (hsame : ref = (T kf).1) (d : decode cc pc = .ok (.getfield index, 3)) (k : xJ p l e R s m args below meth c cells slots Q D cl A nL (S) (ws) (vs) (pc + 3) (v :: st)) : xJ p l e R s m args below meth c cells slots Q D cl A nL (S) (ws) (vs) (pc) (.ref a :: st) := fun H locs ls hP hD hS hl => va_getN G.1 G.2.1 G.2.2.2.2.1 hin G.2.2.2.1 G.2.2.2.2.2.1 hP q0 he hc kf hk (nest_use (G.2.2.2.2.2.2.1 _ hlink).1 (G.2.2.2.2.2.2.1 _ hlink).2) (fun _ h => by rw [hsame]; exact h) hv d (k H locs ls hP hD hS hl)
theorem x_put (G : xG p s m args c cc nL own Ts NW D cl tys A) {ref C : String} {T : u_T} {N ci index : Nat} {a : Nat} {ty0 : Nat → FieldType} (q0 : Nat) {fs : List Value} {v : Value} {ty : FieldType} {ws' : va_W} (he : ws[q0]? = some (a, .inr (ci, fs))) (hc : cl[ci]? = some (C, T, N)) (kf : Nat) (hk : kf < N) (hl0 : kf < fs.length) (hw : ws.set q0 (a, .inr (ci, fs.set kf v)) = ws') (hin : ∀ w ∈ u_ws C T N, w ∈ Ts) (hty : ∀ k, k < N → parseFieldDescriptor (T k).2.2.1 = some (ty0 k)) (hnm : ∀ a, a < N → ∀ b, b < N → a ≠ b → (T a).2.1 ≠ (T b).2.1) (hlink : Cond.fieldLink own index ref (T kf).2.1 (T kf).2.2.1 ∈ Ts) (hsame : ref = (T kf).1) (hfin : (T kf).2.2.2 = false) (hd : parseFieldDescriptor (T kf).2.2.1 = some ty) (hn : narrow ty v = v) (hfit : fits ty v = true) (d : decode cc pc = .ok (.putfield index, 3)) (k : xJ p l e R s m args below meth c cells slots Q D cl A nL (va_S A s.heap) (ws') (vs) (pc + 3) (st)) : xJ p l e R s m args below meth c cells slots Q D cl A nL (va_S A s.heap) (ws) (vs) (pc) (v :: .ref a :: st) := fun H locs ls hP hD hS hl => va_put G.1 G.2.1 G.2.2.2.2.1 hin ty0 hty hnm G.2.2.2.1 G.2.2.2.2.2.1 hP hD hS q0 he hc kf hk (G.2.2.2.2.1 _ hlink) (fun _ h => by rw [hsame]; exact h) hfin hd hn hfit hl0 d (fun H1 locs1 hP hD hS => k H1 locs1 ls (hw ▸ hP) (hw ▸ hD) hS hl)
theorem x_putN (G : xG p s m args c cc nL own Ts NW D cl tys A) {ref C : String} {T : u_T} {N ci index : Nat} {a : Nat} {ty0 : Nat → FieldType} (q0 : Nat) {fs : List Value} {v : Value} {ty : FieldType} {ws' : va_W} (he : ws[q0]? = some (a, .inr (ci, fs))) (hc : cl[ci]? = some (C, T, N)) (kf : Nat) (hk : kf < N) (hl0 : kf < fs.length) (hw : ws.set q0 (a, .inr (ci, fs.set kf v)) = ws') (hin : ∀ w ∈ u_ws C T N, w ∈ Ts) (hty : ∀ k, k < N → parseFieldDescriptor (T k).2.2.1 = some (ty0 k)) (hnm : ∀ a, a < N → ∀ b, b < N → a ≠ b → (T a).2.1 ≠ (T b).2.1) {host : String} (hlink : Cond.fieldLinkNest own index ref (T kf).2.1 (T kf).2.2.1 host ∈ NW) (hsame : ref = (T kf).1) (hfin : (T kf).2.2.2 = false) (hd : parseFieldDescriptor (T kf).2.2.1 = some ty) (hn : narrow ty v = v) (hfit : fits ty v = true) (d : decode cc pc = .ok (.putfield index, 3)) (k : xJ p l e R s m args below meth c cells slots Q D cl A nL (va_S A s.heap) (ws') (vs) (pc + 3) (st)) : xJ p l e R s m args below meth c cells slots Q D cl A nL (va_S A s.heap) (ws) (vs) (pc) (v :: .ref a :: st) := fun H locs ls hP hD hS hl => va_putN G.1 G.2.1 G.2.2.2.2.1 hin ty0 hty hnm G.2.2.2.1 G.2.2.2.2.2.1 hP hD hS q0 he hc kf hk (nest_use (G.2.2.2.2.2.2.1 _ hlink).1 (G.2.2.2.2.2.2.1 _ hlink).2) (fun _ h => by rw [hsame]; exact h) hfin hd hn hfit hl0 d (fun H1 locs1 hP hD hS => k H1 locs1 ls (hw ▸ hP) (hw ▸ hD) hS hl)
theorem x_iald (G : xG p s m args c cc nL own Ts NW D cl tys A) {a : Nat} (q0 t0 : Nat) {cA : ClassId} {n : Nat} {f : Nat → Int32} (ha : ws[q0]? = some (a, .inl (cA, n, .inl f))) (ht : tys[t0]? = some (cA, .int)) {i : Int32} (hin : vp_in i n) (d : decode cc pc = .ok (.iaload, 1)) (k : xJ p l e R s m args below meth c cells slots Q D cl A nL (S) (ws) (vs) (pc + 1) (.int (f i.toNatClampNeg) :: st)) : xJ p l e R s m args below meth c cells slots Q D cl A nL (S) (ws) (vs) (pc) (.int i :: .ref a :: st) := fun H locs ls hP hD hS hl => va_iald G.1 G.2.1 G.2.2.2.2.2.1 hP q0 t0 ha ht hin d (k H locs ls hP hD hS hl)
theorem x_zald (G : xG p s m args c cc nL own Ts NW D cl tys A) {a : Nat} (q0 t0 : Nat) {cA : ClassId} {n : Nat} {f : Nat → Int32} (ha : ws[q0]? = some (a, .inl (cA, n, .inl f))) (ht : tys[t0]? = some (cA, .boolean)) {i : Int32} (hin : vp_in i n) (d : decode cc pc = .ok (.baload, 1)) (k : xJ p l e R s m args below meth c cells slots Q D cl A nL (S) (ws) (vs) (pc + 1) (.int (f i.toNatClampNeg) :: st)) : xJ p l e R s m args below meth c cells slots Q D cl A nL (S) (ws) (vs) (pc) (.int i :: .ref a :: st) := fun H locs ls hP hD hS hl => va_zald G.1 G.2.1 G.2.2.2.2.2.1 hP q0 t0 ha ht hin d (k H locs ls hP hD hS hl)
theorem x_lald (G : xG p s m args c cc nL own Ts NW D cl tys A) {a : Nat} (q0 t0 : Nat) {cA : ClassId} {n : Nat} {f : Nat → Int64} (ha : ws[q0]? = some (a, .inl (cA, n, .inr (.inl f)))) (ht : tys[t0]? = some (cA, .long)) {i : Int32} (hin : vp_in i n) (d : decode cc pc = .ok (.laload, 1)) (k : xJ p l e R s m args below meth c cells slots Q D cl A nL (S) (ws) (vs) (pc + 1) (.long (f i.toNatClampNeg) :: st)) : xJ p l e R s m args below meth c cells slots Q D cl A nL (S) (ws) (vs) (pc) (.int i :: .ref a :: st) := fun H locs ls hP hD hS hl => va_lald G.1 G.2.1 G.2.2.2.2.2.1 hP q0 t0 ha ht hin d (k H locs ls hP hD hS hl)
theorem x_iast (G : xG p s m args c cc nL own Ts NW D cl tys A) {a : Nat} (q0 t0 : Nat) {cA : ClassId} {n : Nat} {f : Nat → Int32} {ws' : va_W} {i x : Int32} (ha : ws[q0]? = some (a, .inl (cA, n, .inl f))) (ht : tys[t0]? = some (cA, .int)) (hw : ws.set q0 (a, .inl (cA, n, .inl (upd f i.toNatClampNeg x))) = ws') (hin : vp_in i n) (d : decode cc pc = .ok (.iastore, 1)) (k : xJ p l e R s m args below meth c cells slots Q D cl A nL (va_S A s.heap) (ws') (vs) (pc + 1) (st)) : xJ p l e R s m args below meth c cells slots Q D cl A nL (va_S A s.heap) (ws) (vs) (pc) (.int x :: .int i :: .ref a :: st) := fun H locs ls hP hD hS hl => va_iast G.1 G.2.1 G.2.2.2.2.2.1 hP hD hS q0 t0 ha ht hin d (fun H1 locs1 hP hD hS => k H1 locs1 ls (hw ▸ hP) (hw ▸ hD) hS hl)
theorem x_zast (G : xG p s m args c cc nL own Ts NW D cl tys A) {a : Nat} (q0 t0 : Nat) {cA : ClassId} {n : Nat} {f : Nat → Int32} {ws' : va_W} {i x : Int32} (ha : ws[q0]? = some (a, .inl (cA, n, .inl f))) (ht : tys[t0]? = some (cA, .boolean)) (hx : vp_nar .boolean x = x) (hw : ws.set q0 (a, .inl (cA, n, .inl (upd f i.toNatClampNeg x))) = ws') (hin : vp_in i n) (d : decode cc pc = .ok (.bastore, 1)) (k : xJ p l e R s m args below meth c cells slots Q D cl A nL (va_S A s.heap) (ws') (vs) (pc + 1) (st)) : xJ p l e R s m args below meth c cells slots Q D cl A nL (va_S A s.heap) (ws) (vs) (pc) (.int x :: .int i :: .ref a :: st) := fun H locs ls hP hD hS hl => va_zast G.1 G.2.1 G.2.2.2.2.2.1 hP hD hS q0 t0 ha ht hin d (fun H1 locs1 hP hD hS => k H1 locs1 ls (hw ▸ (hx ▸ hP)) (hw ▸ (hx ▸ hD)) hS hl)
theorem x_last (G : xG p s m args c cc nL own Ts NW D cl tys A) {a : Nat} (q0 t0 : Nat) {cA : ClassId} {n : Nat} {f : Nat → Int64} {ws' : va_W} {i : Int32} {x : Int64} (ha : ws[q0]? = some (a, .inl (cA, n, .inr (.inl f)))) (ht : tys[t0]? = some (cA, .long)) (hw : ws.set q0 (a, .inl (cA, n, .inr (.inl (vp_updL f i.toNatClampNeg x)))) = ws') (hin : vp_in i n) (d : decode cc pc = .ok (.lastore, 1)) (k : xJ p l e R s m args below meth c cells slots Q D cl A nL (va_S A s.heap) (ws') (vs) (pc + 1) (st)) : xJ p l e R s m args below meth c cells slots Q D cl A nL (va_S A s.heap) (ws) (vs) (pc) (.long x :: .int i :: .ref a :: st) := fun H locs ls hP hD hS hl => va_last G.1 G.2.1 G.2.2.2.2.2.1 hP hD hS q0 t0 ha ht hin d (fun H1 locs1 hP hD hS => k H1 locs1 ls (hw ▸ hP) (hw ▸ hD) hS hl)
theorem x_alen (G : xG p s m args c cc nL own Ts NW D cl tys A) {a : Nat} (q0 t0 : Nat) {cA : ClassId} {x : vp_A} (ha : ws[q0]? = some (a, .inl (cA, x))) {ty : FieldType} (ht : tys[t0]? = some (cA, ty)) (v : Int32) (hv : Int32.ofNat x.1 = v) (d : decode cc pc = .ok (.arraylength, 1)) (k : xJ p l e R s m args below meth c cells slots Q D cl A nL (S) (ws) (vs) (pc + 1) (.int v :: st)) : xJ p l e R s m args below meth c cells slots Q D cl A nL (S) (ws) (vs) (pc) (.ref a :: st) := fun H locs ls hP hD hS hl => va_alen G.1 G.2.1 G.2.2.2.2.2.1 hP q0 t0 ha ht hv d (k H locs ls hP hD hS hl)
theorem x_mmax (G : xG p s m args c cc nL own Ts NW D cl tys A) {index : Nat} {x y : Int32} (hlink : Cond.methodLink own index Lib.Math.max.name ∈ Ts) (hstat : Cond.static Lib.Math.max.name ∈ Ts) (hini : Cond.initialized "java/lang/Math" ∈ Ts) (hcode : Cond.code Lib.Math.max.name Lib.Math.max.code 2 (some .int) ∈ Ts) (hR : 1 ≤ R.frames ∧ (st.map fun v => v.category).sum + 13 ≤ R.locals ∧ cells ≤ R.cells ∧ slots ≤ R.slots) (d : decode cc pc = .ok (.invokestatic index, 3)) (k : xJ p l e R s m args below meth c cells slots Q D cl A nL (S) (ws) (vs) (pc + 3) (.int (if x < y then y else x) :: st)) : xJ p l e R s m args below meth c cells slots Q D cl A nL (S) (ws) (vs) (pc) (.int y :: .int x :: st) := fun H locs ls hP hD hS hl => va_mmax G.1 G.2.1 (G.2.2.1.trans hl.1.symm) G.2.2.2.1 (G.2.2.2.2.1 _ hlink) (G.2.2.2.2.1 _ hstat) (G.2.2.2.2.1 _ hini) (G.2.2.2.2.1 _ hcode) hR.1 hR.2.1 hR.2.2.1 hR.2.2.2 d (k H locs ls hP hD hS hl)
theorem x_mmin (G : xG p s m args c cc nL own Ts NW D cl tys A) {index : Nat} {x y : Int32} (hlink : Cond.methodLink own index Lib.Math.min.name ∈ Ts) (hstat : Cond.static Lib.Math.min.name ∈ Ts) (hini : Cond.initialized "java/lang/Math" ∈ Ts) (hcode : Cond.code Lib.Math.min.name Lib.Math.min.code 2 (some .int) ∈ Ts) (hR : 1 ≤ R.frames ∧ (st.map fun v => v.category).sum + 13 ≤ R.locals ∧ cells ≤ R.cells ∧ slots ≤ R.slots) (d : decode cc pc = .ok (.invokestatic index, 3)) (k : xJ p l e R s m args below meth c cells slots Q D cl A nL (S) (ws) (vs) (pc + 3) (.int (if y < x then y else x) :: st)) : xJ p l e R s m args below meth c cells slots Q D cl A nL (S) (ws) (vs) (pc) (.int y :: .int x :: st) := fun H locs ls hP hD hS hl => va_mmin G.1 G.2.1 (G.2.2.1.trans hl.1.symm) G.2.2.2.1 (G.2.2.2.2.1 _ hlink) (G.2.2.2.2.1 _ hstat) (G.2.2.2.2.1 _ hini) (G.2.2.2.2.1 _ hcode) hR.1 hR.2.1 hR.2.2.1 hR.2.2.2 d (k H locs ls hP hD hS hl)
theorem x_name {x : Int32} (k : ∀ z : Int32, z = x → xJ p l e R s m args below meth c cells slots Q D cl A nL (S) (ws) (vs) (pc) (.int z :: st)) : xJ p l e R s m args below meth c cells slots Q D cl A nL (S) (ws) (vs) (pc) (.int x :: st) := k x rfl
theorem x_top {x z : Int32} (h : x = z) (k : xJ p l e R s m args below meth c cells slots Q D cl A nL (S) (ws) (vs) (pc) (.int z :: st)) : xJ p l e R s m args below meth c cells slots Q D cl A nL (S) (ws) (vs) (pc) (.int x :: st) := h ▸ k
theorem x_topl {x z : Int64} (h : x = z) (k : xJ p l e R s m args below meth c cells slots Q D cl A nL (S) (ws) (vs) (pc) (.long z :: st)) : xJ p l e R s m args below meth c cells slots Q D cl A nL (S) (ws) (vs) (pc) (.long x :: st) := h ▸ k
theorem x_eq {ws2 : va_W} {vs2 : List Value} {pc2 : Nat} {st2 : List Value} (hw : ws = ws2) (hv : vs = vs2) (hp : pc = pc2) (ht : st = st2) (k : xJ p l e R s m args below meth c cells slots Q D cl A nL (S) (ws2) (vs2) (pc2) (st2)) : xJ p l e R s m args below meth c cells slots Q D cl A nL (S) (ws) (vs) (pc) (st) := by subst hw; subst hv; subst hp; subst ht; exact k
def xCi (l : Launch) (D : va_G) (cl : List vw_C) (tys : List (ClassId × FieldType)) (NW : List Cond) (wf : xSg → va_W) (y : MethodName) (Ts : List Cond) (d : Nat) (as : List Value) (σ : xSg) (post : Int32 → xSg → Prop) : Prop := ∀ sz : Nat, Met l y Ts { frames := d, cells := 0, slots := 0, locals := 40 * d } (va_Pc as (fun U => U.heap.size = sz ∧ va_P D cl (wf σ) U.heap ∧ va_K D cl tys U ∧ (∀ c ∈ NW, isNest c = true ∧ va_Nw c U) ∧ va_D (fun _ => True) (wf σ))) (va_Qi post (fun u t => va_P D cl (wf u) t.heap ∧ va_D (va_A (wf σ) sz) (wf u)) (va_A (wf σ) sz)) 0 0 (va_A (wf σ) sz)
theorem x_reti (G : xG p s m args c cc nL own Ts NW D cl tys A) {wf : xSg → va_W} {σ : xSg} {post : Int32 → xSg → Prop} {v : Int32} {rt : FieldType} (hr : meth.sig.returnType = some rt) (hlk : meth.locks = false) (hn : narrow rt (.int v) = .int v) (d : decode cc pc = .ok (.ireturn, 1)) (hp : post v σ) : xJ p l e R s m args below meth c 0 0 (MQ below (va_Qi post (fun u t => va_P D cl (wf u) t.heap ∧ va_D A (wf u)) A) args s 0 0 A) D cl A nL (va_S A s.heap) (wf σ) vs pc [.int v] := fun H locs ls hP hD hS hl => W.zret G.1 G.2.1 hr hn (fun t ht hW => ⟨⟨v, σ, rfl, hp, by rw [ht]; exact hP, hD⟩, hS.F ht⟩) hS.2.2 d hlk
theorem xCi.of {wf : xSg → va_W} {y : MethodName} {d : Nat} {as : List Value} {σ : xSg} {post : Int32 → xSg → Prop} {ret : Option FieldType} {Ts' : List Cond} (hT : Ts = Cond.code y cc nL ret :: Ts') (hy : plainName y.cls = true) (vs : List Value) (hvs : asL vs = lv_args 0 as) (hlen : (lg_sl as).length ≤ nL)
    (body : ∀ (p : Program) (e : Env) (s : State) (m : MethodId) (args : Array Value) (below : List Frame) (meth : Method) (c : Code) (A : Nat → Prop), xG p s m args c cc nL y.cls Ts NW D cl tys A → meth.sig.returnType = ret → meth.locks = false → xJ p l e { frames := d, cells := 0, slots := 0, locals := 40 * d } s m args below meth c 0 0 (MQ below (va_Qi post (fun u t => va_P D cl (wf u) t.heap ∧ va_D A (wf u)) A) args s 0 0 A) D cl A nL (va_S A s.heap) (wf σ) vs 0 []) : xCi l D cl tys NW wf y Ts d as σ post := by
  intro sz
  refine Met.ofW (cc := cc) (maxL := nL) (ret := ret) hy hT ?_
  intro p e s m args below meth c s₁ B hml hv
  obtain ⟨rfl, hsz, hP, hK, hN, hD0⟩ := hv
  subst hsz
  have hD := hD0.self (sz := s.heap.size)
  have hl := lv_entry as (n := nL) hlen
  rw [lg_entry_eq]
  generalize (lg_sl as ++ List.replicate (nL - (lg_sl as).length) Slot.unset).toArray = ls at hl ⊢
  rw [← hvs] at hl
  exact body p e s m _ below meth c (va_A (wf σ) s.heap.size) ⟨B.exec, B.bytes, hml, findClass_of_methodNamed B.named, atoms_spec (ws := Ts) B.pre, hK, hN, fun q h => Or.inr h⟩ B.returns B.notSynchronized s.heap [] ls hP hD va_S.rf (xLV.of hl)
def xCl (l : Launch) (D : va_G) (cl : List vw_C) (tys : List (ClassId × FieldType)) (NW : List Cond) (wf : xSg → va_W) (y : MethodName) (Ts : List Cond) (d : Nat) (as : List Value) (σ : xSg) (post : Int64 → xSg → Prop) : Prop := ∀ sz : Nat, Met l y Ts { frames := d, cells := 0, slots := 0, locals := 40 * d } (va_Pc as (fun U => U.heap.size = sz ∧ va_P D cl (wf σ) U.heap ∧ va_K D cl tys U ∧ (∀ c ∈ NW, isNest c = true ∧ va_Nw c U) ∧ va_D (fun _ => True) (wf σ))) (va_Ql post (fun u t => va_P D cl (wf u) t.heap ∧ va_D (va_A (wf σ) sz) (wf u)) (va_A (wf σ) sz)) 0 0 (va_A (wf σ) sz)
theorem x_retl (G : xG p s m args c cc nL own Ts NW D cl tys A) {wf : xSg → va_W} {σ : xSg} {post : Int64 → xSg → Prop} {v : Int64} (hr : meth.sig.returnType = some .long) (hlk : meth.locks = false) (d : decode cc pc = .ok (.lreturn, 1)) (hp : post v σ) : xJ p l e R s m args below meth c 0 0 (MQ below (va_Ql post (fun u t => va_P D cl (wf u) t.heap ∧ va_D A (wf u)) A) args s 0 0 A) D cl A nL (va_S A s.heap) (wf σ) vs pc [.long v] := fun H locs ls hP hD hS hl => W.lret G.1 G.2.1 hr (fun t ht hW => ⟨⟨v, σ, rfl, hp, by rw [ht]; exact hP, hD⟩, hS.F ht⟩) hS.2.2 d hlk
theorem xCl.of {wf : xSg → va_W} {y : MethodName} {d : Nat} {as : List Value} {σ : xSg} {post : Int64 → xSg → Prop} {ret : Option FieldType} {Ts' : List Cond} (hT : Ts = Cond.code y cc nL ret :: Ts') (hy : plainName y.cls = true) (vs : List Value) (hvs : asL vs = lv_args 0 as) (hlen : (lg_sl as).length ≤ nL)
    (body : ∀ (p : Program) (e : Env) (s : State) (m : MethodId) (args : Array Value) (below : List Frame) (meth : Method) (c : Code) (A : Nat → Prop), xG p s m args c cc nL y.cls Ts NW D cl tys A → meth.sig.returnType = ret → meth.locks = false → xJ p l e { frames := d, cells := 0, slots := 0, locals := 40 * d } s m args below meth c 0 0 (MQ below (va_Ql post (fun u t => va_P D cl (wf u) t.heap ∧ va_D A (wf u)) A) args s 0 0 A) D cl A nL (va_S A s.heap) (wf σ) vs 0 []) : xCl l D cl tys NW wf y Ts d as σ post := by
  intro sz
  refine Met.ofW (cc := cc) (maxL := nL) (ret := ret) hy hT ?_
  intro p e s m args below meth c s₁ B hml hv
  obtain ⟨rfl, hsz, hP, hK, hN, hD0⟩ := hv
  subst hsz
  have hD := hD0.self (sz := s.heap.size)
  have hl := lv_entry as (n := nL) hlen
  rw [lg_entry_eq]
  generalize (lg_sl as ++ List.replicate (nL - (lg_sl as).length) Slot.unset).toArray = ls at hl ⊢
  rw [← hvs] at hl
  exact body p e s m _ below meth c (va_A (wf σ) s.heap.size) ⟨B.exec, B.bytes, hml, findClass_of_methodNamed B.named, atoms_spec (ws := Ts) B.pre, hK, hN, fun q h => Or.inr h⟩ B.returns B.notSynchronized s.heap [] ls hP hD va_S.rf (xLV.of hl)
def xCv (l : Launch) (D : va_G) (cl : List vw_C) (tys : List (ClassId × FieldType)) (NW : List Cond) (wf : xSg → va_W) (y : MethodName) (Ts : List Cond) (d : Nat) (as : List Value) (σ : xSg) (post : xSg → Prop) : Prop := ∀ sz : Nat, Met l y Ts { frames := d, cells := 0, slots := 0, locals := 40 * d } (va_Pc as (fun U => U.heap.size = sz ∧ va_P D cl (wf σ) U.heap ∧ va_K D cl tys U ∧ (∀ c ∈ NW, isNest c = true ∧ va_Nw c U) ∧ va_D (fun _ => True) (wf σ))) (va_Qv post (fun u t => va_P D cl (wf u) t.heap ∧ va_D (va_A (wf σ) sz) (wf u)) (va_A (wf σ) sz)) 0 0 (va_A (wf σ) sz)
theorem x_retv (G : xG p s m args c cc nL own Ts NW D cl tys A) {wf : xSg → va_W} {σ : xSg} {post : xSg → Prop} (hr : meth.sig.returnType = none) (hlk : meth.locks = false) (d : decode cc pc = .ok (.return_, 1)) (hp : post σ) : xJ p l e R s m args below meth c 0 0 (MQ below (va_Qv post (fun u t => va_P D cl (wf u) t.heap ∧ va_D A (wf u)) A) args s 0 0 A) D cl A nL (va_S A s.heap) (wf σ) vs pc [] := fun H locs ls hP hD hS hl => W.vret G.1 G.2.1 hr (fun t ht hW => ⟨⟨σ, rfl, hp, by rw [ht]; exact hP, hD⟩, hS.F ht⟩) hS.2.2 d hlk
theorem xCv.of {wf : xSg → va_W} {y : MethodName} {d : Nat} {as : List Value} {σ : xSg} {post : xSg → Prop} {ret : Option FieldType} {Ts' : List Cond} (hT : Ts = Cond.code y cc nL ret :: Ts') (hy : plainName y.cls = true) (vs : List Value) (hvs : asL vs = lv_args 0 as) (hlen : (lg_sl as).length ≤ nL)
    (body : ∀ (p : Program) (e : Env) (s : State) (m : MethodId) (args : Array Value) (below : List Frame) (meth : Method) (c : Code) (A : Nat → Prop), xG p s m args c cc nL y.cls Ts NW D cl tys A → meth.sig.returnType = ret → meth.locks = false → xJ p l e { frames := d, cells := 0, slots := 0, locals := 40 * d } s m args below meth c 0 0 (MQ below (va_Qv post (fun u t => va_P D cl (wf u) t.heap ∧ va_D A (wf u)) A) args s 0 0 A) D cl A nL (va_S A s.heap) (wf σ) vs 0 []) : xCv l D cl tys NW wf y Ts d as σ post := by
  intro sz
  refine Met.ofW (cc := cc) (maxL := nL) (ret := ret) hy hT ?_
  intro p e s m args below meth c s₁ B hml hv
  obtain ⟨rfl, hsz, hP, hK, hN, hD0⟩ := hv
  subst hsz
  have hD := hD0.self (sz := s.heap.size)
  have hl := lv_entry as (n := nL) hlen
  rw [lg_entry_eq]
  generalize (lg_sl as ++ List.replicate (nL - (lg_sl as).length) Slot.unset).toArray = ls at hl ⊢
  rw [← hvs] at hl
  exact body p e s m _ below meth c (va_A (wf σ) s.heap.size) ⟨B.exec, B.bytes, hml, findClass_of_methodNamed B.named, atoms_spec (ws := Ts) B.pre, hK, hN, fun q h => Or.inr h⟩ B.returns B.notSynchronized s.heap [] ls hP hD va_S.rf (xLV.of hl)
theorem x_free {ws : va_W} {H0 H : Heap} {locs : List Loc} {A : Nat → Prop} (hD : va_D A ws) (hS : va_S A H0 H locs) (hA : ∀ q : Nat, H0.size ≤ q → A q) : ∀ q, va_A ws H.size q → A q := fun q h => by
  rcases h with ⟨k, e, hk⟩ | h
  · exact hD.2 k _ hk
  · exact hA q (Nat.le_trans hS.1 h)
theorem x_callV0i (G : xG p s m args c cc nL own Ts NW D cl tys A) {wf : xSg → va_W} {σ : xSg} {b : Nat} {C : String} {y : MethodName} {bytes : ByteArray} {maxL index d : Nat} {ret : Option FieldType} {Tc : List Cond} {post : Int32 → xSg → Prop} (hM : xCi l D cl tys NW wf y Tc d [.ref b] σ post) (q0 : Nat) {fs : List Value} {ci : Nat} {T : u_T} {N : Nat} (he : (wf σ)[q0]? = some (b, .inr (ci, fs))) (hc : cl[ci]? = some (C, T, N)) (cw : CallW R s args own C index y bytes maxL ret Tc { frames := d, cells := 0, slots := 0, locals := 40 * d } 0 0 0) (dd : decode cc pc = .ok (.invokevirtual index, 3)) (hroom : (st.map fun v => v.category).sum ≤ 8) (hcs : cells ≤ R.cells ∧ slots ≤ R.slots) (k : ∀ (r : Int32) (u : xSg), post r u → xJ p l e R s m args below meth c cells slots Q D cl A nL (va_S A s.heap) (wf u) (vs) (pc + 3) (.int r :: st)) : xJ p l e R s m args below meth c cells slots Q D cl A nL (va_S A s.heap) (wf σ) (vs) (pc) (.ref b :: st) := fun H locs ls hP hD hS hl => by
  have hFc := x_free hD hS G.2.2.2.2.2.2.2
  refine va_calli (va_runV (As := []) (rest := st) ⟨G.1, G.2.1, G.2.2.1, G.2.2.2.1, G.2.2.2.2.1⟩ (hM H.size) cw ⟨fun a U g mk q => by obtain ⟨q0, q1, qP, qK, qN, qD⟩ := q; exact ⟨q0, q1, qP, va_K.moved (u := U) (U := U.calling g mk a) (Vm.Alike.refl U.vm) qK, fun c hc => ⟨(qN c hc).1, nest_same (s := U) (U := U.calling g mk a) (qN c hc).1 rfl (qN c hc).2⟩, qD⟩, va_recv G.2.2.2.2.2.1 hP hc he, fun U hU hW => ⟨rfl, by rw [hU], by rw [hU]; exact hP, va_K.moved hW.alike G.2.2.2.2.2.1, fun c hc => ⟨(G.2.2.2.2.2.2.1 c hc).1, nest_warm (G.2.2.2.2.2.2.1 c hc).1 hW (G.2.2.2.2.2.2.1 c hc).2⟩, hD.weaken (fun _ _ _ _ => trivial)⟩⟩ rfl rfl hl.1 rfl (lv_room hroom) dd ⟨hcs.1, hcs.2⟩) hS (fun q _ h => hFc q h) hFc (fun r u t H1 locs1 ht hvm hw hB hz1 hk1 hS1 => ?_)
  obtain ⟨hP1, hD1⟩ := hB
  rw [ht] at hP1
  exact k r u hw H1 locs1 ls hP1 (hD1.weaken (fun _ q _ h => hFc q.1 h)) hS1 hl
theorem x_callV0l (G : xG p s m args c cc nL own Ts NW D cl tys A) {wf : xSg → va_W} {σ : xSg} {b : Nat} {C : String} {y : MethodName} {bytes : ByteArray} {maxL index d : Nat} {ret : Option FieldType} {Tc : List Cond} {post : Int64 → xSg → Prop} (hM : xCl l D cl tys NW wf y Tc d [.ref b] σ post) (q0 : Nat) {fs : List Value} {ci : Nat} {T : u_T} {N : Nat} (he : (wf σ)[q0]? = some (b, .inr (ci, fs))) (hc : cl[ci]? = some (C, T, N)) (cw : CallW R s args own C index y bytes maxL ret Tc { frames := d, cells := 0, slots := 0, locals := 40 * d } 0 0 0) (dd : decode cc pc = .ok (.invokevirtual index, 3)) (hroom : (st.map fun v => v.category).sum ≤ 8) (hcs : cells ≤ R.cells ∧ slots ≤ R.slots) (k : ∀ (r : Int64) (u : xSg), post r u → xJ p l e R s m args below meth c cells slots Q D cl A nL (va_S A s.heap) (wf u) (vs) (pc + 3) (.long r :: st)) : xJ p l e R s m args below meth c cells slots Q D cl A nL (va_S A s.heap) (wf σ) (vs) (pc) (.ref b :: st) := fun H locs ls hP hD hS hl => by
  have hFc := x_free hD hS G.2.2.2.2.2.2.2
  refine va_calll (va_runV (As := []) (rest := st) ⟨G.1, G.2.1, G.2.2.1, G.2.2.2.1, G.2.2.2.2.1⟩ (hM H.size) cw ⟨fun a U g mk q => by obtain ⟨q0, q1, qP, qK, qN, qD⟩ := q; exact ⟨q0, q1, qP, va_K.moved (u := U) (U := U.calling g mk a) (Vm.Alike.refl U.vm) qK, fun c hc => ⟨(qN c hc).1, nest_same (s := U) (U := U.calling g mk a) (qN c hc).1 rfl (qN c hc).2⟩, qD⟩, va_recv G.2.2.2.2.2.1 hP hc he, fun U hU hW => ⟨rfl, by rw [hU], by rw [hU]; exact hP, va_K.moved hW.alike G.2.2.2.2.2.1, fun c hc => ⟨(G.2.2.2.2.2.2.1 c hc).1, nest_warm (G.2.2.2.2.2.2.1 c hc).1 hW (G.2.2.2.2.2.2.1 c hc).2⟩, hD.weaken (fun _ _ _ _ => trivial)⟩⟩ rfl rfl hl.1 rfl (lv_room hroom) dd ⟨hcs.1, hcs.2⟩) hS (fun q _ h => hFc q h) hFc (fun r u t H1 locs1 ht hvm hw hB hz1 hk1 hS1 => ?_)
  obtain ⟨hP1, hD1⟩ := hB
  rw [ht] at hP1
  exact k r u hw H1 locs1 ls hP1 (hD1.weaken (fun _ q _ h => hFc q.1 h)) hS1 hl
theorem x_callV0v (G : xG p s m args c cc nL own Ts NW D cl tys A) {wf : xSg → va_W} {σ : xSg} {b : Nat} {C : String} {y : MethodName} {bytes : ByteArray} {maxL index d : Nat} {ret : Option FieldType} {Tc : List Cond} {post : xSg → Prop} (hM : xCv l D cl tys NW wf y Tc d [.ref b] σ post) (q0 : Nat) {fs : List Value} {ci : Nat} {T : u_T} {N : Nat} (he : (wf σ)[q0]? = some (b, .inr (ci, fs))) (hc : cl[ci]? = some (C, T, N)) (cw : CallW R s args own C index y bytes maxL ret Tc { frames := d, cells := 0, slots := 0, locals := 40 * d } 0 0 0) (dd : decode cc pc = .ok (.invokevirtual index, 3)) (hroom : (st.map fun v => v.category).sum ≤ 8) (hcs : cells ≤ R.cells ∧ slots ≤ R.slots) (k : ∀ (u : xSg), post u → xJ p l e R s m args below meth c cells slots Q D cl A nL (va_S A s.heap) (wf u) (vs) (pc + 3) (st)) : xJ p l e R s m args below meth c cells slots Q D cl A nL (va_S A s.heap) (wf σ) (vs) (pc) (.ref b :: st) := fun H locs ls hP hD hS hl => by
  have hFc := x_free hD hS G.2.2.2.2.2.2.2
  refine va_callv (va_runV (As := []) (rest := st) ⟨G.1, G.2.1, G.2.2.1, G.2.2.2.1, G.2.2.2.2.1⟩ (hM H.size) cw ⟨fun a U g mk q => by obtain ⟨q0, q1, qP, qK, qN, qD⟩ := q; exact ⟨q0, q1, qP, va_K.moved (u := U) (U := U.calling g mk a) (Vm.Alike.refl U.vm) qK, fun c hc => ⟨(qN c hc).1, nest_same (s := U) (U := U.calling g mk a) (qN c hc).1 rfl (qN c hc).2⟩, qD⟩, va_recv G.2.2.2.2.2.1 hP hc he, fun U hU hW => ⟨rfl, by rw [hU], by rw [hU]; exact hP, va_K.moved hW.alike G.2.2.2.2.2.1, fun c hc => ⟨(G.2.2.2.2.2.2.1 c hc).1, nest_warm (G.2.2.2.2.2.2.1 c hc).1 hW (G.2.2.2.2.2.2.1 c hc).2⟩, hD.weaken (fun _ _ _ _ => trivial)⟩⟩ rfl rfl hl.1 rfl (lv_room hroom) dd ⟨hcs.1, hcs.2⟩) hS (fun q _ h => hFc q h) hFc (fun u t H1 locs1 ht hvm hw hB hz1 hk1 hS1 => ?_)
  obtain ⟨hP1, hD1⟩ := hB
  rw [ht] at hP1
  exact k u hw H1 locs1 ls hP1 (hD1.weaken (fun _ q _ h => hFc q.1 h)) hS1 hl
theorem x_callVN0i (G : xG p s m args c cc nL own Ts NW D cl tys A) {wf : xSg → va_W} {σ : xSg} {b : Nat} {C : String} {host : String} {y : MethodName} {bytes : ByteArray} {maxL index d : Nat} {ret : Option FieldType} {Tc : List Cond} {post : Int32 → xSg → Prop} (hM : xCi l D cl tys NW wf y Tc d [.ref b] σ post) (q0 : Nat) {fs : List Value} {ci : Nat} {T : u_T} {N : Nat} (he : (wf σ)[q0]? = some (b, .inr (ci, fs))) (hc : cl[ci]? = some (C, T, N)) (cw : (va_CN R s args own index y host bytes maxL ret Tc { frames := d, cells := 0, slots := 0, locals := 40 * d } 0 0 0 ∧ (Cond.instanceMethod y).before args s = true ∧ (Cond.selects C y y).before args s = true)) (dd : decode cc pc = .ok (.invokevirtual index, 3)) (hroom : (st.map fun v => v.category).sum ≤ 8) (hcs : cells ≤ R.cells ∧ slots ≤ R.slots) (k : ∀ (r : Int32) (u : xSg), post r u → xJ p l e R s m args below meth c cells slots Q D cl A nL (va_S A s.heap) (wf u) (vs) (pc + 3) (.int r :: st)) : xJ p l e R s m args below meth c cells slots Q D cl A nL (va_S A s.heap) (wf σ) (vs) (pc) (.ref b :: st) := fun H locs ls hP hD hS hl => by
  have hFc := x_free hD hS G.2.2.2.2.2.2.2
  refine va_calli (va_runVN (As := []) (rest := st) ⟨G.1, G.2.1, G.2.2.1, G.2.2.2.1, G.2.2.2.2.1⟩ (hM H.size) cw ⟨fun a U g mk q => by obtain ⟨q0, q1, qP, qK, qN, qD⟩ := q; exact ⟨q0, q1, qP, va_K.moved (u := U) (U := U.calling g mk a) (Vm.Alike.refl U.vm) qK, fun c hc => ⟨(qN c hc).1, nest_same (s := U) (U := U.calling g mk a) (qN c hc).1 rfl (qN c hc).2⟩, qD⟩, va_recv G.2.2.2.2.2.1 hP hc he, fun U hU hW => ⟨rfl, by rw [hU], by rw [hU]; exact hP, va_K.moved hW.alike G.2.2.2.2.2.1, fun c hc => ⟨(G.2.2.2.2.2.2.1 c hc).1, nest_warm (G.2.2.2.2.2.2.1 c hc).1 hW (G.2.2.2.2.2.2.1 c hc).2⟩, hD.weaken (fun _ _ _ _ => trivial)⟩⟩ rfl rfl hl.1 rfl (lv_room hroom) dd ⟨hcs.1, hcs.2⟩) hS (fun q _ h => hFc q h) hFc (fun r u t H1 locs1 ht hvm hw hB hz1 hk1 hS1 => ?_)
  obtain ⟨hP1, hD1⟩ := hB
  rw [ht] at hP1
  exact k r u hw H1 locs1 ls hP1 (hD1.weaken (fun _ q _ h => hFc q.1 h)) hS1 hl
theorem x_callVN0l (G : xG p s m args c cc nL own Ts NW D cl tys A) {wf : xSg → va_W} {σ : xSg} {b : Nat} {C : String} {host : String} {y : MethodName} {bytes : ByteArray} {maxL index d : Nat} {ret : Option FieldType} {Tc : List Cond} {post : Int64 → xSg → Prop} (hM : xCl l D cl tys NW wf y Tc d [.ref b] σ post) (q0 : Nat) {fs : List Value} {ci : Nat} {T : u_T} {N : Nat} (he : (wf σ)[q0]? = some (b, .inr (ci, fs))) (hc : cl[ci]? = some (C, T, N)) (cw : (va_CN R s args own index y host bytes maxL ret Tc { frames := d, cells := 0, slots := 0, locals := 40 * d } 0 0 0 ∧ (Cond.instanceMethod y).before args s = true ∧ (Cond.selects C y y).before args s = true)) (dd : decode cc pc = .ok (.invokevirtual index, 3)) (hroom : (st.map fun v => v.category).sum ≤ 8) (hcs : cells ≤ R.cells ∧ slots ≤ R.slots) (k : ∀ (r : Int64) (u : xSg), post r u → xJ p l e R s m args below meth c cells slots Q D cl A nL (va_S A s.heap) (wf u) (vs) (pc + 3) (.long r :: st)) : xJ p l e R s m args below meth c cells slots Q D cl A nL (va_S A s.heap) (wf σ) (vs) (pc) (.ref b :: st) := fun H locs ls hP hD hS hl => by
  have hFc := x_free hD hS G.2.2.2.2.2.2.2
  refine va_calll (va_runVN (As := []) (rest := st) ⟨G.1, G.2.1, G.2.2.1, G.2.2.2.1, G.2.2.2.2.1⟩ (hM H.size) cw ⟨fun a U g mk q => by obtain ⟨q0, q1, qP, qK, qN, qD⟩ := q; exact ⟨q0, q1, qP, va_K.moved (u := U) (U := U.calling g mk a) (Vm.Alike.refl U.vm) qK, fun c hc => ⟨(qN c hc).1, nest_same (s := U) (U := U.calling g mk a) (qN c hc).1 rfl (qN c hc).2⟩, qD⟩, va_recv G.2.2.2.2.2.1 hP hc he, fun U hU hW => ⟨rfl, by rw [hU], by rw [hU]; exact hP, va_K.moved hW.alike G.2.2.2.2.2.1, fun c hc => ⟨(G.2.2.2.2.2.2.1 c hc).1, nest_warm (G.2.2.2.2.2.2.1 c hc).1 hW (G.2.2.2.2.2.2.1 c hc).2⟩, hD.weaken (fun _ _ _ _ => trivial)⟩⟩ rfl rfl hl.1 rfl (lv_room hroom) dd ⟨hcs.1, hcs.2⟩) hS (fun q _ h => hFc q h) hFc (fun r u t H1 locs1 ht hvm hw hB hz1 hk1 hS1 => ?_)
  obtain ⟨hP1, hD1⟩ := hB
  rw [ht] at hP1
  exact k r u hw H1 locs1 ls hP1 (hD1.weaken (fun _ q _ h => hFc q.1 h)) hS1 hl
theorem x_callVN0v (G : xG p s m args c cc nL own Ts NW D cl tys A) {wf : xSg → va_W} {σ : xSg} {b : Nat} {C : String} {host : String} {y : MethodName} {bytes : ByteArray} {maxL index d : Nat} {ret : Option FieldType} {Tc : List Cond} {post : xSg → Prop} (hM : xCv l D cl tys NW wf y Tc d [.ref b] σ post) (q0 : Nat) {fs : List Value} {ci : Nat} {T : u_T} {N : Nat} (he : (wf σ)[q0]? = some (b, .inr (ci, fs))) (hc : cl[ci]? = some (C, T, N)) (cw : (va_CN R s args own index y host bytes maxL ret Tc { frames := d, cells := 0, slots := 0, locals := 40 * d } 0 0 0 ∧ (Cond.instanceMethod y).before args s = true ∧ (Cond.selects C y y).before args s = true)) (dd : decode cc pc = .ok (.invokevirtual index, 3)) (hroom : (st.map fun v => v.category).sum ≤ 8) (hcs : cells ≤ R.cells ∧ slots ≤ R.slots) (k : ∀ (u : xSg), post u → xJ p l e R s m args below meth c cells slots Q D cl A nL (va_S A s.heap) (wf u) (vs) (pc + 3) (st)) : xJ p l e R s m args below meth c cells slots Q D cl A nL (va_S A s.heap) (wf σ) (vs) (pc) (.ref b :: st) := fun H locs ls hP hD hS hl => by
  have hFc := x_free hD hS G.2.2.2.2.2.2.2
  refine va_callv (va_runVN (As := []) (rest := st) ⟨G.1, G.2.1, G.2.2.1, G.2.2.2.1, G.2.2.2.2.1⟩ (hM H.size) cw ⟨fun a U g mk q => by obtain ⟨q0, q1, qP, qK, qN, qD⟩ := q; exact ⟨q0, q1, qP, va_K.moved (u := U) (U := U.calling g mk a) (Vm.Alike.refl U.vm) qK, fun c hc => ⟨(qN c hc).1, nest_same (s := U) (U := U.calling g mk a) (qN c hc).1 rfl (qN c hc).2⟩, qD⟩, va_recv G.2.2.2.2.2.1 hP hc he, fun U hU hW => ⟨rfl, by rw [hU], by rw [hU]; exact hP, va_K.moved hW.alike G.2.2.2.2.2.1, fun c hc => ⟨(G.2.2.2.2.2.2.1 c hc).1, nest_warm (G.2.2.2.2.2.2.1 c hc).1 hW (G.2.2.2.2.2.2.1 c hc).2⟩, hD.weaken (fun _ _ _ _ => trivial)⟩⟩ rfl rfl hl.1 rfl (lv_room hroom) dd ⟨hcs.1, hcs.2⟩) hS (fun q _ h => hFc q h) hFc (fun u t H1 locs1 ht hvm hw hB hz1 hk1 hS1 => ?_)
  obtain ⟨hP1, hD1⟩ := hB
  rw [ht] at hP1
  exact k u hw H1 locs1 ls hP1 (hD1.weaken (fun _ q _ h => hFc q.1 h)) hS1 hl
theorem x_callS0i (G : xG p s m args c cc nL own Ts NW D cl tys A) {wf : xSg → va_W} {σ : xSg} {y : MethodName} {bytes : ByteArray} {maxL index d : Nat} {ret : Option FieldType} {Tc : List Cond} {post : Int32 → xSg → Prop} (hM : xCi l D cl tys NW wf y Tc d [] σ post) (cw : (CallB R s args own index y bytes maxL ret Tc { frames := d, cells := 0, slots := 0, locals := 40 * d } 0 0 0 ∧ (Cond.static y).before args s = true)) (dd : decode cc pc = .ok (.invokestatic index, 3)) (hroom : (st.map fun v => v.category).sum ≤ 8) (hcs : cells ≤ R.cells ∧ slots ≤ R.slots) (k : ∀ (r : Int32) (u : xSg), post r u → xJ p l e R s m args below meth c cells slots Q D cl A nL (va_S A s.heap) (wf u) (vs) (pc + 3) (.int r :: st)) : xJ p l e R s m args below meth c cells slots Q D cl A nL (va_S A s.heap) (wf σ) (vs) (pc) (st) := fun H locs ls hP hD hS hl => by
  have hFc := x_free hD hS G.2.2.2.2.2.2.2
  refine va_calli (va_runS (As := []) (rest := st) ⟨G.1, G.2.1, G.2.2.1, G.2.2.2.1, G.2.2.2.2.1⟩ (hM H.size) cw ⟨fun a U g mk q => by obtain ⟨q0, q1, qP, qK, qN, qD⟩ := q; exact ⟨q0, q1, qP, va_K.moved (u := U) (U := U.calling g mk a) (Vm.Alike.refl U.vm) qK, fun c hc => ⟨(qN c hc).1, nest_same (s := U) (U := U.calling g mk a) (qN c hc).1 rfl (qN c hc).2⟩, qD⟩, fun U hU hW => ⟨rfl, by rw [hU], by rw [hU]; exact hP, va_K.moved hW.alike G.2.2.2.2.2.1, fun c hc => ⟨(G.2.2.2.2.2.2.1 c hc).1, nest_warm (G.2.2.2.2.2.2.1 c hc).1 hW (G.2.2.2.2.2.2.1 c hc).2⟩, hD.weaken (fun _ _ _ _ => trivial)⟩⟩ rfl rfl hl.1 rfl (lv_room hroom) dd ⟨hcs.1, hcs.2⟩) hS (fun q _ h => hFc q h) hFc (fun r u t H1 locs1 ht hvm hw hB hz1 hk1 hS1 => ?_)
  obtain ⟨hP1, hD1⟩ := hB
  rw [ht] at hP1
  exact k r u hw H1 locs1 ls hP1 (hD1.weaken (fun _ q _ h => hFc q.1 h)) hS1 hl
theorem x_callS0l (G : xG p s m args c cc nL own Ts NW D cl tys A) {wf : xSg → va_W} {σ : xSg} {y : MethodName} {bytes : ByteArray} {maxL index d : Nat} {ret : Option FieldType} {Tc : List Cond} {post : Int64 → xSg → Prop} (hM : xCl l D cl tys NW wf y Tc d [] σ post) (cw : (CallB R s args own index y bytes maxL ret Tc { frames := d, cells := 0, slots := 0, locals := 40 * d } 0 0 0 ∧ (Cond.static y).before args s = true)) (dd : decode cc pc = .ok (.invokestatic index, 3)) (hroom : (st.map fun v => v.category).sum ≤ 8) (hcs : cells ≤ R.cells ∧ slots ≤ R.slots) (k : ∀ (r : Int64) (u : xSg), post r u → xJ p l e R s m args below meth c cells slots Q D cl A nL (va_S A s.heap) (wf u) (vs) (pc + 3) (.long r :: st)) : xJ p l e R s m args below meth c cells slots Q D cl A nL (va_S A s.heap) (wf σ) (vs) (pc) (st) := fun H locs ls hP hD hS hl => by
  have hFc := x_free hD hS G.2.2.2.2.2.2.2
  refine va_calll (va_runS (As := []) (rest := st) ⟨G.1, G.2.1, G.2.2.1, G.2.2.2.1, G.2.2.2.2.1⟩ (hM H.size) cw ⟨fun a U g mk q => by obtain ⟨q0, q1, qP, qK, qN, qD⟩ := q; exact ⟨q0, q1, qP, va_K.moved (u := U) (U := U.calling g mk a) (Vm.Alike.refl U.vm) qK, fun c hc => ⟨(qN c hc).1, nest_same (s := U) (U := U.calling g mk a) (qN c hc).1 rfl (qN c hc).2⟩, qD⟩, fun U hU hW => ⟨rfl, by rw [hU], by rw [hU]; exact hP, va_K.moved hW.alike G.2.2.2.2.2.1, fun c hc => ⟨(G.2.2.2.2.2.2.1 c hc).1, nest_warm (G.2.2.2.2.2.2.1 c hc).1 hW (G.2.2.2.2.2.2.1 c hc).2⟩, hD.weaken (fun _ _ _ _ => trivial)⟩⟩ rfl rfl hl.1 rfl (lv_room hroom) dd ⟨hcs.1, hcs.2⟩) hS (fun q _ h => hFc q h) hFc (fun r u t H1 locs1 ht hvm hw hB hz1 hk1 hS1 => ?_)
  obtain ⟨hP1, hD1⟩ := hB
  rw [ht] at hP1
  exact k r u hw H1 locs1 ls hP1 (hD1.weaken (fun _ q _ h => hFc q.1 h)) hS1 hl
theorem x_callS0v (G : xG p s m args c cc nL own Ts NW D cl tys A) {wf : xSg → va_W} {σ : xSg} {y : MethodName} {bytes : ByteArray} {maxL index d : Nat} {ret : Option FieldType} {Tc : List Cond} {post : xSg → Prop} (hM : xCv l D cl tys NW wf y Tc d [] σ post) (cw : (CallB R s args own index y bytes maxL ret Tc { frames := d, cells := 0, slots := 0, locals := 40 * d } 0 0 0 ∧ (Cond.static y).before args s = true)) (dd : decode cc pc = .ok (.invokestatic index, 3)) (hroom : (st.map fun v => v.category).sum ≤ 8) (hcs : cells ≤ R.cells ∧ slots ≤ R.slots) (k : ∀ (u : xSg), post u → xJ p l e R s m args below meth c cells slots Q D cl A nL (va_S A s.heap) (wf u) (vs) (pc + 3) (st)) : xJ p l e R s m args below meth c cells slots Q D cl A nL (va_S A s.heap) (wf σ) (vs) (pc) (st) := fun H locs ls hP hD hS hl => by
  have hFc := x_free hD hS G.2.2.2.2.2.2.2
  refine va_callv (va_runS (As := []) (rest := st) ⟨G.1, G.2.1, G.2.2.1, G.2.2.2.1, G.2.2.2.2.1⟩ (hM H.size) cw ⟨fun a U g mk q => by obtain ⟨q0, q1, qP, qK, qN, qD⟩ := q; exact ⟨q0, q1, qP, va_K.moved (u := U) (U := U.calling g mk a) (Vm.Alike.refl U.vm) qK, fun c hc => ⟨(qN c hc).1, nest_same (s := U) (U := U.calling g mk a) (qN c hc).1 rfl (qN c hc).2⟩, qD⟩, fun U hU hW => ⟨rfl, by rw [hU], by rw [hU]; exact hP, va_K.moved hW.alike G.2.2.2.2.2.1, fun c hc => ⟨(G.2.2.2.2.2.2.1 c hc).1, nest_warm (G.2.2.2.2.2.2.1 c hc).1 hW (G.2.2.2.2.2.2.1 c hc).2⟩, hD.weaken (fun _ _ _ _ => trivial)⟩⟩ rfl rfl hl.1 rfl (lv_room hroom) dd ⟨hcs.1, hcs.2⟩) hS (fun q _ h => hFc q h) hFc (fun u t H1 locs1 ht hvm hw hB hz1 hk1 hS1 => ?_)
  obtain ⟨hP1, hD1⟩ := hB
  rw [ht] at hP1
  exact k u hw H1 locs1 ls hP1 (hD1.weaken (fun _ q _ h => hFc q.1 h)) hS1 hl
theorem x_callSN0i (G : xG p s m args c cc nL own Ts NW D cl tys A) {wf : xSg → va_W} {σ : xSg} {host : String} {y : MethodName} {bytes : ByteArray} {maxL index d : Nat} {ret : Option FieldType} {Tc : List Cond} {post : Int32 → xSg → Prop} (hM : xCi l D cl tys NW wf y Tc d [] σ post) (cw : (va_CN R s args own index y host bytes maxL ret Tc { frames := d, cells := 0, slots := 0, locals := 40 * d } 0 0 0 ∧ (Cond.static y).before args s = true ∧ True)) (dd : decode cc pc = .ok (.invokestatic index, 3)) (hroom : (st.map fun v => v.category).sum ≤ 8) (hcs : cells ≤ R.cells ∧ slots ≤ R.slots) (k : ∀ (r : Int32) (u : xSg), post r u → xJ p l e R s m args below meth c cells slots Q D cl A nL (va_S A s.heap) (wf u) (vs) (pc + 3) (.int r :: st)) : xJ p l e R s m args below meth c cells slots Q D cl A nL (va_S A s.heap) (wf σ) (vs) (pc) (st) := fun H locs ls hP hD hS hl => by
  have hFc := x_free hD hS G.2.2.2.2.2.2.2
  refine va_calli (va_runSN (As := []) (rest := st) ⟨G.1, G.2.1, G.2.2.1, G.2.2.2.1, G.2.2.2.2.1⟩ (hM H.size) cw ⟨fun a U g mk q => by obtain ⟨q0, q1, qP, qK, qN, qD⟩ := q; exact ⟨q0, q1, qP, va_K.moved (u := U) (U := U.calling g mk a) (Vm.Alike.refl U.vm) qK, fun c hc => ⟨(qN c hc).1, nest_same (s := U) (U := U.calling g mk a) (qN c hc).1 rfl (qN c hc).2⟩, qD⟩, fun U hU hW => ⟨rfl, by rw [hU], by rw [hU]; exact hP, va_K.moved hW.alike G.2.2.2.2.2.1, fun c hc => ⟨(G.2.2.2.2.2.2.1 c hc).1, nest_warm (G.2.2.2.2.2.2.1 c hc).1 hW (G.2.2.2.2.2.2.1 c hc).2⟩, hD.weaken (fun _ _ _ _ => trivial)⟩⟩ rfl rfl hl.1 rfl (lv_room hroom) dd ⟨hcs.1, hcs.2⟩) hS (fun q _ h => hFc q h) hFc (fun r u t H1 locs1 ht hvm hw hB hz1 hk1 hS1 => ?_)
  obtain ⟨hP1, hD1⟩ := hB
  rw [ht] at hP1
  exact k r u hw H1 locs1 ls hP1 (hD1.weaken (fun _ q _ h => hFc q.1 h)) hS1 hl
theorem x_callSN0l (G : xG p s m args c cc nL own Ts NW D cl tys A) {wf : xSg → va_W} {σ : xSg} {host : String} {y : MethodName} {bytes : ByteArray} {maxL index d : Nat} {ret : Option FieldType} {Tc : List Cond} {post : Int64 → xSg → Prop} (hM : xCl l D cl tys NW wf y Tc d [] σ post) (cw : (va_CN R s args own index y host bytes maxL ret Tc { frames := d, cells := 0, slots := 0, locals := 40 * d } 0 0 0 ∧ (Cond.static y).before args s = true ∧ True)) (dd : decode cc pc = .ok (.invokestatic index, 3)) (hroom : (st.map fun v => v.category).sum ≤ 8) (hcs : cells ≤ R.cells ∧ slots ≤ R.slots) (k : ∀ (r : Int64) (u : xSg), post r u → xJ p l e R s m args below meth c cells slots Q D cl A nL (va_S A s.heap) (wf u) (vs) (pc + 3) (.long r :: st)) : xJ p l e R s m args below meth c cells slots Q D cl A nL (va_S A s.heap) (wf σ) (vs) (pc) (st) := fun H locs ls hP hD hS hl => by
  have hFc := x_free hD hS G.2.2.2.2.2.2.2
  refine va_calll (va_runSN (As := []) (rest := st) ⟨G.1, G.2.1, G.2.2.1, G.2.2.2.1, G.2.2.2.2.1⟩ (hM H.size) cw ⟨fun a U g mk q => by obtain ⟨q0, q1, qP, qK, qN, qD⟩ := q; exact ⟨q0, q1, qP, va_K.moved (u := U) (U := U.calling g mk a) (Vm.Alike.refl U.vm) qK, fun c hc => ⟨(qN c hc).1, nest_same (s := U) (U := U.calling g mk a) (qN c hc).1 rfl (qN c hc).2⟩, qD⟩, fun U hU hW => ⟨rfl, by rw [hU], by rw [hU]; exact hP, va_K.moved hW.alike G.2.2.2.2.2.1, fun c hc => ⟨(G.2.2.2.2.2.2.1 c hc).1, nest_warm (G.2.2.2.2.2.2.1 c hc).1 hW (G.2.2.2.2.2.2.1 c hc).2⟩, hD.weaken (fun _ _ _ _ => trivial)⟩⟩ rfl rfl hl.1 rfl (lv_room hroom) dd ⟨hcs.1, hcs.2⟩) hS (fun q _ h => hFc q h) hFc (fun r u t H1 locs1 ht hvm hw hB hz1 hk1 hS1 => ?_)
  obtain ⟨hP1, hD1⟩ := hB
  rw [ht] at hP1
  exact k r u hw H1 locs1 ls hP1 (hD1.weaken (fun _ q _ h => hFc q.1 h)) hS1 hl
theorem x_callSN0v (G : xG p s m args c cc nL own Ts NW D cl tys A) {wf : xSg → va_W} {σ : xSg} {host : String} {y : MethodName} {bytes : ByteArray} {maxL index d : Nat} {ret : Option FieldType} {Tc : List Cond} {post : xSg → Prop} (hM : xCv l D cl tys NW wf y Tc d [] σ post) (cw : (va_CN R s args own index y host bytes maxL ret Tc { frames := d, cells := 0, slots := 0, locals := 40 * d } 0 0 0 ∧ (Cond.static y).before args s = true ∧ True)) (dd : decode cc pc = .ok (.invokestatic index, 3)) (hroom : (st.map fun v => v.category).sum ≤ 8) (hcs : cells ≤ R.cells ∧ slots ≤ R.slots) (k : ∀ (u : xSg), post u → xJ p l e R s m args below meth c cells slots Q D cl A nL (va_S A s.heap) (wf u) (vs) (pc + 3) (st)) : xJ p l e R s m args below meth c cells slots Q D cl A nL (va_S A s.heap) (wf σ) (vs) (pc) (st) := fun H locs ls hP hD hS hl => by
  have hFc := x_free hD hS G.2.2.2.2.2.2.2
  refine va_callv (va_runSN (As := []) (rest := st) ⟨G.1, G.2.1, G.2.2.1, G.2.2.2.1, G.2.2.2.2.1⟩ (hM H.size) cw ⟨fun a U g mk q => by obtain ⟨q0, q1, qP, qK, qN, qD⟩ := q; exact ⟨q0, q1, qP, va_K.moved (u := U) (U := U.calling g mk a) (Vm.Alike.refl U.vm) qK, fun c hc => ⟨(qN c hc).1, nest_same (s := U) (U := U.calling g mk a) (qN c hc).1 rfl (qN c hc).2⟩, qD⟩, fun U hU hW => ⟨rfl, by rw [hU], by rw [hU]; exact hP, va_K.moved hW.alike G.2.2.2.2.2.1, fun c hc => ⟨(G.2.2.2.2.2.2.1 c hc).1, nest_warm (G.2.2.2.2.2.2.1 c hc).1 hW (G.2.2.2.2.2.2.1 c hc).2⟩, hD.weaken (fun _ _ _ _ => trivial)⟩⟩ rfl rfl hl.1 rfl (lv_room hroom) dd ⟨hcs.1, hcs.2⟩) hS (fun q _ h => hFc q h) hFc (fun u t H1 locs1 ht hvm hw hB hz1 hk1 hS1 => ?_)
  obtain ⟨hP1, hD1⟩ := hB
  rw [ht] at hP1
  exact k u hw H1 locs1 ls hP1 (hD1.weaken (fun _ q _ h => hFc q.1 h)) hS1 hl
theorem x_callV1i (G : xG p s m args c cc nL own Ts NW D cl tys A) {wf : xSg → va_W} {σ : xSg} {b : Nat} {C : String} {y : MethodName} {bytes : ByteArray} {maxL index d : Nat} {ret : Option FieldType} {Tc : List Cond} {a1 : Value} {post : Int32 → xSg → Prop} (hM : xCi l D cl tys NW wf y Tc d [.ref b, a1] σ post) (q0 : Nat) {fs : List Value} {ci : Nat} {T : u_T} {N : Nat} (he : (wf σ)[q0]? = some (b, .inr (ci, fs))) (hc : cl[ci]? = some (C, T, N)) (cw : CallW R s args own C index y bytes maxL ret Tc { frames := d, cells := 0, slots := 0, locals := 40 * d } 0 0 1) (dd : decode cc pc = .ok (.invokevirtual index, 3)) (hroom : (st.map fun v => v.category).sum ≤ 8) (hcs : cells ≤ R.cells ∧ slots ≤ R.slots) (k : ∀ (r : Int32) (u : xSg), post r u → xJ p l e R s m args below meth c cells slots Q D cl A nL (va_S A s.heap) (wf u) (vs) (pc + 3) (.int r :: st)) : xJ p l e R s m args below meth c cells slots Q D cl A nL (va_S A s.heap) (wf σ) (vs) (pc) (a1 :: .ref b :: st) := fun H locs ls hP hD hS hl => by
  have hFc := x_free hD hS G.2.2.2.2.2.2.2
  refine va_calli (va_runV (As := [a1]) (rest := st) ⟨G.1, G.2.1, G.2.2.1, G.2.2.2.1, G.2.2.2.2.1⟩ (hM H.size) cw ⟨fun a U g mk q => by obtain ⟨q0, q1, qP, qK, qN, qD⟩ := q; exact ⟨q0, q1, qP, va_K.moved (u := U) (U := U.calling g mk a) (Vm.Alike.refl U.vm) qK, fun c hc => ⟨(qN c hc).1, nest_same (s := U) (U := U.calling g mk a) (qN c hc).1 rfl (qN c hc).2⟩, qD⟩, va_recv G.2.2.2.2.2.1 hP hc he, fun U hU hW => ⟨rfl, by rw [hU], by rw [hU]; exact hP, va_K.moved hW.alike G.2.2.2.2.2.1, fun c hc => ⟨(G.2.2.2.2.2.2.1 c hc).1, nest_warm (G.2.2.2.2.2.2.1 c hc).1 hW (G.2.2.2.2.2.2.1 c hc).2⟩, hD.weaken (fun _ _ _ _ => trivial)⟩⟩ rfl rfl hl.1 rfl (lv_room hroom) dd ⟨hcs.1, hcs.2⟩) hS (fun q _ h => hFc q h) hFc (fun r u t H1 locs1 ht hvm hw hB hz1 hk1 hS1 => ?_)
  obtain ⟨hP1, hD1⟩ := hB
  rw [ht] at hP1
  exact k r u hw H1 locs1 ls hP1 (hD1.weaken (fun _ q _ h => hFc q.1 h)) hS1 hl
theorem x_callV1l (G : xG p s m args c cc nL own Ts NW D cl tys A) {wf : xSg → va_W} {σ : xSg} {b : Nat} {C : String} {y : MethodName} {bytes : ByteArray} {maxL index d : Nat} {ret : Option FieldType} {Tc : List Cond} {a1 : Value} {post : Int64 → xSg → Prop} (hM : xCl l D cl tys NW wf y Tc d [.ref b, a1] σ post) (q0 : Nat) {fs : List Value} {ci : Nat} {T : u_T} {N : Nat} (he : (wf σ)[q0]? = some (b, .inr (ci, fs))) (hc : cl[ci]? = some (C, T, N)) (cw : CallW R s args own C index y bytes maxL ret Tc { frames := d, cells := 0, slots := 0, locals := 40 * d } 0 0 1) (dd : decode cc pc = .ok (.invokevirtual index, 3)) (hroom : (st.map fun v => v.category).sum ≤ 8) (hcs : cells ≤ R.cells ∧ slots ≤ R.slots) (k : ∀ (r : Int64) (u : xSg), post r u → xJ p l e R s m args below meth c cells slots Q D cl A nL (va_S A s.heap) (wf u) (vs) (pc + 3) (.long r :: st)) : xJ p l e R s m args below meth c cells slots Q D cl A nL (va_S A s.heap) (wf σ) (vs) (pc) (a1 :: .ref b :: st) := fun H locs ls hP hD hS hl => by
  have hFc := x_free hD hS G.2.2.2.2.2.2.2
  refine va_calll (va_runV (As := [a1]) (rest := st) ⟨G.1, G.2.1, G.2.2.1, G.2.2.2.1, G.2.2.2.2.1⟩ (hM H.size) cw ⟨fun a U g mk q => by obtain ⟨q0, q1, qP, qK, qN, qD⟩ := q; exact ⟨q0, q1, qP, va_K.moved (u := U) (U := U.calling g mk a) (Vm.Alike.refl U.vm) qK, fun c hc => ⟨(qN c hc).1, nest_same (s := U) (U := U.calling g mk a) (qN c hc).1 rfl (qN c hc).2⟩, qD⟩, va_recv G.2.2.2.2.2.1 hP hc he, fun U hU hW => ⟨rfl, by rw [hU], by rw [hU]; exact hP, va_K.moved hW.alike G.2.2.2.2.2.1, fun c hc => ⟨(G.2.2.2.2.2.2.1 c hc).1, nest_warm (G.2.2.2.2.2.2.1 c hc).1 hW (G.2.2.2.2.2.2.1 c hc).2⟩, hD.weaken (fun _ _ _ _ => trivial)⟩⟩ rfl rfl hl.1 rfl (lv_room hroom) dd ⟨hcs.1, hcs.2⟩) hS (fun q _ h => hFc q h) hFc (fun r u t H1 locs1 ht hvm hw hB hz1 hk1 hS1 => ?_)
  obtain ⟨hP1, hD1⟩ := hB
  rw [ht] at hP1
  exact k r u hw H1 locs1 ls hP1 (hD1.weaken (fun _ q _ h => hFc q.1 h)) hS1 hl
theorem x_callV1v (G : xG p s m args c cc nL own Ts NW D cl tys A) {wf : xSg → va_W} {σ : xSg} {b : Nat} {C : String} {y : MethodName} {bytes : ByteArray} {maxL index d : Nat} {ret : Option FieldType} {Tc : List Cond} {a1 : Value} {post : xSg → Prop} (hM : xCv l D cl tys NW wf y Tc d [.ref b, a1] σ post) (q0 : Nat) {fs : List Value} {ci : Nat} {T : u_T} {N : Nat} (he : (wf σ)[q0]? = some (b, .inr (ci, fs))) (hc : cl[ci]? = some (C, T, N)) (cw : CallW R s args own C index y bytes maxL ret Tc { frames := d, cells := 0, slots := 0, locals := 40 * d } 0 0 1) (dd : decode cc pc = .ok (.invokevirtual index, 3)) (hroom : (st.map fun v => v.category).sum ≤ 8) (hcs : cells ≤ R.cells ∧ slots ≤ R.slots) (k : ∀ (u : xSg), post u → xJ p l e R s m args below meth c cells slots Q D cl A nL (va_S A s.heap) (wf u) (vs) (pc + 3) (st)) : xJ p l e R s m args below meth c cells slots Q D cl A nL (va_S A s.heap) (wf σ) (vs) (pc) (a1 :: .ref b :: st) := fun H locs ls hP hD hS hl => by
  have hFc := x_free hD hS G.2.2.2.2.2.2.2
  refine va_callv (va_runV (As := [a1]) (rest := st) ⟨G.1, G.2.1, G.2.2.1, G.2.2.2.1, G.2.2.2.2.1⟩ (hM H.size) cw ⟨fun a U g mk q => by obtain ⟨q0, q1, qP, qK, qN, qD⟩ := q; exact ⟨q0, q1, qP, va_K.moved (u := U) (U := U.calling g mk a) (Vm.Alike.refl U.vm) qK, fun c hc => ⟨(qN c hc).1, nest_same (s := U) (U := U.calling g mk a) (qN c hc).1 rfl (qN c hc).2⟩, qD⟩, va_recv G.2.2.2.2.2.1 hP hc he, fun U hU hW => ⟨rfl, by rw [hU], by rw [hU]; exact hP, va_K.moved hW.alike G.2.2.2.2.2.1, fun c hc => ⟨(G.2.2.2.2.2.2.1 c hc).1, nest_warm (G.2.2.2.2.2.2.1 c hc).1 hW (G.2.2.2.2.2.2.1 c hc).2⟩, hD.weaken (fun _ _ _ _ => trivial)⟩⟩ rfl rfl hl.1 rfl (lv_room hroom) dd ⟨hcs.1, hcs.2⟩) hS (fun q _ h => hFc q h) hFc (fun u t H1 locs1 ht hvm hw hB hz1 hk1 hS1 => ?_)
  obtain ⟨hP1, hD1⟩ := hB
  rw [ht] at hP1
  exact k u hw H1 locs1 ls hP1 (hD1.weaken (fun _ q _ h => hFc q.1 h)) hS1 hl
theorem x_callVN1i (G : xG p s m args c cc nL own Ts NW D cl tys A) {wf : xSg → va_W} {σ : xSg} {b : Nat} {C : String} {host : String} {y : MethodName} {bytes : ByteArray} {maxL index d : Nat} {ret : Option FieldType} {Tc : List Cond} {a1 : Value} {post : Int32 → xSg → Prop} (hM : xCi l D cl tys NW wf y Tc d [.ref b, a1] σ post) (q0 : Nat) {fs : List Value} {ci : Nat} {T : u_T} {N : Nat} (he : (wf σ)[q0]? = some (b, .inr (ci, fs))) (hc : cl[ci]? = some (C, T, N)) (cw : (va_CN R s args own index y host bytes maxL ret Tc { frames := d, cells := 0, slots := 0, locals := 40 * d } 0 0 1 ∧ (Cond.instanceMethod y).before args s = true ∧ (Cond.selects C y y).before args s = true)) (dd : decode cc pc = .ok (.invokevirtual index, 3)) (hroom : (st.map fun v => v.category).sum ≤ 8) (hcs : cells ≤ R.cells ∧ slots ≤ R.slots) (k : ∀ (r : Int32) (u : xSg), post r u → xJ p l e R s m args below meth c cells slots Q D cl A nL (va_S A s.heap) (wf u) (vs) (pc + 3) (.int r :: st)) : xJ p l e R s m args below meth c cells slots Q D cl A nL (va_S A s.heap) (wf σ) (vs) (pc) (a1 :: .ref b :: st) := fun H locs ls hP hD hS hl => by
  have hFc := x_free hD hS G.2.2.2.2.2.2.2
  refine va_calli (va_runVN (As := [a1]) (rest := st) ⟨G.1, G.2.1, G.2.2.1, G.2.2.2.1, G.2.2.2.2.1⟩ (hM H.size) cw ⟨fun a U g mk q => by obtain ⟨q0, q1, qP, qK, qN, qD⟩ := q; exact ⟨q0, q1, qP, va_K.moved (u := U) (U := U.calling g mk a) (Vm.Alike.refl U.vm) qK, fun c hc => ⟨(qN c hc).1, nest_same (s := U) (U := U.calling g mk a) (qN c hc).1 rfl (qN c hc).2⟩, qD⟩, va_recv G.2.2.2.2.2.1 hP hc he, fun U hU hW => ⟨rfl, by rw [hU], by rw [hU]; exact hP, va_K.moved hW.alike G.2.2.2.2.2.1, fun c hc => ⟨(G.2.2.2.2.2.2.1 c hc).1, nest_warm (G.2.2.2.2.2.2.1 c hc).1 hW (G.2.2.2.2.2.2.1 c hc).2⟩, hD.weaken (fun _ _ _ _ => trivial)⟩⟩ rfl rfl hl.1 rfl (lv_room hroom) dd ⟨hcs.1, hcs.2⟩) hS (fun q _ h => hFc q h) hFc (fun r u t H1 locs1 ht hvm hw hB hz1 hk1 hS1 => ?_)
  obtain ⟨hP1, hD1⟩ := hB
  rw [ht] at hP1
  exact k r u hw H1 locs1 ls hP1 (hD1.weaken (fun _ q _ h => hFc q.1 h)) hS1 hl
theorem x_callVN1l (G : xG p s m args c cc nL own Ts NW D cl tys A) {wf : xSg → va_W} {σ : xSg} {b : Nat} {C : String} {host : String} {y : MethodName} {bytes : ByteArray} {maxL index d : Nat} {ret : Option FieldType} {Tc : List Cond} {a1 : Value} {post : Int64 → xSg → Prop} (hM : xCl l D cl tys NW wf y Tc d [.ref b, a1] σ post) (q0 : Nat) {fs : List Value} {ci : Nat} {T : u_T} {N : Nat} (he : (wf σ)[q0]? = some (b, .inr (ci, fs))) (hc : cl[ci]? = some (C, T, N)) (cw : (va_CN R s args own index y host bytes maxL ret Tc { frames := d, cells := 0, slots := 0, locals := 40 * d } 0 0 1 ∧ (Cond.instanceMethod y).before args s = true ∧ (Cond.selects C y y).before args s = true)) (dd : decode cc pc = .ok (.invokevirtual index, 3)) (hroom : (st.map fun v => v.category).sum ≤ 8) (hcs : cells ≤ R.cells ∧ slots ≤ R.slots) (k : ∀ (r : Int64) (u : xSg), post r u → xJ p l e R s m args below meth c cells slots Q D cl A nL (va_S A s.heap) (wf u) (vs) (pc + 3) (.long r :: st)) : xJ p l e R s m args below meth c cells slots Q D cl A nL (va_S A s.heap) (wf σ) (vs) (pc) (a1 :: .ref b :: st) := fun H locs ls hP hD hS hl => by
  have hFc := x_free hD hS G.2.2.2.2.2.2.2
  refine va_calll (va_runVN (As := [a1]) (rest := st) ⟨G.1, G.2.1, G.2.2.1, G.2.2.2.1, G.2.2.2.2.1⟩ (hM H.size) cw ⟨fun a U g mk q => by obtain ⟨q0, q1, qP, qK, qN, qD⟩ := q; exact ⟨q0, q1, qP, va_K.moved (u := U) (U := U.calling g mk a) (Vm.Alike.refl U.vm) qK, fun c hc => ⟨(qN c hc).1, nest_same (s := U) (U := U.calling g mk a) (qN c hc).1 rfl (qN c hc).2⟩, qD⟩, va_recv G.2.2.2.2.2.1 hP hc he, fun U hU hW => ⟨rfl, by rw [hU], by rw [hU]; exact hP, va_K.moved hW.alike G.2.2.2.2.2.1, fun c hc => ⟨(G.2.2.2.2.2.2.1 c hc).1, nest_warm (G.2.2.2.2.2.2.1 c hc).1 hW (G.2.2.2.2.2.2.1 c hc).2⟩, hD.weaken (fun _ _ _ _ => trivial)⟩⟩ rfl rfl hl.1 rfl (lv_room hroom) dd ⟨hcs.1, hcs.2⟩) hS (fun q _ h => hFc q h) hFc (fun r u t H1 locs1 ht hvm hw hB hz1 hk1 hS1 => ?_)
  obtain ⟨hP1, hD1⟩ := hB
  rw [ht] at hP1
  exact k r u hw H1 locs1 ls hP1 (hD1.weaken (fun _ q _ h => hFc q.1 h)) hS1 hl
theorem x_callVN1v (G : xG p s m args c cc nL own Ts NW D cl tys A) {wf : xSg → va_W} {σ : xSg} {b : Nat} {C : String} {host : String} {y : MethodName} {bytes : ByteArray} {maxL index d : Nat} {ret : Option FieldType} {Tc : List Cond} {a1 : Value} {post : xSg → Prop} (hM : xCv l D cl tys NW wf y Tc d [.ref b, a1] σ post) (q0 : Nat) {fs : List Value} {ci : Nat} {T : u_T} {N : Nat} (he : (wf σ)[q0]? = some (b, .inr (ci, fs))) (hc : cl[ci]? = some (C, T, N)) (cw : (va_CN R s args own index y host bytes maxL ret Tc { frames := d, cells := 0, slots := 0, locals := 40 * d } 0 0 1 ∧ (Cond.instanceMethod y).before args s = true ∧ (Cond.selects C y y).before args s = true)) (dd : decode cc pc = .ok (.invokevirtual index, 3)) (hroom : (st.map fun v => v.category).sum ≤ 8) (hcs : cells ≤ R.cells ∧ slots ≤ R.slots) (k : ∀ (u : xSg), post u → xJ p l e R s m args below meth c cells slots Q D cl A nL (va_S A s.heap) (wf u) (vs) (pc + 3) (st)) : xJ p l e R s m args below meth c cells slots Q D cl A nL (va_S A s.heap) (wf σ) (vs) (pc) (a1 :: .ref b :: st) := fun H locs ls hP hD hS hl => by
  have hFc := x_free hD hS G.2.2.2.2.2.2.2
  refine va_callv (va_runVN (As := [a1]) (rest := st) ⟨G.1, G.2.1, G.2.2.1, G.2.2.2.1, G.2.2.2.2.1⟩ (hM H.size) cw ⟨fun a U g mk q => by obtain ⟨q0, q1, qP, qK, qN, qD⟩ := q; exact ⟨q0, q1, qP, va_K.moved (u := U) (U := U.calling g mk a) (Vm.Alike.refl U.vm) qK, fun c hc => ⟨(qN c hc).1, nest_same (s := U) (U := U.calling g mk a) (qN c hc).1 rfl (qN c hc).2⟩, qD⟩, va_recv G.2.2.2.2.2.1 hP hc he, fun U hU hW => ⟨rfl, by rw [hU], by rw [hU]; exact hP, va_K.moved hW.alike G.2.2.2.2.2.1, fun c hc => ⟨(G.2.2.2.2.2.2.1 c hc).1, nest_warm (G.2.2.2.2.2.2.1 c hc).1 hW (G.2.2.2.2.2.2.1 c hc).2⟩, hD.weaken (fun _ _ _ _ => trivial)⟩⟩ rfl rfl hl.1 rfl (lv_room hroom) dd ⟨hcs.1, hcs.2⟩) hS (fun q _ h => hFc q h) hFc (fun u t H1 locs1 ht hvm hw hB hz1 hk1 hS1 => ?_)
  obtain ⟨hP1, hD1⟩ := hB
  rw [ht] at hP1
  exact k u hw H1 locs1 ls hP1 (hD1.weaken (fun _ q _ h => hFc q.1 h)) hS1 hl
theorem x_callS1i (G : xG p s m args c cc nL own Ts NW D cl tys A) {wf : xSg → va_W} {σ : xSg} {y : MethodName} {bytes : ByteArray} {maxL index d : Nat} {ret : Option FieldType} {Tc : List Cond} {a1 : Value} {post : Int32 → xSg → Prop} (hM : xCi l D cl tys NW wf y Tc d [a1] σ post) (cw : (CallB R s args own index y bytes maxL ret Tc { frames := d, cells := 0, slots := 0, locals := 40 * d } 0 0 1 ∧ (Cond.static y).before args s = true)) (dd : decode cc pc = .ok (.invokestatic index, 3)) (hroom : (st.map fun v => v.category).sum ≤ 8) (hcs : cells ≤ R.cells ∧ slots ≤ R.slots) (k : ∀ (r : Int32) (u : xSg), post r u → xJ p l e R s m args below meth c cells slots Q D cl A nL (va_S A s.heap) (wf u) (vs) (pc + 3) (.int r :: st)) : xJ p l e R s m args below meth c cells slots Q D cl A nL (va_S A s.heap) (wf σ) (vs) (pc) (a1 :: st) := fun H locs ls hP hD hS hl => by
  have hFc := x_free hD hS G.2.2.2.2.2.2.2
  refine va_calli (va_runS (As := [a1]) (rest := st) ⟨G.1, G.2.1, G.2.2.1, G.2.2.2.1, G.2.2.2.2.1⟩ (hM H.size) cw ⟨fun a U g mk q => by obtain ⟨q0, q1, qP, qK, qN, qD⟩ := q; exact ⟨q0, q1, qP, va_K.moved (u := U) (U := U.calling g mk a) (Vm.Alike.refl U.vm) qK, fun c hc => ⟨(qN c hc).1, nest_same (s := U) (U := U.calling g mk a) (qN c hc).1 rfl (qN c hc).2⟩, qD⟩, fun U hU hW => ⟨rfl, by rw [hU], by rw [hU]; exact hP, va_K.moved hW.alike G.2.2.2.2.2.1, fun c hc => ⟨(G.2.2.2.2.2.2.1 c hc).1, nest_warm (G.2.2.2.2.2.2.1 c hc).1 hW (G.2.2.2.2.2.2.1 c hc).2⟩, hD.weaken (fun _ _ _ _ => trivial)⟩⟩ rfl rfl hl.1 rfl (lv_room hroom) dd ⟨hcs.1, hcs.2⟩) hS (fun q _ h => hFc q h) hFc (fun r u t H1 locs1 ht hvm hw hB hz1 hk1 hS1 => ?_)
  obtain ⟨hP1, hD1⟩ := hB
  rw [ht] at hP1
  exact k r u hw H1 locs1 ls hP1 (hD1.weaken (fun _ q _ h => hFc q.1 h)) hS1 hl
theorem x_callS1l (G : xG p s m args c cc nL own Ts NW D cl tys A) {wf : xSg → va_W} {σ : xSg} {y : MethodName} {bytes : ByteArray} {maxL index d : Nat} {ret : Option FieldType} {Tc : List Cond} {a1 : Value} {post : Int64 → xSg → Prop} (hM : xCl l D cl tys NW wf y Tc d [a1] σ post) (cw : (CallB R s args own index y bytes maxL ret Tc { frames := d, cells := 0, slots := 0, locals := 40 * d } 0 0 1 ∧ (Cond.static y).before args s = true)) (dd : decode cc pc = .ok (.invokestatic index, 3)) (hroom : (st.map fun v => v.category).sum ≤ 8) (hcs : cells ≤ R.cells ∧ slots ≤ R.slots) (k : ∀ (r : Int64) (u : xSg), post r u → xJ p l e R s m args below meth c cells slots Q D cl A nL (va_S A s.heap) (wf u) (vs) (pc + 3) (.long r :: st)) : xJ p l e R s m args below meth c cells slots Q D cl A nL (va_S A s.heap) (wf σ) (vs) (pc) (a1 :: st) := fun H locs ls hP hD hS hl => by
  have hFc := x_free hD hS G.2.2.2.2.2.2.2
  refine va_calll (va_runS (As := [a1]) (rest := st) ⟨G.1, G.2.1, G.2.2.1, G.2.2.2.1, G.2.2.2.2.1⟩ (hM H.size) cw ⟨fun a U g mk q => by obtain ⟨q0, q1, qP, qK, qN, qD⟩ := q; exact ⟨q0, q1, qP, va_K.moved (u := U) (U := U.calling g mk a) (Vm.Alike.refl U.vm) qK, fun c hc => ⟨(qN c hc).1, nest_same (s := U) (U := U.calling g mk a) (qN c hc).1 rfl (qN c hc).2⟩, qD⟩, fun U hU hW => ⟨rfl, by rw [hU], by rw [hU]; exact hP, va_K.moved hW.alike G.2.2.2.2.2.1, fun c hc => ⟨(G.2.2.2.2.2.2.1 c hc).1, nest_warm (G.2.2.2.2.2.2.1 c hc).1 hW (G.2.2.2.2.2.2.1 c hc).2⟩, hD.weaken (fun _ _ _ _ => trivial)⟩⟩ rfl rfl hl.1 rfl (lv_room hroom) dd ⟨hcs.1, hcs.2⟩) hS (fun q _ h => hFc q h) hFc (fun r u t H1 locs1 ht hvm hw hB hz1 hk1 hS1 => ?_)
  obtain ⟨hP1, hD1⟩ := hB
  rw [ht] at hP1
  exact k r u hw H1 locs1 ls hP1 (hD1.weaken (fun _ q _ h => hFc q.1 h)) hS1 hl
theorem x_callS1v (G : xG p s m args c cc nL own Ts NW D cl tys A) {wf : xSg → va_W} {σ : xSg} {y : MethodName} {bytes : ByteArray} {maxL index d : Nat} {ret : Option FieldType} {Tc : List Cond} {a1 : Value} {post : xSg → Prop} (hM : xCv l D cl tys NW wf y Tc d [a1] σ post) (cw : (CallB R s args own index y bytes maxL ret Tc { frames := d, cells := 0, slots := 0, locals := 40 * d } 0 0 1 ∧ (Cond.static y).before args s = true)) (dd : decode cc pc = .ok (.invokestatic index, 3)) (hroom : (st.map fun v => v.category).sum ≤ 8) (hcs : cells ≤ R.cells ∧ slots ≤ R.slots) (k : ∀ (u : xSg), post u → xJ p l e R s m args below meth c cells slots Q D cl A nL (va_S A s.heap) (wf u) (vs) (pc + 3) (st)) : xJ p l e R s m args below meth c cells slots Q D cl A nL (va_S A s.heap) (wf σ) (vs) (pc) (a1 :: st) := fun H locs ls hP hD hS hl => by
  have hFc := x_free hD hS G.2.2.2.2.2.2.2
  refine va_callv (va_runS (As := [a1]) (rest := st) ⟨G.1, G.2.1, G.2.2.1, G.2.2.2.1, G.2.2.2.2.1⟩ (hM H.size) cw ⟨fun a U g mk q => by obtain ⟨q0, q1, qP, qK, qN, qD⟩ := q; exact ⟨q0, q1, qP, va_K.moved (u := U) (U := U.calling g mk a) (Vm.Alike.refl U.vm) qK, fun c hc => ⟨(qN c hc).1, nest_same (s := U) (U := U.calling g mk a) (qN c hc).1 rfl (qN c hc).2⟩, qD⟩, fun U hU hW => ⟨rfl, by rw [hU], by rw [hU]; exact hP, va_K.moved hW.alike G.2.2.2.2.2.1, fun c hc => ⟨(G.2.2.2.2.2.2.1 c hc).1, nest_warm (G.2.2.2.2.2.2.1 c hc).1 hW (G.2.2.2.2.2.2.1 c hc).2⟩, hD.weaken (fun _ _ _ _ => trivial)⟩⟩ rfl rfl hl.1 rfl (lv_room hroom) dd ⟨hcs.1, hcs.2⟩) hS (fun q _ h => hFc q h) hFc (fun u t H1 locs1 ht hvm hw hB hz1 hk1 hS1 => ?_)
  obtain ⟨hP1, hD1⟩ := hB
  rw [ht] at hP1
  exact k u hw H1 locs1 ls hP1 (hD1.weaken (fun _ q _ h => hFc q.1 h)) hS1 hl
theorem x_callSN1i (G : xG p s m args c cc nL own Ts NW D cl tys A) {wf : xSg → va_W} {σ : xSg} {host : String} {y : MethodName} {bytes : ByteArray} {maxL index d : Nat} {ret : Option FieldType} {Tc : List Cond} {a1 : Value} {post : Int32 → xSg → Prop} (hM : xCi l D cl tys NW wf y Tc d [a1] σ post) (cw : (va_CN R s args own index y host bytes maxL ret Tc { frames := d, cells := 0, slots := 0, locals := 40 * d } 0 0 1 ∧ (Cond.static y).before args s = true ∧ True)) (dd : decode cc pc = .ok (.invokestatic index, 3)) (hroom : (st.map fun v => v.category).sum ≤ 8) (hcs : cells ≤ R.cells ∧ slots ≤ R.slots) (k : ∀ (r : Int32) (u : xSg), post r u → xJ p l e R s m args below meth c cells slots Q D cl A nL (va_S A s.heap) (wf u) (vs) (pc + 3) (.int r :: st)) : xJ p l e R s m args below meth c cells slots Q D cl A nL (va_S A s.heap) (wf σ) (vs) (pc) (a1 :: st) := fun H locs ls hP hD hS hl => by
  have hFc := x_free hD hS G.2.2.2.2.2.2.2
  refine va_calli (va_runSN (As := [a1]) (rest := st) ⟨G.1, G.2.1, G.2.2.1, G.2.2.2.1, G.2.2.2.2.1⟩ (hM H.size) cw ⟨fun a U g mk q => by obtain ⟨q0, q1, qP, qK, qN, qD⟩ := q; exact ⟨q0, q1, qP, va_K.moved (u := U) (U := U.calling g mk a) (Vm.Alike.refl U.vm) qK, fun c hc => ⟨(qN c hc).1, nest_same (s := U) (U := U.calling g mk a) (qN c hc).1 rfl (qN c hc).2⟩, qD⟩, fun U hU hW => ⟨rfl, by rw [hU], by rw [hU]; exact hP, va_K.moved hW.alike G.2.2.2.2.2.1, fun c hc => ⟨(G.2.2.2.2.2.2.1 c hc).1, nest_warm (G.2.2.2.2.2.2.1 c hc).1 hW (G.2.2.2.2.2.2.1 c hc).2⟩, hD.weaken (fun _ _ _ _ => trivial)⟩⟩ rfl rfl hl.1 rfl (lv_room hroom) dd ⟨hcs.1, hcs.2⟩) hS (fun q _ h => hFc q h) hFc (fun r u t H1 locs1 ht hvm hw hB hz1 hk1 hS1 => ?_)
  obtain ⟨hP1, hD1⟩ := hB
  rw [ht] at hP1
  exact k r u hw H1 locs1 ls hP1 (hD1.weaken (fun _ q _ h => hFc q.1 h)) hS1 hl
theorem x_callSN1l (G : xG p s m args c cc nL own Ts NW D cl tys A) {wf : xSg → va_W} {σ : xSg} {host : String} {y : MethodName} {bytes : ByteArray} {maxL index d : Nat} {ret : Option FieldType} {Tc : List Cond} {a1 : Value} {post : Int64 → xSg → Prop} (hM : xCl l D cl tys NW wf y Tc d [a1] σ post) (cw : (va_CN R s args own index y host bytes maxL ret Tc { frames := d, cells := 0, slots := 0, locals := 40 * d } 0 0 1 ∧ (Cond.static y).before args s = true ∧ True)) (dd : decode cc pc = .ok (.invokestatic index, 3)) (hroom : (st.map fun v => v.category).sum ≤ 8) (hcs : cells ≤ R.cells ∧ slots ≤ R.slots) (k : ∀ (r : Int64) (u : xSg), post r u → xJ p l e R s m args below meth c cells slots Q D cl A nL (va_S A s.heap) (wf u) (vs) (pc + 3) (.long r :: st)) : xJ p l e R s m args below meth c cells slots Q D cl A nL (va_S A s.heap) (wf σ) (vs) (pc) (a1 :: st) := fun H locs ls hP hD hS hl => by
  have hFc := x_free hD hS G.2.2.2.2.2.2.2
  refine va_calll (va_runSN (As := [a1]) (rest := st) ⟨G.1, G.2.1, G.2.2.1, G.2.2.2.1, G.2.2.2.2.1⟩ (hM H.size) cw ⟨fun a U g mk q => by obtain ⟨q0, q1, qP, qK, qN, qD⟩ := q; exact ⟨q0, q1, qP, va_K.moved (u := U) (U := U.calling g mk a) (Vm.Alike.refl U.vm) qK, fun c hc => ⟨(qN c hc).1, nest_same (s := U) (U := U.calling g mk a) (qN c hc).1 rfl (qN c hc).2⟩, qD⟩, fun U hU hW => ⟨rfl, by rw [hU], by rw [hU]; exact hP, va_K.moved hW.alike G.2.2.2.2.2.1, fun c hc => ⟨(G.2.2.2.2.2.2.1 c hc).1, nest_warm (G.2.2.2.2.2.2.1 c hc).1 hW (G.2.2.2.2.2.2.1 c hc).2⟩, hD.weaken (fun _ _ _ _ => trivial)⟩⟩ rfl rfl hl.1 rfl (lv_room hroom) dd ⟨hcs.1, hcs.2⟩) hS (fun q _ h => hFc q h) hFc (fun r u t H1 locs1 ht hvm hw hB hz1 hk1 hS1 => ?_)
  obtain ⟨hP1, hD1⟩ := hB
  rw [ht] at hP1
  exact k r u hw H1 locs1 ls hP1 (hD1.weaken (fun _ q _ h => hFc q.1 h)) hS1 hl
theorem x_callSN1v (G : xG p s m args c cc nL own Ts NW D cl tys A) {wf : xSg → va_W} {σ : xSg} {host : String} {y : MethodName} {bytes : ByteArray} {maxL index d : Nat} {ret : Option FieldType} {Tc : List Cond} {a1 : Value} {post : xSg → Prop} (hM : xCv l D cl tys NW wf y Tc d [a1] σ post) (cw : (va_CN R s args own index y host bytes maxL ret Tc { frames := d, cells := 0, slots := 0, locals := 40 * d } 0 0 1 ∧ (Cond.static y).before args s = true ∧ True)) (dd : decode cc pc = .ok (.invokestatic index, 3)) (hroom : (st.map fun v => v.category).sum ≤ 8) (hcs : cells ≤ R.cells ∧ slots ≤ R.slots) (k : ∀ (u : xSg), post u → xJ p l e R s m args below meth c cells slots Q D cl A nL (va_S A s.heap) (wf u) (vs) (pc + 3) (st)) : xJ p l e R s m args below meth c cells slots Q D cl A nL (va_S A s.heap) (wf σ) (vs) (pc) (a1 :: st) := fun H locs ls hP hD hS hl => by
  have hFc := x_free hD hS G.2.2.2.2.2.2.2
  refine va_callv (va_runSN (As := [a1]) (rest := st) ⟨G.1, G.2.1, G.2.2.1, G.2.2.2.1, G.2.2.2.2.1⟩ (hM H.size) cw ⟨fun a U g mk q => by obtain ⟨q0, q1, qP, qK, qN, qD⟩ := q; exact ⟨q0, q1, qP, va_K.moved (u := U) (U := U.calling g mk a) (Vm.Alike.refl U.vm) qK, fun c hc => ⟨(qN c hc).1, nest_same (s := U) (U := U.calling g mk a) (qN c hc).1 rfl (qN c hc).2⟩, qD⟩, fun U hU hW => ⟨rfl, by rw [hU], by rw [hU]; exact hP, va_K.moved hW.alike G.2.2.2.2.2.1, fun c hc => ⟨(G.2.2.2.2.2.2.1 c hc).1, nest_warm (G.2.2.2.2.2.2.1 c hc).1 hW (G.2.2.2.2.2.2.1 c hc).2⟩, hD.weaken (fun _ _ _ _ => trivial)⟩⟩ rfl rfl hl.1 rfl (lv_room hroom) dd ⟨hcs.1, hcs.2⟩) hS (fun q _ h => hFc q h) hFc (fun u t H1 locs1 ht hvm hw hB hz1 hk1 hS1 => ?_)
  obtain ⟨hP1, hD1⟩ := hB
  rw [ht] at hP1
  exact k u hw H1 locs1 ls hP1 (hD1.weaken (fun _ q _ h => hFc q.1 h)) hS1 hl
theorem x_callV2i (G : xG p s m args c cc nL own Ts NW D cl tys A) {wf : xSg → va_W} {σ : xSg} {b : Nat} {C : String} {y : MethodName} {bytes : ByteArray} {maxL index d : Nat} {ret : Option FieldType} {Tc : List Cond} {a1 a2 : Value} {post : Int32 → xSg → Prop} (hM : xCi l D cl tys NW wf y Tc d [.ref b, a1, a2] σ post) (q0 : Nat) {fs : List Value} {ci : Nat} {T : u_T} {N : Nat} (he : (wf σ)[q0]? = some (b, .inr (ci, fs))) (hc : cl[ci]? = some (C, T, N)) (cw : CallW R s args own C index y bytes maxL ret Tc { frames := d, cells := 0, slots := 0, locals := 40 * d } 0 0 2) (dd : decode cc pc = .ok (.invokevirtual index, 3)) (hroom : (st.map fun v => v.category).sum ≤ 8) (hcs : cells ≤ R.cells ∧ slots ≤ R.slots) (k : ∀ (r : Int32) (u : xSg), post r u → xJ p l e R s m args below meth c cells slots Q D cl A nL (va_S A s.heap) (wf u) (vs) (pc + 3) (.int r :: st)) : xJ p l e R s m args below meth c cells slots Q D cl A nL (va_S A s.heap) (wf σ) (vs) (pc) (a2 :: a1 :: .ref b :: st) := fun H locs ls hP hD hS hl => by
  have hFc := x_free hD hS G.2.2.2.2.2.2.2
  refine va_calli (va_runV (As := [a1, a2]) (rest := st) ⟨G.1, G.2.1, G.2.2.1, G.2.2.2.1, G.2.2.2.2.1⟩ (hM H.size) cw ⟨fun a U g mk q => by obtain ⟨q0, q1, qP, qK, qN, qD⟩ := q; exact ⟨q0, q1, qP, va_K.moved (u := U) (U := U.calling g mk a) (Vm.Alike.refl U.vm) qK, fun c hc => ⟨(qN c hc).1, nest_same (s := U) (U := U.calling g mk a) (qN c hc).1 rfl (qN c hc).2⟩, qD⟩, va_recv G.2.2.2.2.2.1 hP hc he, fun U hU hW => ⟨rfl, by rw [hU], by rw [hU]; exact hP, va_K.moved hW.alike G.2.2.2.2.2.1, fun c hc => ⟨(G.2.2.2.2.2.2.1 c hc).1, nest_warm (G.2.2.2.2.2.2.1 c hc).1 hW (G.2.2.2.2.2.2.1 c hc).2⟩, hD.weaken (fun _ _ _ _ => trivial)⟩⟩ rfl rfl hl.1 rfl (lv_room hroom) dd ⟨hcs.1, hcs.2⟩) hS (fun q _ h => hFc q h) hFc (fun r u t H1 locs1 ht hvm hw hB hz1 hk1 hS1 => ?_)
  obtain ⟨hP1, hD1⟩ := hB
  rw [ht] at hP1
  exact k r u hw H1 locs1 ls hP1 (hD1.weaken (fun _ q _ h => hFc q.1 h)) hS1 hl
theorem x_callV2l (G : xG p s m args c cc nL own Ts NW D cl tys A) {wf : xSg → va_W} {σ : xSg} {b : Nat} {C : String} {y : MethodName} {bytes : ByteArray} {maxL index d : Nat} {ret : Option FieldType} {Tc : List Cond} {a1 a2 : Value} {post : Int64 → xSg → Prop} (hM : xCl l D cl tys NW wf y Tc d [.ref b, a1, a2] σ post) (q0 : Nat) {fs : List Value} {ci : Nat} {T : u_T} {N : Nat} (he : (wf σ)[q0]? = some (b, .inr (ci, fs))) (hc : cl[ci]? = some (C, T, N)) (cw : CallW R s args own C index y bytes maxL ret Tc { frames := d, cells := 0, slots := 0, locals := 40 * d } 0 0 2) (dd : decode cc pc = .ok (.invokevirtual index, 3)) (hroom : (st.map fun v => v.category).sum ≤ 8) (hcs : cells ≤ R.cells ∧ slots ≤ R.slots) (k : ∀ (r : Int64) (u : xSg), post r u → xJ p l e R s m args below meth c cells slots Q D cl A nL (va_S A s.heap) (wf u) (vs) (pc + 3) (.long r :: st)) : xJ p l e R s m args below meth c cells slots Q D cl A nL (va_S A s.heap) (wf σ) (vs) (pc) (a2 :: a1 :: .ref b :: st) := fun H locs ls hP hD hS hl => by
  have hFc := x_free hD hS G.2.2.2.2.2.2.2
  refine va_calll (va_runV (As := [a1, a2]) (rest := st) ⟨G.1, G.2.1, G.2.2.1, G.2.2.2.1, G.2.2.2.2.1⟩ (hM H.size) cw ⟨fun a U g mk q => by obtain ⟨q0, q1, qP, qK, qN, qD⟩ := q; exact ⟨q0, q1, qP, va_K.moved (u := U) (U := U.calling g mk a) (Vm.Alike.refl U.vm) qK, fun c hc => ⟨(qN c hc).1, nest_same (s := U) (U := U.calling g mk a) (qN c hc).1 rfl (qN c hc).2⟩, qD⟩, va_recv G.2.2.2.2.2.1 hP hc he, fun U hU hW => ⟨rfl, by rw [hU], by rw [hU]; exact hP, va_K.moved hW.alike G.2.2.2.2.2.1, fun c hc => ⟨(G.2.2.2.2.2.2.1 c hc).1, nest_warm (G.2.2.2.2.2.2.1 c hc).1 hW (G.2.2.2.2.2.2.1 c hc).2⟩, hD.weaken (fun _ _ _ _ => trivial)⟩⟩ rfl rfl hl.1 rfl (lv_room hroom) dd ⟨hcs.1, hcs.2⟩) hS (fun q _ h => hFc q h) hFc (fun r u t H1 locs1 ht hvm hw hB hz1 hk1 hS1 => ?_)
  obtain ⟨hP1, hD1⟩ := hB
  rw [ht] at hP1
  exact k r u hw H1 locs1 ls hP1 (hD1.weaken (fun _ q _ h => hFc q.1 h)) hS1 hl
theorem x_callV2v (G : xG p s m args c cc nL own Ts NW D cl tys A) {wf : xSg → va_W} {σ : xSg} {b : Nat} {C : String} {y : MethodName} {bytes : ByteArray} {maxL index d : Nat} {ret : Option FieldType} {Tc : List Cond} {a1 a2 : Value} {post : xSg → Prop} (hM : xCv l D cl tys NW wf y Tc d [.ref b, a1, a2] σ post) (q0 : Nat) {fs : List Value} {ci : Nat} {T : u_T} {N : Nat} (he : (wf σ)[q0]? = some (b, .inr (ci, fs))) (hc : cl[ci]? = some (C, T, N)) (cw : CallW R s args own C index y bytes maxL ret Tc { frames := d, cells := 0, slots := 0, locals := 40 * d } 0 0 2) (dd : decode cc pc = .ok (.invokevirtual index, 3)) (hroom : (st.map fun v => v.category).sum ≤ 8) (hcs : cells ≤ R.cells ∧ slots ≤ R.slots) (k : ∀ (u : xSg), post u → xJ p l e R s m args below meth c cells slots Q D cl A nL (va_S A s.heap) (wf u) (vs) (pc + 3) (st)) : xJ p l e R s m args below meth c cells slots Q D cl A nL (va_S A s.heap) (wf σ) (vs) (pc) (a2 :: a1 :: .ref b :: st) := fun H locs ls hP hD hS hl => by
  have hFc := x_free hD hS G.2.2.2.2.2.2.2
  refine va_callv (va_runV (As := [a1, a2]) (rest := st) ⟨G.1, G.2.1, G.2.2.1, G.2.2.2.1, G.2.2.2.2.1⟩ (hM H.size) cw ⟨fun a U g mk q => by obtain ⟨q0, q1, qP, qK, qN, qD⟩ := q; exact ⟨q0, q1, qP, va_K.moved (u := U) (U := U.calling g mk a) (Vm.Alike.refl U.vm) qK, fun c hc => ⟨(qN c hc).1, nest_same (s := U) (U := U.calling g mk a) (qN c hc).1 rfl (qN c hc).2⟩, qD⟩, va_recv G.2.2.2.2.2.1 hP hc he, fun U hU hW => ⟨rfl, by rw [hU], by rw [hU]; exact hP, va_K.moved hW.alike G.2.2.2.2.2.1, fun c hc => ⟨(G.2.2.2.2.2.2.1 c hc).1, nest_warm (G.2.2.2.2.2.2.1 c hc).1 hW (G.2.2.2.2.2.2.1 c hc).2⟩, hD.weaken (fun _ _ _ _ => trivial)⟩⟩ rfl rfl hl.1 rfl (lv_room hroom) dd ⟨hcs.1, hcs.2⟩) hS (fun q _ h => hFc q h) hFc (fun u t H1 locs1 ht hvm hw hB hz1 hk1 hS1 => ?_)
  obtain ⟨hP1, hD1⟩ := hB
  rw [ht] at hP1
  exact k u hw H1 locs1 ls hP1 (hD1.weaken (fun _ q _ h => hFc q.1 h)) hS1 hl
theorem x_callVN2i (G : xG p s m args c cc nL own Ts NW D cl tys A) {wf : xSg → va_W} {σ : xSg} {b : Nat} {C : String} {host : String} {y : MethodName} {bytes : ByteArray} {maxL index d : Nat} {ret : Option FieldType} {Tc : List Cond} {a1 a2 : Value} {post : Int32 → xSg → Prop} (hM : xCi l D cl tys NW wf y Tc d [.ref b, a1, a2] σ post) (q0 : Nat) {fs : List Value} {ci : Nat} {T : u_T} {N : Nat} (he : (wf σ)[q0]? = some (b, .inr (ci, fs))) (hc : cl[ci]? = some (C, T, N)) (cw : (va_CN R s args own index y host bytes maxL ret Tc { frames := d, cells := 0, slots := 0, locals := 40 * d } 0 0 2 ∧ (Cond.instanceMethod y).before args s = true ∧ (Cond.selects C y y).before args s = true)) (dd : decode cc pc = .ok (.invokevirtual index, 3)) (hroom : (st.map fun v => v.category).sum ≤ 8) (hcs : cells ≤ R.cells ∧ slots ≤ R.slots) (k : ∀ (r : Int32) (u : xSg), post r u → xJ p l e R s m args below meth c cells slots Q D cl A nL (va_S A s.heap) (wf u) (vs) (pc + 3) (.int r :: st)) : xJ p l e R s m args below meth c cells slots Q D cl A nL (va_S A s.heap) (wf σ) (vs) (pc) (a2 :: a1 :: .ref b :: st) := fun H locs ls hP hD hS hl => by
  have hFc := x_free hD hS G.2.2.2.2.2.2.2
  refine va_calli (va_runVN (As := [a1, a2]) (rest := st) ⟨G.1, G.2.1, G.2.2.1, G.2.2.2.1, G.2.2.2.2.1⟩ (hM H.size) cw ⟨fun a U g mk q => by obtain ⟨q0, q1, qP, qK, qN, qD⟩ := q; exact ⟨q0, q1, qP, va_K.moved (u := U) (U := U.calling g mk a) (Vm.Alike.refl U.vm) qK, fun c hc => ⟨(qN c hc).1, nest_same (s := U) (U := U.calling g mk a) (qN c hc).1 rfl (qN c hc).2⟩, qD⟩, va_recv G.2.2.2.2.2.1 hP hc he, fun U hU hW => ⟨rfl, by rw [hU], by rw [hU]; exact hP, va_K.moved hW.alike G.2.2.2.2.2.1, fun c hc => ⟨(G.2.2.2.2.2.2.1 c hc).1, nest_warm (G.2.2.2.2.2.2.1 c hc).1 hW (G.2.2.2.2.2.2.1 c hc).2⟩, hD.weaken (fun _ _ _ _ => trivial)⟩⟩ rfl rfl hl.1 rfl (lv_room hroom) dd ⟨hcs.1, hcs.2⟩) hS (fun q _ h => hFc q h) hFc (fun r u t H1 locs1 ht hvm hw hB hz1 hk1 hS1 => ?_)
  obtain ⟨hP1, hD1⟩ := hB
  rw [ht] at hP1
  exact k r u hw H1 locs1 ls hP1 (hD1.weaken (fun _ q _ h => hFc q.1 h)) hS1 hl
theorem x_callVN2l (G : xG p s m args c cc nL own Ts NW D cl tys A) {wf : xSg → va_W} {σ : xSg} {b : Nat} {C : String} {host : String} {y : MethodName} {bytes : ByteArray} {maxL index d : Nat} {ret : Option FieldType} {Tc : List Cond} {a1 a2 : Value} {post : Int64 → xSg → Prop} (hM : xCl l D cl tys NW wf y Tc d [.ref b, a1, a2] σ post) (q0 : Nat) {fs : List Value} {ci : Nat} {T : u_T} {N : Nat} (he : (wf σ)[q0]? = some (b, .inr (ci, fs))) (hc : cl[ci]? = some (C, T, N)) (cw : (va_CN R s args own index y host bytes maxL ret Tc { frames := d, cells := 0, slots := 0, locals := 40 * d } 0 0 2 ∧ (Cond.instanceMethod y).before args s = true ∧ (Cond.selects C y y).before args s = true)) (dd : decode cc pc = .ok (.invokevirtual index, 3)) (hroom : (st.map fun v => v.category).sum ≤ 8) (hcs : cells ≤ R.cells ∧ slots ≤ R.slots) (k : ∀ (r : Int64) (u : xSg), post r u → xJ p l e R s m args below meth c cells slots Q D cl A nL (va_S A s.heap) (wf u) (vs) (pc + 3) (.long r :: st)) : xJ p l e R s m args below meth c cells slots Q D cl A nL (va_S A s.heap) (wf σ) (vs) (pc) (a2 :: a1 :: .ref b :: st) := fun H locs ls hP hD hS hl => by
  have hFc := x_free hD hS G.2.2.2.2.2.2.2
  refine va_calll (va_runVN (As := [a1, a2]) (rest := st) ⟨G.1, G.2.1, G.2.2.1, G.2.2.2.1, G.2.2.2.2.1⟩ (hM H.size) cw ⟨fun a U g mk q => by obtain ⟨q0, q1, qP, qK, qN, qD⟩ := q; exact ⟨q0, q1, qP, va_K.moved (u := U) (U := U.calling g mk a) (Vm.Alike.refl U.vm) qK, fun c hc => ⟨(qN c hc).1, nest_same (s := U) (U := U.calling g mk a) (qN c hc).1 rfl (qN c hc).2⟩, qD⟩, va_recv G.2.2.2.2.2.1 hP hc he, fun U hU hW => ⟨rfl, by rw [hU], by rw [hU]; exact hP, va_K.moved hW.alike G.2.2.2.2.2.1, fun c hc => ⟨(G.2.2.2.2.2.2.1 c hc).1, nest_warm (G.2.2.2.2.2.2.1 c hc).1 hW (G.2.2.2.2.2.2.1 c hc).2⟩, hD.weaken (fun _ _ _ _ => trivial)⟩⟩ rfl rfl hl.1 rfl (lv_room hroom) dd ⟨hcs.1, hcs.2⟩) hS (fun q _ h => hFc q h) hFc (fun r u t H1 locs1 ht hvm hw hB hz1 hk1 hS1 => ?_)
  obtain ⟨hP1, hD1⟩ := hB
  rw [ht] at hP1
  exact k r u hw H1 locs1 ls hP1 (hD1.weaken (fun _ q _ h => hFc q.1 h)) hS1 hl
theorem x_callVN2v (G : xG p s m args c cc nL own Ts NW D cl tys A) {wf : xSg → va_W} {σ : xSg} {b : Nat} {C : String} {host : String} {y : MethodName} {bytes : ByteArray} {maxL index d : Nat} {ret : Option FieldType} {Tc : List Cond} {a1 a2 : Value} {post : xSg → Prop} (hM : xCv l D cl tys NW wf y Tc d [.ref b, a1, a2] σ post) (q0 : Nat) {fs : List Value} {ci : Nat} {T : u_T} {N : Nat} (he : (wf σ)[q0]? = some (b, .inr (ci, fs))) (hc : cl[ci]? = some (C, T, N)) (cw : (va_CN R s args own index y host bytes maxL ret Tc { frames := d, cells := 0, slots := 0, locals := 40 * d } 0 0 2 ∧ (Cond.instanceMethod y).before args s = true ∧ (Cond.selects C y y).before args s = true)) (dd : decode cc pc = .ok (.invokevirtual index, 3)) (hroom : (st.map fun v => v.category).sum ≤ 8) (hcs : cells ≤ R.cells ∧ slots ≤ R.slots) (k : ∀ (u : xSg), post u → xJ p l e R s m args below meth c cells slots Q D cl A nL (va_S A s.heap) (wf u) (vs) (pc + 3) (st)) : xJ p l e R s m args below meth c cells slots Q D cl A nL (va_S A s.heap) (wf σ) (vs) (pc) (a2 :: a1 :: .ref b :: st) := fun H locs ls hP hD hS hl => by
  have hFc := x_free hD hS G.2.2.2.2.2.2.2
  refine va_callv (va_runVN (As := [a1, a2]) (rest := st) ⟨G.1, G.2.1, G.2.2.1, G.2.2.2.1, G.2.2.2.2.1⟩ (hM H.size) cw ⟨fun a U g mk q => by obtain ⟨q0, q1, qP, qK, qN, qD⟩ := q; exact ⟨q0, q1, qP, va_K.moved (u := U) (U := U.calling g mk a) (Vm.Alike.refl U.vm) qK, fun c hc => ⟨(qN c hc).1, nest_same (s := U) (U := U.calling g mk a) (qN c hc).1 rfl (qN c hc).2⟩, qD⟩, va_recv G.2.2.2.2.2.1 hP hc he, fun U hU hW => ⟨rfl, by rw [hU], by rw [hU]; exact hP, va_K.moved hW.alike G.2.2.2.2.2.1, fun c hc => ⟨(G.2.2.2.2.2.2.1 c hc).1, nest_warm (G.2.2.2.2.2.2.1 c hc).1 hW (G.2.2.2.2.2.2.1 c hc).2⟩, hD.weaken (fun _ _ _ _ => trivial)⟩⟩ rfl rfl hl.1 rfl (lv_room hroom) dd ⟨hcs.1, hcs.2⟩) hS (fun q _ h => hFc q h) hFc (fun u t H1 locs1 ht hvm hw hB hz1 hk1 hS1 => ?_)
  obtain ⟨hP1, hD1⟩ := hB
  rw [ht] at hP1
  exact k u hw H1 locs1 ls hP1 (hD1.weaken (fun _ q _ h => hFc q.1 h)) hS1 hl
theorem x_callS2i (G : xG p s m args c cc nL own Ts NW D cl tys A) {wf : xSg → va_W} {σ : xSg} {y : MethodName} {bytes : ByteArray} {maxL index d : Nat} {ret : Option FieldType} {Tc : List Cond} {a1 a2 : Value} {post : Int32 → xSg → Prop} (hM : xCi l D cl tys NW wf y Tc d [a1, a2] σ post) (cw : (CallB R s args own index y bytes maxL ret Tc { frames := d, cells := 0, slots := 0, locals := 40 * d } 0 0 2 ∧ (Cond.static y).before args s = true)) (dd : decode cc pc = .ok (.invokestatic index, 3)) (hroom : (st.map fun v => v.category).sum ≤ 8) (hcs : cells ≤ R.cells ∧ slots ≤ R.slots) (k : ∀ (r : Int32) (u : xSg), post r u → xJ p l e R s m args below meth c cells slots Q D cl A nL (va_S A s.heap) (wf u) (vs) (pc + 3) (.int r :: st)) : xJ p l e R s m args below meth c cells slots Q D cl A nL (va_S A s.heap) (wf σ) (vs) (pc) (a2 :: a1 :: st) := fun H locs ls hP hD hS hl => by
  have hFc := x_free hD hS G.2.2.2.2.2.2.2
  refine va_calli (va_runS (As := [a1, a2]) (rest := st) ⟨G.1, G.2.1, G.2.2.1, G.2.2.2.1, G.2.2.2.2.1⟩ (hM H.size) cw ⟨fun a U g mk q => by obtain ⟨q0, q1, qP, qK, qN, qD⟩ := q; exact ⟨q0, q1, qP, va_K.moved (u := U) (U := U.calling g mk a) (Vm.Alike.refl U.vm) qK, fun c hc => ⟨(qN c hc).1, nest_same (s := U) (U := U.calling g mk a) (qN c hc).1 rfl (qN c hc).2⟩, qD⟩, fun U hU hW => ⟨rfl, by rw [hU], by rw [hU]; exact hP, va_K.moved hW.alike G.2.2.2.2.2.1, fun c hc => ⟨(G.2.2.2.2.2.2.1 c hc).1, nest_warm (G.2.2.2.2.2.2.1 c hc).1 hW (G.2.2.2.2.2.2.1 c hc).2⟩, hD.weaken (fun _ _ _ _ => trivial)⟩⟩ rfl rfl hl.1 rfl (lv_room hroom) dd ⟨hcs.1, hcs.2⟩) hS (fun q _ h => hFc q h) hFc (fun r u t H1 locs1 ht hvm hw hB hz1 hk1 hS1 => ?_)
  obtain ⟨hP1, hD1⟩ := hB
  rw [ht] at hP1
  exact k r u hw H1 locs1 ls hP1 (hD1.weaken (fun _ q _ h => hFc q.1 h)) hS1 hl
theorem x_callS2l (G : xG p s m args c cc nL own Ts NW D cl tys A) {wf : xSg → va_W} {σ : xSg} {y : MethodName} {bytes : ByteArray} {maxL index d : Nat} {ret : Option FieldType} {Tc : List Cond} {a1 a2 : Value} {post : Int64 → xSg → Prop} (hM : xCl l D cl tys NW wf y Tc d [a1, a2] σ post) (cw : (CallB R s args own index y bytes maxL ret Tc { frames := d, cells := 0, slots := 0, locals := 40 * d } 0 0 2 ∧ (Cond.static y).before args s = true)) (dd : decode cc pc = .ok (.invokestatic index, 3)) (hroom : (st.map fun v => v.category).sum ≤ 8) (hcs : cells ≤ R.cells ∧ slots ≤ R.slots) (k : ∀ (r : Int64) (u : xSg), post r u → xJ p l e R s m args below meth c cells slots Q D cl A nL (va_S A s.heap) (wf u) (vs) (pc + 3) (.long r :: st)) : xJ p l e R s m args below meth c cells slots Q D cl A nL (va_S A s.heap) (wf σ) (vs) (pc) (a2 :: a1 :: st) := fun H locs ls hP hD hS hl => by
  have hFc := x_free hD hS G.2.2.2.2.2.2.2
  refine va_calll (va_runS (As := [a1, a2]) (rest := st) ⟨G.1, G.2.1, G.2.2.1, G.2.2.2.1, G.2.2.2.2.1⟩ (hM H.size) cw ⟨fun a U g mk q => by obtain ⟨q0, q1, qP, qK, qN, qD⟩ := q; exact ⟨q0, q1, qP, va_K.moved (u := U) (U := U.calling g mk a) (Vm.Alike.refl U.vm) qK, fun c hc => ⟨(qN c hc).1, nest_same (s := U) (U := U.calling g mk a) (qN c hc).1 rfl (qN c hc).2⟩, qD⟩, fun U hU hW => ⟨rfl, by rw [hU], by rw [hU]; exact hP, va_K.moved hW.alike G.2.2.2.2.2.1, fun c hc => ⟨(G.2.2.2.2.2.2.1 c hc).1, nest_warm (G.2.2.2.2.2.2.1 c hc).1 hW (G.2.2.2.2.2.2.1 c hc).2⟩, hD.weaken (fun _ _ _ _ => trivial)⟩⟩ rfl rfl hl.1 rfl (lv_room hroom) dd ⟨hcs.1, hcs.2⟩) hS (fun q _ h => hFc q h) hFc (fun r u t H1 locs1 ht hvm hw hB hz1 hk1 hS1 => ?_)
  obtain ⟨hP1, hD1⟩ := hB
  rw [ht] at hP1
  exact k r u hw H1 locs1 ls hP1 (hD1.weaken (fun _ q _ h => hFc q.1 h)) hS1 hl
theorem x_callS2v (G : xG p s m args c cc nL own Ts NW D cl tys A) {wf : xSg → va_W} {σ : xSg} {y : MethodName} {bytes : ByteArray} {maxL index d : Nat} {ret : Option FieldType} {Tc : List Cond} {a1 a2 : Value} {post : xSg → Prop} (hM : xCv l D cl tys NW wf y Tc d [a1, a2] σ post) (cw : (CallB R s args own index y bytes maxL ret Tc { frames := d, cells := 0, slots := 0, locals := 40 * d } 0 0 2 ∧ (Cond.static y).before args s = true)) (dd : decode cc pc = .ok (.invokestatic index, 3)) (hroom : (st.map fun v => v.category).sum ≤ 8) (hcs : cells ≤ R.cells ∧ slots ≤ R.slots) (k : ∀ (u : xSg), post u → xJ p l e R s m args below meth c cells slots Q D cl A nL (va_S A s.heap) (wf u) (vs) (pc + 3) (st)) : xJ p l e R s m args below meth c cells slots Q D cl A nL (va_S A s.heap) (wf σ) (vs) (pc) (a2 :: a1 :: st) := fun H locs ls hP hD hS hl => by
  have hFc := x_free hD hS G.2.2.2.2.2.2.2
  refine va_callv (va_runS (As := [a1, a2]) (rest := st) ⟨G.1, G.2.1, G.2.2.1, G.2.2.2.1, G.2.2.2.2.1⟩ (hM H.size) cw ⟨fun a U g mk q => by obtain ⟨q0, q1, qP, qK, qN, qD⟩ := q; exact ⟨q0, q1, qP, va_K.moved (u := U) (U := U.calling g mk a) (Vm.Alike.refl U.vm) qK, fun c hc => ⟨(qN c hc).1, nest_same (s := U) (U := U.calling g mk a) (qN c hc).1 rfl (qN c hc).2⟩, qD⟩, fun U hU hW => ⟨rfl, by rw [hU], by rw [hU]; exact hP, va_K.moved hW.alike G.2.2.2.2.2.1, fun c hc => ⟨(G.2.2.2.2.2.2.1 c hc).1, nest_warm (G.2.2.2.2.2.2.1 c hc).1 hW (G.2.2.2.2.2.2.1 c hc).2⟩, hD.weaken (fun _ _ _ _ => trivial)⟩⟩ rfl rfl hl.1 rfl (lv_room hroom) dd ⟨hcs.1, hcs.2⟩) hS (fun q _ h => hFc q h) hFc (fun u t H1 locs1 ht hvm hw hB hz1 hk1 hS1 => ?_)
  obtain ⟨hP1, hD1⟩ := hB
  rw [ht] at hP1
  exact k u hw H1 locs1 ls hP1 (hD1.weaken (fun _ q _ h => hFc q.1 h)) hS1 hl
theorem x_callSN2i (G : xG p s m args c cc nL own Ts NW D cl tys A) {wf : xSg → va_W} {σ : xSg} {host : String} {y : MethodName} {bytes : ByteArray} {maxL index d : Nat} {ret : Option FieldType} {Tc : List Cond} {a1 a2 : Value} {post : Int32 → xSg → Prop} (hM : xCi l D cl tys NW wf y Tc d [a1, a2] σ post) (cw : (va_CN R s args own index y host bytes maxL ret Tc { frames := d, cells := 0, slots := 0, locals := 40 * d } 0 0 2 ∧ (Cond.static y).before args s = true ∧ True)) (dd : decode cc pc = .ok (.invokestatic index, 3)) (hroom : (st.map fun v => v.category).sum ≤ 8) (hcs : cells ≤ R.cells ∧ slots ≤ R.slots) (k : ∀ (r : Int32) (u : xSg), post r u → xJ p l e R s m args below meth c cells slots Q D cl A nL (va_S A s.heap) (wf u) (vs) (pc + 3) (.int r :: st)) : xJ p l e R s m args below meth c cells slots Q D cl A nL (va_S A s.heap) (wf σ) (vs) (pc) (a2 :: a1 :: st) := fun H locs ls hP hD hS hl => by
  have hFc := x_free hD hS G.2.2.2.2.2.2.2
  refine va_calli (va_runSN (As := [a1, a2]) (rest := st) ⟨G.1, G.2.1, G.2.2.1, G.2.2.2.1, G.2.2.2.2.1⟩ (hM H.size) cw ⟨fun a U g mk q => by obtain ⟨q0, q1, qP, qK, qN, qD⟩ := q; exact ⟨q0, q1, qP, va_K.moved (u := U) (U := U.calling g mk a) (Vm.Alike.refl U.vm) qK, fun c hc => ⟨(qN c hc).1, nest_same (s := U) (U := U.calling g mk a) (qN c hc).1 rfl (qN c hc).2⟩, qD⟩, fun U hU hW => ⟨rfl, by rw [hU], by rw [hU]; exact hP, va_K.moved hW.alike G.2.2.2.2.2.1, fun c hc => ⟨(G.2.2.2.2.2.2.1 c hc).1, nest_warm (G.2.2.2.2.2.2.1 c hc).1 hW (G.2.2.2.2.2.2.1 c hc).2⟩, hD.weaken (fun _ _ _ _ => trivial)⟩⟩ rfl rfl hl.1 rfl (lv_room hroom) dd ⟨hcs.1, hcs.2⟩) hS (fun q _ h => hFc q h) hFc (fun r u t H1 locs1 ht hvm hw hB hz1 hk1 hS1 => ?_)
  obtain ⟨hP1, hD1⟩ := hB
  rw [ht] at hP1
  exact k r u hw H1 locs1 ls hP1 (hD1.weaken (fun _ q _ h => hFc q.1 h)) hS1 hl
theorem x_callSN2l (G : xG p s m args c cc nL own Ts NW D cl tys A) {wf : xSg → va_W} {σ : xSg} {host : String} {y : MethodName} {bytes : ByteArray} {maxL index d : Nat} {ret : Option FieldType} {Tc : List Cond} {a1 a2 : Value} {post : Int64 → xSg → Prop} (hM : xCl l D cl tys NW wf y Tc d [a1, a2] σ post) (cw : (va_CN R s args own index y host bytes maxL ret Tc { frames := d, cells := 0, slots := 0, locals := 40 * d } 0 0 2 ∧ (Cond.static y).before args s = true ∧ True)) (dd : decode cc pc = .ok (.invokestatic index, 3)) (hroom : (st.map fun v => v.category).sum ≤ 8) (hcs : cells ≤ R.cells ∧ slots ≤ R.slots) (k : ∀ (r : Int64) (u : xSg), post r u → xJ p l e R s m args below meth c cells slots Q D cl A nL (va_S A s.heap) (wf u) (vs) (pc + 3) (.long r :: st)) : xJ p l e R s m args below meth c cells slots Q D cl A nL (va_S A s.heap) (wf σ) (vs) (pc) (a2 :: a1 :: st) := fun H locs ls hP hD hS hl => by
  have hFc := x_free hD hS G.2.2.2.2.2.2.2
  refine va_calll (va_runSN (As := [a1, a2]) (rest := st) ⟨G.1, G.2.1, G.2.2.1, G.2.2.2.1, G.2.2.2.2.1⟩ (hM H.size) cw ⟨fun a U g mk q => by obtain ⟨q0, q1, qP, qK, qN, qD⟩ := q; exact ⟨q0, q1, qP, va_K.moved (u := U) (U := U.calling g mk a) (Vm.Alike.refl U.vm) qK, fun c hc => ⟨(qN c hc).1, nest_same (s := U) (U := U.calling g mk a) (qN c hc).1 rfl (qN c hc).2⟩, qD⟩, fun U hU hW => ⟨rfl, by rw [hU], by rw [hU]; exact hP, va_K.moved hW.alike G.2.2.2.2.2.1, fun c hc => ⟨(G.2.2.2.2.2.2.1 c hc).1, nest_warm (G.2.2.2.2.2.2.1 c hc).1 hW (G.2.2.2.2.2.2.1 c hc).2⟩, hD.weaken (fun _ _ _ _ => trivial)⟩⟩ rfl rfl hl.1 rfl (lv_room hroom) dd ⟨hcs.1, hcs.2⟩) hS (fun q _ h => hFc q h) hFc (fun r u t H1 locs1 ht hvm hw hB hz1 hk1 hS1 => ?_)
  obtain ⟨hP1, hD1⟩ := hB
  rw [ht] at hP1
  exact k r u hw H1 locs1 ls hP1 (hD1.weaken (fun _ q _ h => hFc q.1 h)) hS1 hl
theorem x_callSN2v (G : xG p s m args c cc nL own Ts NW D cl tys A) {wf : xSg → va_W} {σ : xSg} {host : String} {y : MethodName} {bytes : ByteArray} {maxL index d : Nat} {ret : Option FieldType} {Tc : List Cond} {a1 a2 : Value} {post : xSg → Prop} (hM : xCv l D cl tys NW wf y Tc d [a1, a2] σ post) (cw : (va_CN R s args own index y host bytes maxL ret Tc { frames := d, cells := 0, slots := 0, locals := 40 * d } 0 0 2 ∧ (Cond.static y).before args s = true ∧ True)) (dd : decode cc pc = .ok (.invokestatic index, 3)) (hroom : (st.map fun v => v.category).sum ≤ 8) (hcs : cells ≤ R.cells ∧ slots ≤ R.slots) (k : ∀ (u : xSg), post u → xJ p l e R s m args below meth c cells slots Q D cl A nL (va_S A s.heap) (wf u) (vs) (pc + 3) (st)) : xJ p l e R s m args below meth c cells slots Q D cl A nL (va_S A s.heap) (wf σ) (vs) (pc) (a2 :: a1 :: st) := fun H locs ls hP hD hS hl => by
  have hFc := x_free hD hS G.2.2.2.2.2.2.2
  refine va_callv (va_runSN (As := [a1, a2]) (rest := st) ⟨G.1, G.2.1, G.2.2.1, G.2.2.2.1, G.2.2.2.2.1⟩ (hM H.size) cw ⟨fun a U g mk q => by obtain ⟨q0, q1, qP, qK, qN, qD⟩ := q; exact ⟨q0, q1, qP, va_K.moved (u := U) (U := U.calling g mk a) (Vm.Alike.refl U.vm) qK, fun c hc => ⟨(qN c hc).1, nest_same (s := U) (U := U.calling g mk a) (qN c hc).1 rfl (qN c hc).2⟩, qD⟩, fun U hU hW => ⟨rfl, by rw [hU], by rw [hU]; exact hP, va_K.moved hW.alike G.2.2.2.2.2.1, fun c hc => ⟨(G.2.2.2.2.2.2.1 c hc).1, nest_warm (G.2.2.2.2.2.2.1 c hc).1 hW (G.2.2.2.2.2.2.1 c hc).2⟩, hD.weaken (fun _ _ _ _ => trivial)⟩⟩ rfl rfl hl.1 rfl (lv_room hroom) dd ⟨hcs.1, hcs.2⟩) hS (fun q _ h => hFc q h) hFc (fun u t H1 locs1 ht hvm hw hB hz1 hk1 hS1 => ?_)
  obtain ⟨hP1, hD1⟩ := hB
  rw [ht] at hP1
  exact k u hw H1 locs1 ls hP1 (hD1.weaken (fun _ q _ h => hFc q.1 h)) hS1 hl
theorem x_callV3i (G : xG p s m args c cc nL own Ts NW D cl tys A) {wf : xSg → va_W} {σ : xSg} {b : Nat} {C : String} {y : MethodName} {bytes : ByteArray} {maxL index d : Nat} {ret : Option FieldType} {Tc : List Cond} {a1 a2 a3 : Value} {post : Int32 → xSg → Prop} (hM : xCi l D cl tys NW wf y Tc d [.ref b, a1, a2, a3] σ post) (q0 : Nat) {fs : List Value} {ci : Nat} {T : u_T} {N : Nat} (he : (wf σ)[q0]? = some (b, .inr (ci, fs))) (hc : cl[ci]? = some (C, T, N)) (cw : CallW R s args own C index y bytes maxL ret Tc { frames := d, cells := 0, slots := 0, locals := 40 * d } 0 0 3) (dd : decode cc pc = .ok (.invokevirtual index, 3)) (hroom : (st.map fun v => v.category).sum ≤ 8) (hcs : cells ≤ R.cells ∧ slots ≤ R.slots) (k : ∀ (r : Int32) (u : xSg), post r u → xJ p l e R s m args below meth c cells slots Q D cl A nL (va_S A s.heap) (wf u) (vs) (pc + 3) (.int r :: st)) : xJ p l e R s m args below meth c cells slots Q D cl A nL (va_S A s.heap) (wf σ) (vs) (pc) (a3 :: a2 :: a1 :: .ref b :: st) := fun H locs ls hP hD hS hl => by
  have hFc := x_free hD hS G.2.2.2.2.2.2.2
  refine va_calli (va_runV (As := [a1, a2, a3]) (rest := st) ⟨G.1, G.2.1, G.2.2.1, G.2.2.2.1, G.2.2.2.2.1⟩ (hM H.size) cw ⟨fun a U g mk q => by obtain ⟨q0, q1, qP, qK, qN, qD⟩ := q; exact ⟨q0, q1, qP, va_K.moved (u := U) (U := U.calling g mk a) (Vm.Alike.refl U.vm) qK, fun c hc => ⟨(qN c hc).1, nest_same (s := U) (U := U.calling g mk a) (qN c hc).1 rfl (qN c hc).2⟩, qD⟩, va_recv G.2.2.2.2.2.1 hP hc he, fun U hU hW => ⟨rfl, by rw [hU], by rw [hU]; exact hP, va_K.moved hW.alike G.2.2.2.2.2.1, fun c hc => ⟨(G.2.2.2.2.2.2.1 c hc).1, nest_warm (G.2.2.2.2.2.2.1 c hc).1 hW (G.2.2.2.2.2.2.1 c hc).2⟩, hD.weaken (fun _ _ _ _ => trivial)⟩⟩ rfl rfl hl.1 rfl (lv_room hroom) dd ⟨hcs.1, hcs.2⟩) hS (fun q _ h => hFc q h) hFc (fun r u t H1 locs1 ht hvm hw hB hz1 hk1 hS1 => ?_)
  obtain ⟨hP1, hD1⟩ := hB
  rw [ht] at hP1
  exact k r u hw H1 locs1 ls hP1 (hD1.weaken (fun _ q _ h => hFc q.1 h)) hS1 hl
theorem x_callV3l (G : xG p s m args c cc nL own Ts NW D cl tys A) {wf : xSg → va_W} {σ : xSg} {b : Nat} {C : String} {y : MethodName} {bytes : ByteArray} {maxL index d : Nat} {ret : Option FieldType} {Tc : List Cond} {a1 a2 a3 : Value} {post : Int64 → xSg → Prop} (hM : xCl l D cl tys NW wf y Tc d [.ref b, a1, a2, a3] σ post) (q0 : Nat) {fs : List Value} {ci : Nat} {T : u_T} {N : Nat} (he : (wf σ)[q0]? = some (b, .inr (ci, fs))) (hc : cl[ci]? = some (C, T, N)) (cw : CallW R s args own C index y bytes maxL ret Tc { frames := d, cells := 0, slots := 0, locals := 40 * d } 0 0 3) (dd : decode cc pc = .ok (.invokevirtual index, 3)) (hroom : (st.map fun v => v.category).sum ≤ 8) (hcs : cells ≤ R.cells ∧ slots ≤ R.slots) (k : ∀ (r : Int64) (u : xSg), post r u → xJ p l e R s m args below meth c cells slots Q D cl A nL (va_S A s.heap) (wf u) (vs) (pc + 3) (.long r :: st)) : xJ p l e R s m args below meth c cells slots Q D cl A nL (va_S A s.heap) (wf σ) (vs) (pc) (a3 :: a2 :: a1 :: .ref b :: st) := fun H locs ls hP hD hS hl => by
  have hFc := x_free hD hS G.2.2.2.2.2.2.2
  refine va_calll (va_runV (As := [a1, a2, a3]) (rest := st) ⟨G.1, G.2.1, G.2.2.1, G.2.2.2.1, G.2.2.2.2.1⟩ (hM H.size) cw ⟨fun a U g mk q => by obtain ⟨q0, q1, qP, qK, qN, qD⟩ := q; exact ⟨q0, q1, qP, va_K.moved (u := U) (U := U.calling g mk a) (Vm.Alike.refl U.vm) qK, fun c hc => ⟨(qN c hc).1, nest_same (s := U) (U := U.calling g mk a) (qN c hc).1 rfl (qN c hc).2⟩, qD⟩, va_recv G.2.2.2.2.2.1 hP hc he, fun U hU hW => ⟨rfl, by rw [hU], by rw [hU]; exact hP, va_K.moved hW.alike G.2.2.2.2.2.1, fun c hc => ⟨(G.2.2.2.2.2.2.1 c hc).1, nest_warm (G.2.2.2.2.2.2.1 c hc).1 hW (G.2.2.2.2.2.2.1 c hc).2⟩, hD.weaken (fun _ _ _ _ => trivial)⟩⟩ rfl rfl hl.1 rfl (lv_room hroom) dd ⟨hcs.1, hcs.2⟩) hS (fun q _ h => hFc q h) hFc (fun r u t H1 locs1 ht hvm hw hB hz1 hk1 hS1 => ?_)
  obtain ⟨hP1, hD1⟩ := hB
  rw [ht] at hP1
  exact k r u hw H1 locs1 ls hP1 (hD1.weaken (fun _ q _ h => hFc q.1 h)) hS1 hl
theorem x_callV3v (G : xG p s m args c cc nL own Ts NW D cl tys A) {wf : xSg → va_W} {σ : xSg} {b : Nat} {C : String} {y : MethodName} {bytes : ByteArray} {maxL index d : Nat} {ret : Option FieldType} {Tc : List Cond} {a1 a2 a3 : Value} {post : xSg → Prop} (hM : xCv l D cl tys NW wf y Tc d [.ref b, a1, a2, a3] σ post) (q0 : Nat) {fs : List Value} {ci : Nat} {T : u_T} {N : Nat} (he : (wf σ)[q0]? = some (b, .inr (ci, fs))) (hc : cl[ci]? = some (C, T, N)) (cw : CallW R s args own C index y bytes maxL ret Tc { frames := d, cells := 0, slots := 0, locals := 40 * d } 0 0 3) (dd : decode cc pc = .ok (.invokevirtual index, 3)) (hroom : (st.map fun v => v.category).sum ≤ 8) (hcs : cells ≤ R.cells ∧ slots ≤ R.slots) (k : ∀ (u : xSg), post u → xJ p l e R s m args below meth c cells slots Q D cl A nL (va_S A s.heap) (wf u) (vs) (pc + 3) (st)) : xJ p l e R s m args below meth c cells slots Q D cl A nL (va_S A s.heap) (wf σ) (vs) (pc) (a3 :: a2 :: a1 :: .ref b :: st) := fun H locs ls hP hD hS hl => by
  have hFc := x_free hD hS G.2.2.2.2.2.2.2
  refine va_callv (va_runV (As := [a1, a2, a3]) (rest := st) ⟨G.1, G.2.1, G.2.2.1, G.2.2.2.1, G.2.2.2.2.1⟩ (hM H.size) cw ⟨fun a U g mk q => by obtain ⟨q0, q1, qP, qK, qN, qD⟩ := q; exact ⟨q0, q1, qP, va_K.moved (u := U) (U := U.calling g mk a) (Vm.Alike.refl U.vm) qK, fun c hc => ⟨(qN c hc).1, nest_same (s := U) (U := U.calling g mk a) (qN c hc).1 rfl (qN c hc).2⟩, qD⟩, va_recv G.2.2.2.2.2.1 hP hc he, fun U hU hW => ⟨rfl, by rw [hU], by rw [hU]; exact hP, va_K.moved hW.alike G.2.2.2.2.2.1, fun c hc => ⟨(G.2.2.2.2.2.2.1 c hc).1, nest_warm (G.2.2.2.2.2.2.1 c hc).1 hW (G.2.2.2.2.2.2.1 c hc).2⟩, hD.weaken (fun _ _ _ _ => trivial)⟩⟩ rfl rfl hl.1 rfl (lv_room hroom) dd ⟨hcs.1, hcs.2⟩) hS (fun q _ h => hFc q h) hFc (fun u t H1 locs1 ht hvm hw hB hz1 hk1 hS1 => ?_)
  obtain ⟨hP1, hD1⟩ := hB
  rw [ht] at hP1
  exact k u hw H1 locs1 ls hP1 (hD1.weaken (fun _ q _ h => hFc q.1 h)) hS1 hl
theorem x_callVN3i (G : xG p s m args c cc nL own Ts NW D cl tys A) {wf : xSg → va_W} {σ : xSg} {b : Nat} {C : String} {host : String} {y : MethodName} {bytes : ByteArray} {maxL index d : Nat} {ret : Option FieldType} {Tc : List Cond} {a1 a2 a3 : Value} {post : Int32 → xSg → Prop} (hM : xCi l D cl tys NW wf y Tc d [.ref b, a1, a2, a3] σ post) (q0 : Nat) {fs : List Value} {ci : Nat} {T : u_T} {N : Nat} (he : (wf σ)[q0]? = some (b, .inr (ci, fs))) (hc : cl[ci]? = some (C, T, N)) (cw : (va_CN R s args own index y host bytes maxL ret Tc { frames := d, cells := 0, slots := 0, locals := 40 * d } 0 0 3 ∧ (Cond.instanceMethod y).before args s = true ∧ (Cond.selects C y y).before args s = true)) (dd : decode cc pc = .ok (.invokevirtual index, 3)) (hroom : (st.map fun v => v.category).sum ≤ 8) (hcs : cells ≤ R.cells ∧ slots ≤ R.slots) (k : ∀ (r : Int32) (u : xSg), post r u → xJ p l e R s m args below meth c cells slots Q D cl A nL (va_S A s.heap) (wf u) (vs) (pc + 3) (.int r :: st)) : xJ p l e R s m args below meth c cells slots Q D cl A nL (va_S A s.heap) (wf σ) (vs) (pc) (a3 :: a2 :: a1 :: .ref b :: st) := fun H locs ls hP hD hS hl => by
  have hFc := x_free hD hS G.2.2.2.2.2.2.2
  refine va_calli (va_runVN (As := [a1, a2, a3]) (rest := st) ⟨G.1, G.2.1, G.2.2.1, G.2.2.2.1, G.2.2.2.2.1⟩ (hM H.size) cw ⟨fun a U g mk q => by obtain ⟨q0, q1, qP, qK, qN, qD⟩ := q; exact ⟨q0, q1, qP, va_K.moved (u := U) (U := U.calling g mk a) (Vm.Alike.refl U.vm) qK, fun c hc => ⟨(qN c hc).1, nest_same (s := U) (U := U.calling g mk a) (qN c hc).1 rfl (qN c hc).2⟩, qD⟩, va_recv G.2.2.2.2.2.1 hP hc he, fun U hU hW => ⟨rfl, by rw [hU], by rw [hU]; exact hP, va_K.moved hW.alike G.2.2.2.2.2.1, fun c hc => ⟨(G.2.2.2.2.2.2.1 c hc).1, nest_warm (G.2.2.2.2.2.2.1 c hc).1 hW (G.2.2.2.2.2.2.1 c hc).2⟩, hD.weaken (fun _ _ _ _ => trivial)⟩⟩ rfl rfl hl.1 rfl (lv_room hroom) dd ⟨hcs.1, hcs.2⟩) hS (fun q _ h => hFc q h) hFc (fun r u t H1 locs1 ht hvm hw hB hz1 hk1 hS1 => ?_)
  obtain ⟨hP1, hD1⟩ := hB
  rw [ht] at hP1
  exact k r u hw H1 locs1 ls hP1 (hD1.weaken (fun _ q _ h => hFc q.1 h)) hS1 hl
theorem x_callVN3l (G : xG p s m args c cc nL own Ts NW D cl tys A) {wf : xSg → va_W} {σ : xSg} {b : Nat} {C : String} {host : String} {y : MethodName} {bytes : ByteArray} {maxL index d : Nat} {ret : Option FieldType} {Tc : List Cond} {a1 a2 a3 : Value} {post : Int64 → xSg → Prop} (hM : xCl l D cl tys NW wf y Tc d [.ref b, a1, a2, a3] σ post) (q0 : Nat) {fs : List Value} {ci : Nat} {T : u_T} {N : Nat} (he : (wf σ)[q0]? = some (b, .inr (ci, fs))) (hc : cl[ci]? = some (C, T, N)) (cw : (va_CN R s args own index y host bytes maxL ret Tc { frames := d, cells := 0, slots := 0, locals := 40 * d } 0 0 3 ∧ (Cond.instanceMethod y).before args s = true ∧ (Cond.selects C y y).before args s = true)) (dd : decode cc pc = .ok (.invokevirtual index, 3)) (hroom : (st.map fun v => v.category).sum ≤ 8) (hcs : cells ≤ R.cells ∧ slots ≤ R.slots) (k : ∀ (r : Int64) (u : xSg), post r u → xJ p l e R s m args below meth c cells slots Q D cl A nL (va_S A s.heap) (wf u) (vs) (pc + 3) (.long r :: st)) : xJ p l e R s m args below meth c cells slots Q D cl A nL (va_S A s.heap) (wf σ) (vs) (pc) (a3 :: a2 :: a1 :: .ref b :: st) := fun H locs ls hP hD hS hl => by
  have hFc := x_free hD hS G.2.2.2.2.2.2.2
  refine va_calll (va_runVN (As := [a1, a2, a3]) (rest := st) ⟨G.1, G.2.1, G.2.2.1, G.2.2.2.1, G.2.2.2.2.1⟩ (hM H.size) cw ⟨fun a U g mk q => by obtain ⟨q0, q1, qP, qK, qN, qD⟩ := q; exact ⟨q0, q1, qP, va_K.moved (u := U) (U := U.calling g mk a) (Vm.Alike.refl U.vm) qK, fun c hc => ⟨(qN c hc).1, nest_same (s := U) (U := U.calling g mk a) (qN c hc).1 rfl (qN c hc).2⟩, qD⟩, va_recv G.2.2.2.2.2.1 hP hc he, fun U hU hW => ⟨rfl, by rw [hU], by rw [hU]; exact hP, va_K.moved hW.alike G.2.2.2.2.2.1, fun c hc => ⟨(G.2.2.2.2.2.2.1 c hc).1, nest_warm (G.2.2.2.2.2.2.1 c hc).1 hW (G.2.2.2.2.2.2.1 c hc).2⟩, hD.weaken (fun _ _ _ _ => trivial)⟩⟩ rfl rfl hl.1 rfl (lv_room hroom) dd ⟨hcs.1, hcs.2⟩) hS (fun q _ h => hFc q h) hFc (fun r u t H1 locs1 ht hvm hw hB hz1 hk1 hS1 => ?_)
  obtain ⟨hP1, hD1⟩ := hB
  rw [ht] at hP1
  exact k r u hw H1 locs1 ls hP1 (hD1.weaken (fun _ q _ h => hFc q.1 h)) hS1 hl
theorem x_callVN3v (G : xG p s m args c cc nL own Ts NW D cl tys A) {wf : xSg → va_W} {σ : xSg} {b : Nat} {C : String} {host : String} {y : MethodName} {bytes : ByteArray} {maxL index d : Nat} {ret : Option FieldType} {Tc : List Cond} {a1 a2 a3 : Value} {post : xSg → Prop} (hM : xCv l D cl tys NW wf y Tc d [.ref b, a1, a2, a3] σ post) (q0 : Nat) {fs : List Value} {ci : Nat} {T : u_T} {N : Nat} (he : (wf σ)[q0]? = some (b, .inr (ci, fs))) (hc : cl[ci]? = some (C, T, N)) (cw : (va_CN R s args own index y host bytes maxL ret Tc { frames := d, cells := 0, slots := 0, locals := 40 * d } 0 0 3 ∧ (Cond.instanceMethod y).before args s = true ∧ (Cond.selects C y y).before args s = true)) (dd : decode cc pc = .ok (.invokevirtual index, 3)) (hroom : (st.map fun v => v.category).sum ≤ 8) (hcs : cells ≤ R.cells ∧ slots ≤ R.slots) (k : ∀ (u : xSg), post u → xJ p l e R s m args below meth c cells slots Q D cl A nL (va_S A s.heap) (wf u) (vs) (pc + 3) (st)) : xJ p l e R s m args below meth c cells slots Q D cl A nL (va_S A s.heap) (wf σ) (vs) (pc) (a3 :: a2 :: a1 :: .ref b :: st) := fun H locs ls hP hD hS hl => by
  have hFc := x_free hD hS G.2.2.2.2.2.2.2
  refine va_callv (va_runVN (As := [a1, a2, a3]) (rest := st) ⟨G.1, G.2.1, G.2.2.1, G.2.2.2.1, G.2.2.2.2.1⟩ (hM H.size) cw ⟨fun a U g mk q => by obtain ⟨q0, q1, qP, qK, qN, qD⟩ := q; exact ⟨q0, q1, qP, va_K.moved (u := U) (U := U.calling g mk a) (Vm.Alike.refl U.vm) qK, fun c hc => ⟨(qN c hc).1, nest_same (s := U) (U := U.calling g mk a) (qN c hc).1 rfl (qN c hc).2⟩, qD⟩, va_recv G.2.2.2.2.2.1 hP hc he, fun U hU hW => ⟨rfl, by rw [hU], by rw [hU]; exact hP, va_K.moved hW.alike G.2.2.2.2.2.1, fun c hc => ⟨(G.2.2.2.2.2.2.1 c hc).1, nest_warm (G.2.2.2.2.2.2.1 c hc).1 hW (G.2.2.2.2.2.2.1 c hc).2⟩, hD.weaken (fun _ _ _ _ => trivial)⟩⟩ rfl rfl hl.1 rfl (lv_room hroom) dd ⟨hcs.1, hcs.2⟩) hS (fun q _ h => hFc q h) hFc (fun u t H1 locs1 ht hvm hw hB hz1 hk1 hS1 => ?_)
  obtain ⟨hP1, hD1⟩ := hB
  rw [ht] at hP1
  exact k u hw H1 locs1 ls hP1 (hD1.weaken (fun _ q _ h => hFc q.1 h)) hS1 hl
theorem x_callS3i (G : xG p s m args c cc nL own Ts NW D cl tys A) {wf : xSg → va_W} {σ : xSg} {y : MethodName} {bytes : ByteArray} {maxL index d : Nat} {ret : Option FieldType} {Tc : List Cond} {a1 a2 a3 : Value} {post : Int32 → xSg → Prop} (hM : xCi l D cl tys NW wf y Tc d [a1, a2, a3] σ post) (cw : (CallB R s args own index y bytes maxL ret Tc { frames := d, cells := 0, slots := 0, locals := 40 * d } 0 0 3 ∧ (Cond.static y).before args s = true)) (dd : decode cc pc = .ok (.invokestatic index, 3)) (hroom : (st.map fun v => v.category).sum ≤ 8) (hcs : cells ≤ R.cells ∧ slots ≤ R.slots) (k : ∀ (r : Int32) (u : xSg), post r u → xJ p l e R s m args below meth c cells slots Q D cl A nL (va_S A s.heap) (wf u) (vs) (pc + 3) (.int r :: st)) : xJ p l e R s m args below meth c cells slots Q D cl A nL (va_S A s.heap) (wf σ) (vs) (pc) (a3 :: a2 :: a1 :: st) := fun H locs ls hP hD hS hl => by
  have hFc := x_free hD hS G.2.2.2.2.2.2.2
  refine va_calli (va_runS (As := [a1, a2, a3]) (rest := st) ⟨G.1, G.2.1, G.2.2.1, G.2.2.2.1, G.2.2.2.2.1⟩ (hM H.size) cw ⟨fun a U g mk q => by obtain ⟨q0, q1, qP, qK, qN, qD⟩ := q; exact ⟨q0, q1, qP, va_K.moved (u := U) (U := U.calling g mk a) (Vm.Alike.refl U.vm) qK, fun c hc => ⟨(qN c hc).1, nest_same (s := U) (U := U.calling g mk a) (qN c hc).1 rfl (qN c hc).2⟩, qD⟩, fun U hU hW => ⟨rfl, by rw [hU], by rw [hU]; exact hP, va_K.moved hW.alike G.2.2.2.2.2.1, fun c hc => ⟨(G.2.2.2.2.2.2.1 c hc).1, nest_warm (G.2.2.2.2.2.2.1 c hc).1 hW (G.2.2.2.2.2.2.1 c hc).2⟩, hD.weaken (fun _ _ _ _ => trivial)⟩⟩ rfl rfl hl.1 rfl (lv_room hroom) dd ⟨hcs.1, hcs.2⟩) hS (fun q _ h => hFc q h) hFc (fun r u t H1 locs1 ht hvm hw hB hz1 hk1 hS1 => ?_)
  obtain ⟨hP1, hD1⟩ := hB
  rw [ht] at hP1
  exact k r u hw H1 locs1 ls hP1 (hD1.weaken (fun _ q _ h => hFc q.1 h)) hS1 hl
theorem x_callS3l (G : xG p s m args c cc nL own Ts NW D cl tys A) {wf : xSg → va_W} {σ : xSg} {y : MethodName} {bytes : ByteArray} {maxL index d : Nat} {ret : Option FieldType} {Tc : List Cond} {a1 a2 a3 : Value} {post : Int64 → xSg → Prop} (hM : xCl l D cl tys NW wf y Tc d [a1, a2, a3] σ post) (cw : (CallB R s args own index y bytes maxL ret Tc { frames := d, cells := 0, slots := 0, locals := 40 * d } 0 0 3 ∧ (Cond.static y).before args s = true)) (dd : decode cc pc = .ok (.invokestatic index, 3)) (hroom : (st.map fun v => v.category).sum ≤ 8) (hcs : cells ≤ R.cells ∧ slots ≤ R.slots) (k : ∀ (r : Int64) (u : xSg), post r u → xJ p l e R s m args below meth c cells slots Q D cl A nL (va_S A s.heap) (wf u) (vs) (pc + 3) (.long r :: st)) : xJ p l e R s m args below meth c cells slots Q D cl A nL (va_S A s.heap) (wf σ) (vs) (pc) (a3 :: a2 :: a1 :: st) := fun H locs ls hP hD hS hl => by
  have hFc := x_free hD hS G.2.2.2.2.2.2.2
  refine va_calll (va_runS (As := [a1, a2, a3]) (rest := st) ⟨G.1, G.2.1, G.2.2.1, G.2.2.2.1, G.2.2.2.2.1⟩ (hM H.size) cw ⟨fun a U g mk q => by obtain ⟨q0, q1, qP, qK, qN, qD⟩ := q; exact ⟨q0, q1, qP, va_K.moved (u := U) (U := U.calling g mk a) (Vm.Alike.refl U.vm) qK, fun c hc => ⟨(qN c hc).1, nest_same (s := U) (U := U.calling g mk a) (qN c hc).1 rfl (qN c hc).2⟩, qD⟩, fun U hU hW => ⟨rfl, by rw [hU], by rw [hU]; exact hP, va_K.moved hW.alike G.2.2.2.2.2.1, fun c hc => ⟨(G.2.2.2.2.2.2.1 c hc).1, nest_warm (G.2.2.2.2.2.2.1 c hc).1 hW (G.2.2.2.2.2.2.1 c hc).2⟩, hD.weaken (fun _ _ _ _ => trivial)⟩⟩ rfl rfl hl.1 rfl (lv_room hroom) dd ⟨hcs.1, hcs.2⟩) hS (fun q _ h => hFc q h) hFc (fun r u t H1 locs1 ht hvm hw hB hz1 hk1 hS1 => ?_)
  obtain ⟨hP1, hD1⟩ := hB
  rw [ht] at hP1
  exact k r u hw H1 locs1 ls hP1 (hD1.weaken (fun _ q _ h => hFc q.1 h)) hS1 hl
theorem x_callS3v (G : xG p s m args c cc nL own Ts NW D cl tys A) {wf : xSg → va_W} {σ : xSg} {y : MethodName} {bytes : ByteArray} {maxL index d : Nat} {ret : Option FieldType} {Tc : List Cond} {a1 a2 a3 : Value} {post : xSg → Prop} (hM : xCv l D cl tys NW wf y Tc d [a1, a2, a3] σ post) (cw : (CallB R s args own index y bytes maxL ret Tc { frames := d, cells := 0, slots := 0, locals := 40 * d } 0 0 3 ∧ (Cond.static y).before args s = true)) (dd : decode cc pc = .ok (.invokestatic index, 3)) (hroom : (st.map fun v => v.category).sum ≤ 8) (hcs : cells ≤ R.cells ∧ slots ≤ R.slots) (k : ∀ (u : xSg), post u → xJ p l e R s m args below meth c cells slots Q D cl A nL (va_S A s.heap) (wf u) (vs) (pc + 3) (st)) : xJ p l e R s m args below meth c cells slots Q D cl A nL (va_S A s.heap) (wf σ) (vs) (pc) (a3 :: a2 :: a1 :: st) := fun H locs ls hP hD hS hl => by
  have hFc := x_free hD hS G.2.2.2.2.2.2.2
  refine va_callv (va_runS (As := [a1, a2, a3]) (rest := st) ⟨G.1, G.2.1, G.2.2.1, G.2.2.2.1, G.2.2.2.2.1⟩ (hM H.size) cw ⟨fun a U g mk q => by obtain ⟨q0, q1, qP, qK, qN, qD⟩ := q; exact ⟨q0, q1, qP, va_K.moved (u := U) (U := U.calling g mk a) (Vm.Alike.refl U.vm) qK, fun c hc => ⟨(qN c hc).1, nest_same (s := U) (U := U.calling g mk a) (qN c hc).1 rfl (qN c hc).2⟩, qD⟩, fun U hU hW => ⟨rfl, by rw [hU], by rw [hU]; exact hP, va_K.moved hW.alike G.2.2.2.2.2.1, fun c hc => ⟨(G.2.2.2.2.2.2.1 c hc).1, nest_warm (G.2.2.2.2.2.2.1 c hc).1 hW (G.2.2.2.2.2.2.1 c hc).2⟩, hD.weaken (fun _ _ _ _ => trivial)⟩⟩ rfl rfl hl.1 rfl (lv_room hroom) dd ⟨hcs.1, hcs.2⟩) hS (fun q _ h => hFc q h) hFc (fun u t H1 locs1 ht hvm hw hB hz1 hk1 hS1 => ?_)
  obtain ⟨hP1, hD1⟩ := hB
  rw [ht] at hP1
  exact k u hw H1 locs1 ls hP1 (hD1.weaken (fun _ q _ h => hFc q.1 h)) hS1 hl
theorem x_callSN3i (G : xG p s m args c cc nL own Ts NW D cl tys A) {wf : xSg → va_W} {σ : xSg} {host : String} {y : MethodName} {bytes : ByteArray} {maxL index d : Nat} {ret : Option FieldType} {Tc : List Cond} {a1 a2 a3 : Value} {post : Int32 → xSg → Prop} (hM : xCi l D cl tys NW wf y Tc d [a1, a2, a3] σ post) (cw : (va_CN R s args own index y host bytes maxL ret Tc { frames := d, cells := 0, slots := 0, locals := 40 * d } 0 0 3 ∧ (Cond.static y).before args s = true ∧ True)) (dd : decode cc pc = .ok (.invokestatic index, 3)) (hroom : (st.map fun v => v.category).sum ≤ 8) (hcs : cells ≤ R.cells ∧ slots ≤ R.slots) (k : ∀ (r : Int32) (u : xSg), post r u → xJ p l e R s m args below meth c cells slots Q D cl A nL (va_S A s.heap) (wf u) (vs) (pc + 3) (.int r :: st)) : xJ p l e R s m args below meth c cells slots Q D cl A nL (va_S A s.heap) (wf σ) (vs) (pc) (a3 :: a2 :: a1 :: st) := fun H locs ls hP hD hS hl => by
  have hFc := x_free hD hS G.2.2.2.2.2.2.2
  refine va_calli (va_runSN (As := [a1, a2, a3]) (rest := st) ⟨G.1, G.2.1, G.2.2.1, G.2.2.2.1, G.2.2.2.2.1⟩ (hM H.size) cw ⟨fun a U g mk q => by obtain ⟨q0, q1, qP, qK, qN, qD⟩ := q; exact ⟨q0, q1, qP, va_K.moved (u := U) (U := U.calling g mk a) (Vm.Alike.refl U.vm) qK, fun c hc => ⟨(qN c hc).1, nest_same (s := U) (U := U.calling g mk a) (qN c hc).1 rfl (qN c hc).2⟩, qD⟩, fun U hU hW => ⟨rfl, by rw [hU], by rw [hU]; exact hP, va_K.moved hW.alike G.2.2.2.2.2.1, fun c hc => ⟨(G.2.2.2.2.2.2.1 c hc).1, nest_warm (G.2.2.2.2.2.2.1 c hc).1 hW (G.2.2.2.2.2.2.1 c hc).2⟩, hD.weaken (fun _ _ _ _ => trivial)⟩⟩ rfl rfl hl.1 rfl (lv_room hroom) dd ⟨hcs.1, hcs.2⟩) hS (fun q _ h => hFc q h) hFc (fun r u t H1 locs1 ht hvm hw hB hz1 hk1 hS1 => ?_)
  obtain ⟨hP1, hD1⟩ := hB
  rw [ht] at hP1
  exact k r u hw H1 locs1 ls hP1 (hD1.weaken (fun _ q _ h => hFc q.1 h)) hS1 hl
theorem x_callSN3l (G : xG p s m args c cc nL own Ts NW D cl tys A) {wf : xSg → va_W} {σ : xSg} {host : String} {y : MethodName} {bytes : ByteArray} {maxL index d : Nat} {ret : Option FieldType} {Tc : List Cond} {a1 a2 a3 : Value} {post : Int64 → xSg → Prop} (hM : xCl l D cl tys NW wf y Tc d [a1, a2, a3] σ post) (cw : (va_CN R s args own index y host bytes maxL ret Tc { frames := d, cells := 0, slots := 0, locals := 40 * d } 0 0 3 ∧ (Cond.static y).before args s = true ∧ True)) (dd : decode cc pc = .ok (.invokestatic index, 3)) (hroom : (st.map fun v => v.category).sum ≤ 8) (hcs : cells ≤ R.cells ∧ slots ≤ R.slots) (k : ∀ (r : Int64) (u : xSg), post r u → xJ p l e R s m args below meth c cells slots Q D cl A nL (va_S A s.heap) (wf u) (vs) (pc + 3) (.long r :: st)) : xJ p l e R s m args below meth c cells slots Q D cl A nL (va_S A s.heap) (wf σ) (vs) (pc) (a3 :: a2 :: a1 :: st) := fun H locs ls hP hD hS hl => by
  have hFc := x_free hD hS G.2.2.2.2.2.2.2
  refine va_calll (va_runSN (As := [a1, a2, a3]) (rest := st) ⟨G.1, G.2.1, G.2.2.1, G.2.2.2.1, G.2.2.2.2.1⟩ (hM H.size) cw ⟨fun a U g mk q => by obtain ⟨q0, q1, qP, qK, qN, qD⟩ := q; exact ⟨q0, q1, qP, va_K.moved (u := U) (U := U.calling g mk a) (Vm.Alike.refl U.vm) qK, fun c hc => ⟨(qN c hc).1, nest_same (s := U) (U := U.calling g mk a) (qN c hc).1 rfl (qN c hc).2⟩, qD⟩, fun U hU hW => ⟨rfl, by rw [hU], by rw [hU]; exact hP, va_K.moved hW.alike G.2.2.2.2.2.1, fun c hc => ⟨(G.2.2.2.2.2.2.1 c hc).1, nest_warm (G.2.2.2.2.2.2.1 c hc).1 hW (G.2.2.2.2.2.2.1 c hc).2⟩, hD.weaken (fun _ _ _ _ => trivial)⟩⟩ rfl rfl hl.1 rfl (lv_room hroom) dd ⟨hcs.1, hcs.2⟩) hS (fun q _ h => hFc q h) hFc (fun r u t H1 locs1 ht hvm hw hB hz1 hk1 hS1 => ?_)
  obtain ⟨hP1, hD1⟩ := hB
  rw [ht] at hP1
  exact k r u hw H1 locs1 ls hP1 (hD1.weaken (fun _ q _ h => hFc q.1 h)) hS1 hl
theorem x_callSN3v (G : xG p s m args c cc nL own Ts NW D cl tys A) {wf : xSg → va_W} {σ : xSg} {host : String} {y : MethodName} {bytes : ByteArray} {maxL index d : Nat} {ret : Option FieldType} {Tc : List Cond} {a1 a2 a3 : Value} {post : xSg → Prop} (hM : xCv l D cl tys NW wf y Tc d [a1, a2, a3] σ post) (cw : (va_CN R s args own index y host bytes maxL ret Tc { frames := d, cells := 0, slots := 0, locals := 40 * d } 0 0 3 ∧ (Cond.static y).before args s = true ∧ True)) (dd : decode cc pc = .ok (.invokestatic index, 3)) (hroom : (st.map fun v => v.category).sum ≤ 8) (hcs : cells ≤ R.cells ∧ slots ≤ R.slots) (k : ∀ (u : xSg), post u → xJ p l e R s m args below meth c cells slots Q D cl A nL (va_S A s.heap) (wf u) (vs) (pc + 3) (st)) : xJ p l e R s m args below meth c cells slots Q D cl A nL (va_S A s.heap) (wf σ) (vs) (pc) (a3 :: a2 :: a1 :: st) := fun H locs ls hP hD hS hl => by
  have hFc := x_free hD hS G.2.2.2.2.2.2.2
  refine va_callv (va_runSN (As := [a1, a2, a3]) (rest := st) ⟨G.1, G.2.1, G.2.2.1, G.2.2.2.1, G.2.2.2.2.1⟩ (hM H.size) cw ⟨fun a U g mk q => by obtain ⟨q0, q1, qP, qK, qN, qD⟩ := q; exact ⟨q0, q1, qP, va_K.moved (u := U) (U := U.calling g mk a) (Vm.Alike.refl U.vm) qK, fun c hc => ⟨(qN c hc).1, nest_same (s := U) (U := U.calling g mk a) (qN c hc).1 rfl (qN c hc).2⟩, qD⟩, fun U hU hW => ⟨rfl, by rw [hU], by rw [hU]; exact hP, va_K.moved hW.alike G.2.2.2.2.2.1, fun c hc => ⟨(G.2.2.2.2.2.2.1 c hc).1, nest_warm (G.2.2.2.2.2.2.1 c hc).1 hW (G.2.2.2.2.2.2.1 c hc).2⟩, hD.weaken (fun _ _ _ _ => trivial)⟩⟩ rfl rfl hl.1 rfl (lv_room hroom) dd ⟨hcs.1, hcs.2⟩) hS (fun q _ h => hFc q h) hFc (fun u t H1 locs1 ht hvm hw hB hz1 hk1 hS1 => ?_)
  obtain ⟨hP1, hD1⟩ := hB
  rw [ht] at hP1
  exact k u hw H1 locs1 ls hP1 (hD1.weaken (fun _ q _ h => hFc q.1 h)) hS1 hl
theorem x_callV4i (G : xG p s m args c cc nL own Ts NW D cl tys A) {wf : xSg → va_W} {σ : xSg} {b : Nat} {C : String} {y : MethodName} {bytes : ByteArray} {maxL index d : Nat} {ret : Option FieldType} {Tc : List Cond} {a1 a2 a3 a4 : Value} {post : Int32 → xSg → Prop} (hM : xCi l D cl tys NW wf y Tc d [.ref b, a1, a2, a3, a4] σ post) (q0 : Nat) {fs : List Value} {ci : Nat} {T : u_T} {N : Nat} (he : (wf σ)[q0]? = some (b, .inr (ci, fs))) (hc : cl[ci]? = some (C, T, N)) (cw : CallW R s args own C index y bytes maxL ret Tc { frames := d, cells := 0, slots := 0, locals := 40 * d } 0 0 4) (dd : decode cc pc = .ok (.invokevirtual index, 3)) (hroom : (st.map fun v => v.category).sum ≤ 8) (hcs : cells ≤ R.cells ∧ slots ≤ R.slots) (k : ∀ (r : Int32) (u : xSg), post r u → xJ p l e R s m args below meth c cells slots Q D cl A nL (va_S A s.heap) (wf u) (vs) (pc + 3) (.int r :: st)) : xJ p l e R s m args below meth c cells slots Q D cl A nL (va_S A s.heap) (wf σ) (vs) (pc) (a4 :: a3 :: a2 :: a1 :: .ref b :: st) := fun H locs ls hP hD hS hl => by
  have hFc := x_free hD hS G.2.2.2.2.2.2.2
  refine va_calli (va_runV (As := [a1, a2, a3, a4]) (rest := st) ⟨G.1, G.2.1, G.2.2.1, G.2.2.2.1, G.2.2.2.2.1⟩ (hM H.size) cw ⟨fun a U g mk q => by obtain ⟨q0, q1, qP, qK, qN, qD⟩ := q; exact ⟨q0, q1, qP, va_K.moved (u := U) (U := U.calling g mk a) (Vm.Alike.refl U.vm) qK, fun c hc => ⟨(qN c hc).1, nest_same (s := U) (U := U.calling g mk a) (qN c hc).1 rfl (qN c hc).2⟩, qD⟩, va_recv G.2.2.2.2.2.1 hP hc he, fun U hU hW => ⟨rfl, by rw [hU], by rw [hU]; exact hP, va_K.moved hW.alike G.2.2.2.2.2.1, fun c hc => ⟨(G.2.2.2.2.2.2.1 c hc).1, nest_warm (G.2.2.2.2.2.2.1 c hc).1 hW (G.2.2.2.2.2.2.1 c hc).2⟩, hD.weaken (fun _ _ _ _ => trivial)⟩⟩ rfl rfl hl.1 rfl (lv_room hroom) dd ⟨hcs.1, hcs.2⟩) hS (fun q _ h => hFc q h) hFc (fun r u t H1 locs1 ht hvm hw hB hz1 hk1 hS1 => ?_)
  obtain ⟨hP1, hD1⟩ := hB
  rw [ht] at hP1
  exact k r u hw H1 locs1 ls hP1 (hD1.weaken (fun _ q _ h => hFc q.1 h)) hS1 hl
theorem x_callV4l (G : xG p s m args c cc nL own Ts NW D cl tys A) {wf : xSg → va_W} {σ : xSg} {b : Nat} {C : String} {y : MethodName} {bytes : ByteArray} {maxL index d : Nat} {ret : Option FieldType} {Tc : List Cond} {a1 a2 a3 a4 : Value} {post : Int64 → xSg → Prop} (hM : xCl l D cl tys NW wf y Tc d [.ref b, a1, a2, a3, a4] σ post) (q0 : Nat) {fs : List Value} {ci : Nat} {T : u_T} {N : Nat} (he : (wf σ)[q0]? = some (b, .inr (ci, fs))) (hc : cl[ci]? = some (C, T, N)) (cw : CallW R s args own C index y bytes maxL ret Tc { frames := d, cells := 0, slots := 0, locals := 40 * d } 0 0 4) (dd : decode cc pc = .ok (.invokevirtual index, 3)) (hroom : (st.map fun v => v.category).sum ≤ 8) (hcs : cells ≤ R.cells ∧ slots ≤ R.slots) (k : ∀ (r : Int64) (u : xSg), post r u → xJ p l e R s m args below meth c cells slots Q D cl A nL (va_S A s.heap) (wf u) (vs) (pc + 3) (.long r :: st)) : xJ p l e R s m args below meth c cells slots Q D cl A nL (va_S A s.heap) (wf σ) (vs) (pc) (a4 :: a3 :: a2 :: a1 :: .ref b :: st) := fun H locs ls hP hD hS hl => by
  have hFc := x_free hD hS G.2.2.2.2.2.2.2
  refine va_calll (va_runV (As := [a1, a2, a3, a4]) (rest := st) ⟨G.1, G.2.1, G.2.2.1, G.2.2.2.1, G.2.2.2.2.1⟩ (hM H.size) cw ⟨fun a U g mk q => by obtain ⟨q0, q1, qP, qK, qN, qD⟩ := q; exact ⟨q0, q1, qP, va_K.moved (u := U) (U := U.calling g mk a) (Vm.Alike.refl U.vm) qK, fun c hc => ⟨(qN c hc).1, nest_same (s := U) (U := U.calling g mk a) (qN c hc).1 rfl (qN c hc).2⟩, qD⟩, va_recv G.2.2.2.2.2.1 hP hc he, fun U hU hW => ⟨rfl, by rw [hU], by rw [hU]; exact hP, va_K.moved hW.alike G.2.2.2.2.2.1, fun c hc => ⟨(G.2.2.2.2.2.2.1 c hc).1, nest_warm (G.2.2.2.2.2.2.1 c hc).1 hW (G.2.2.2.2.2.2.1 c hc).2⟩, hD.weaken (fun _ _ _ _ => trivial)⟩⟩ rfl rfl hl.1 rfl (lv_room hroom) dd ⟨hcs.1, hcs.2⟩) hS (fun q _ h => hFc q h) hFc (fun r u t H1 locs1 ht hvm hw hB hz1 hk1 hS1 => ?_)
  obtain ⟨hP1, hD1⟩ := hB
  rw [ht] at hP1
  exact k r u hw H1 locs1 ls hP1 (hD1.weaken (fun _ q _ h => hFc q.1 h)) hS1 hl
theorem x_callV4v (G : xG p s m args c cc nL own Ts NW D cl tys A) {wf : xSg → va_W} {σ : xSg} {b : Nat} {C : String} {y : MethodName} {bytes : ByteArray} {maxL index d : Nat} {ret : Option FieldType} {Tc : List Cond} {a1 a2 a3 a4 : Value} {post : xSg → Prop} (hM : xCv l D cl tys NW wf y Tc d [.ref b, a1, a2, a3, a4] σ post) (q0 : Nat) {fs : List Value} {ci : Nat} {T : u_T} {N : Nat} (he : (wf σ)[q0]? = some (b, .inr (ci, fs))) (hc : cl[ci]? = some (C, T, N)) (cw : CallW R s args own C index y bytes maxL ret Tc { frames := d, cells := 0, slots := 0, locals := 40 * d } 0 0 4) (dd : decode cc pc = .ok (.invokevirtual index, 3)) (hroom : (st.map fun v => v.category).sum ≤ 8) (hcs : cells ≤ R.cells ∧ slots ≤ R.slots) (k : ∀ (u : xSg), post u → xJ p l e R s m args below meth c cells slots Q D cl A nL (va_S A s.heap) (wf u) (vs) (pc + 3) (st)) : xJ p l e R s m args below meth c cells slots Q D cl A nL (va_S A s.heap) (wf σ) (vs) (pc) (a4 :: a3 :: a2 :: a1 :: .ref b :: st) := fun H locs ls hP hD hS hl => by
  have hFc := x_free hD hS G.2.2.2.2.2.2.2
  refine va_callv (va_runV (As := [a1, a2, a3, a4]) (rest := st) ⟨G.1, G.2.1, G.2.2.1, G.2.2.2.1, G.2.2.2.2.1⟩ (hM H.size) cw ⟨fun a U g mk q => by obtain ⟨q0, q1, qP, qK, qN, qD⟩ := q; exact ⟨q0, q1, qP, va_K.moved (u := U) (U := U.calling g mk a) (Vm.Alike.refl U.vm) qK, fun c hc => ⟨(qN c hc).1, nest_same (s := U) (U := U.calling g mk a) (qN c hc).1 rfl (qN c hc).2⟩, qD⟩, va_recv G.2.2.2.2.2.1 hP hc he, fun U hU hW => ⟨rfl, by rw [hU], by rw [hU]; exact hP, va_K.moved hW.alike G.2.2.2.2.2.1, fun c hc => ⟨(G.2.2.2.2.2.2.1 c hc).1, nest_warm (G.2.2.2.2.2.2.1 c hc).1 hW (G.2.2.2.2.2.2.1 c hc).2⟩, hD.weaken (fun _ _ _ _ => trivial)⟩⟩ rfl rfl hl.1 rfl (lv_room hroom) dd ⟨hcs.1, hcs.2⟩) hS (fun q _ h => hFc q h) hFc (fun u t H1 locs1 ht hvm hw hB hz1 hk1 hS1 => ?_)
  obtain ⟨hP1, hD1⟩ := hB
  rw [ht] at hP1
  exact k u hw H1 locs1 ls hP1 (hD1.weaken (fun _ q _ h => hFc q.1 h)) hS1 hl
theorem x_callVN4i (G : xG p s m args c cc nL own Ts NW D cl tys A) {wf : xSg → va_W} {σ : xSg} {b : Nat} {C : String} {host : String} {y : MethodName} {bytes : ByteArray} {maxL index d : Nat} {ret : Option FieldType} {Tc : List Cond} {a1 a2 a3 a4 : Value} {post : Int32 → xSg → Prop} (hM : xCi l D cl tys NW wf y Tc d [.ref b, a1, a2, a3, a4] σ post) (q0 : Nat) {fs : List Value} {ci : Nat} {T : u_T} {N : Nat} (he : (wf σ)[q0]? = some (b, .inr (ci, fs))) (hc : cl[ci]? = some (C, T, N)) (cw : (va_CN R s args own index y host bytes maxL ret Tc { frames := d, cells := 0, slots := 0, locals := 40 * d } 0 0 4 ∧ (Cond.instanceMethod y).before args s = true ∧ (Cond.selects C y y).before args s = true)) (dd : decode cc pc = .ok (.invokevirtual index, 3)) (hroom : (st.map fun v => v.category).sum ≤ 8) (hcs : cells ≤ R.cells ∧ slots ≤ R.slots) (k : ∀ (r : Int32) (u : xSg), post r u → xJ p l e R s m args below meth c cells slots Q D cl A nL (va_S A s.heap) (wf u) (vs) (pc + 3) (.int r :: st)) : xJ p l e R s m args below meth c cells slots Q D cl A nL (va_S A s.heap) (wf σ) (vs) (pc) (a4 :: a3 :: a2 :: a1 :: .ref b :: st) := fun H locs ls hP hD hS hl => by
  have hFc := x_free hD hS G.2.2.2.2.2.2.2
  refine va_calli (va_runVN (As := [a1, a2, a3, a4]) (rest := st) ⟨G.1, G.2.1, G.2.2.1, G.2.2.2.1, G.2.2.2.2.1⟩ (hM H.size) cw ⟨fun a U g mk q => by obtain ⟨q0, q1, qP, qK, qN, qD⟩ := q; exact ⟨q0, q1, qP, va_K.moved (u := U) (U := U.calling g mk a) (Vm.Alike.refl U.vm) qK, fun c hc => ⟨(qN c hc).1, nest_same (s := U) (U := U.calling g mk a) (qN c hc).1 rfl (qN c hc).2⟩, qD⟩, va_recv G.2.2.2.2.2.1 hP hc he, fun U hU hW => ⟨rfl, by rw [hU], by rw [hU]; exact hP, va_K.moved hW.alike G.2.2.2.2.2.1, fun c hc => ⟨(G.2.2.2.2.2.2.1 c hc).1, nest_warm (G.2.2.2.2.2.2.1 c hc).1 hW (G.2.2.2.2.2.2.1 c hc).2⟩, hD.weaken (fun _ _ _ _ => trivial)⟩⟩ rfl rfl hl.1 rfl (lv_room hroom) dd ⟨hcs.1, hcs.2⟩) hS (fun q _ h => hFc q h) hFc (fun r u t H1 locs1 ht hvm hw hB hz1 hk1 hS1 => ?_)
  obtain ⟨hP1, hD1⟩ := hB
  rw [ht] at hP1
  exact k r u hw H1 locs1 ls hP1 (hD1.weaken (fun _ q _ h => hFc q.1 h)) hS1 hl
theorem x_callVN4l (G : xG p s m args c cc nL own Ts NW D cl tys A) {wf : xSg → va_W} {σ : xSg} {b : Nat} {C : String} {host : String} {y : MethodName} {bytes : ByteArray} {maxL index d : Nat} {ret : Option FieldType} {Tc : List Cond} {a1 a2 a3 a4 : Value} {post : Int64 → xSg → Prop} (hM : xCl l D cl tys NW wf y Tc d [.ref b, a1, a2, a3, a4] σ post) (q0 : Nat) {fs : List Value} {ci : Nat} {T : u_T} {N : Nat} (he : (wf σ)[q0]? = some (b, .inr (ci, fs))) (hc : cl[ci]? = some (C, T, N)) (cw : (va_CN R s args own index y host bytes maxL ret Tc { frames := d, cells := 0, slots := 0, locals := 40 * d } 0 0 4 ∧ (Cond.instanceMethod y).before args s = true ∧ (Cond.selects C y y).before args s = true)) (dd : decode cc pc = .ok (.invokevirtual index, 3)) (hroom : (st.map fun v => v.category).sum ≤ 8) (hcs : cells ≤ R.cells ∧ slots ≤ R.slots) (k : ∀ (r : Int64) (u : xSg), post r u → xJ p l e R s m args below meth c cells slots Q D cl A nL (va_S A s.heap) (wf u) (vs) (pc + 3) (.long r :: st)) : xJ p l e R s m args below meth c cells slots Q D cl A nL (va_S A s.heap) (wf σ) (vs) (pc) (a4 :: a3 :: a2 :: a1 :: .ref b :: st) := fun H locs ls hP hD hS hl => by
  have hFc := x_free hD hS G.2.2.2.2.2.2.2
  refine va_calll (va_runVN (As := [a1, a2, a3, a4]) (rest := st) ⟨G.1, G.2.1, G.2.2.1, G.2.2.2.1, G.2.2.2.2.1⟩ (hM H.size) cw ⟨fun a U g mk q => by obtain ⟨q0, q1, qP, qK, qN, qD⟩ := q; exact ⟨q0, q1, qP, va_K.moved (u := U) (U := U.calling g mk a) (Vm.Alike.refl U.vm) qK, fun c hc => ⟨(qN c hc).1, nest_same (s := U) (U := U.calling g mk a) (qN c hc).1 rfl (qN c hc).2⟩, qD⟩, va_recv G.2.2.2.2.2.1 hP hc he, fun U hU hW => ⟨rfl, by rw [hU], by rw [hU]; exact hP, va_K.moved hW.alike G.2.2.2.2.2.1, fun c hc => ⟨(G.2.2.2.2.2.2.1 c hc).1, nest_warm (G.2.2.2.2.2.2.1 c hc).1 hW (G.2.2.2.2.2.2.1 c hc).2⟩, hD.weaken (fun _ _ _ _ => trivial)⟩⟩ rfl rfl hl.1 rfl (lv_room hroom) dd ⟨hcs.1, hcs.2⟩) hS (fun q _ h => hFc q h) hFc (fun r u t H1 locs1 ht hvm hw hB hz1 hk1 hS1 => ?_)
  obtain ⟨hP1, hD1⟩ := hB
  rw [ht] at hP1
  exact k r u hw H1 locs1 ls hP1 (hD1.weaken (fun _ q _ h => hFc q.1 h)) hS1 hl
theorem x_callVN4v (G : xG p s m args c cc nL own Ts NW D cl tys A) {wf : xSg → va_W} {σ : xSg} {b : Nat} {C : String} {host : String} {y : MethodName} {bytes : ByteArray} {maxL index d : Nat} {ret : Option FieldType} {Tc : List Cond} {a1 a2 a3 a4 : Value} {post : xSg → Prop} (hM : xCv l D cl tys NW wf y Tc d [.ref b, a1, a2, a3, a4] σ post) (q0 : Nat) {fs : List Value} {ci : Nat} {T : u_T} {N : Nat} (he : (wf σ)[q0]? = some (b, .inr (ci, fs))) (hc : cl[ci]? = some (C, T, N)) (cw : (va_CN R s args own index y host bytes maxL ret Tc { frames := d, cells := 0, slots := 0, locals := 40 * d } 0 0 4 ∧ (Cond.instanceMethod y).before args s = true ∧ (Cond.selects C y y).before args s = true)) (dd : decode cc pc = .ok (.invokevirtual index, 3)) (hroom : (st.map fun v => v.category).sum ≤ 8) (hcs : cells ≤ R.cells ∧ slots ≤ R.slots) (k : ∀ (u : xSg), post u → xJ p l e R s m args below meth c cells slots Q D cl A nL (va_S A s.heap) (wf u) (vs) (pc + 3) (st)) : xJ p l e R s m args below meth c cells slots Q D cl A nL (va_S A s.heap) (wf σ) (vs) (pc) (a4 :: a3 :: a2 :: a1 :: .ref b :: st) := fun H locs ls hP hD hS hl => by
  have hFc := x_free hD hS G.2.2.2.2.2.2.2
  refine va_callv (va_runVN (As := [a1, a2, a3, a4]) (rest := st) ⟨G.1, G.2.1, G.2.2.1, G.2.2.2.1, G.2.2.2.2.1⟩ (hM H.size) cw ⟨fun a U g mk q => by obtain ⟨q0, q1, qP, qK, qN, qD⟩ := q; exact ⟨q0, q1, qP, va_K.moved (u := U) (U := U.calling g mk a) (Vm.Alike.refl U.vm) qK, fun c hc => ⟨(qN c hc).1, nest_same (s := U) (U := U.calling g mk a) (qN c hc).1 rfl (qN c hc).2⟩, qD⟩, va_recv G.2.2.2.2.2.1 hP hc he, fun U hU hW => ⟨rfl, by rw [hU], by rw [hU]; exact hP, va_K.moved hW.alike G.2.2.2.2.2.1, fun c hc => ⟨(G.2.2.2.2.2.2.1 c hc).1, nest_warm (G.2.2.2.2.2.2.1 c hc).1 hW (G.2.2.2.2.2.2.1 c hc).2⟩, hD.weaken (fun _ _ _ _ => trivial)⟩⟩ rfl rfl hl.1 rfl (lv_room hroom) dd ⟨hcs.1, hcs.2⟩) hS (fun q _ h => hFc q h) hFc (fun u t H1 locs1 ht hvm hw hB hz1 hk1 hS1 => ?_)
  obtain ⟨hP1, hD1⟩ := hB
  rw [ht] at hP1
  exact k u hw H1 locs1 ls hP1 (hD1.weaken (fun _ q _ h => hFc q.1 h)) hS1 hl
theorem x_callS4i (G : xG p s m args c cc nL own Ts NW D cl tys A) {wf : xSg → va_W} {σ : xSg} {y : MethodName} {bytes : ByteArray} {maxL index d : Nat} {ret : Option FieldType} {Tc : List Cond} {a1 a2 a3 a4 : Value} {post : Int32 → xSg → Prop} (hM : xCi l D cl tys NW wf y Tc d [a1, a2, a3, a4] σ post) (cw : (CallB R s args own index y bytes maxL ret Tc { frames := d, cells := 0, slots := 0, locals := 40 * d } 0 0 4 ∧ (Cond.static y).before args s = true)) (dd : decode cc pc = .ok (.invokestatic index, 3)) (hroom : (st.map fun v => v.category).sum ≤ 8) (hcs : cells ≤ R.cells ∧ slots ≤ R.slots) (k : ∀ (r : Int32) (u : xSg), post r u → xJ p l e R s m args below meth c cells slots Q D cl A nL (va_S A s.heap) (wf u) (vs) (pc + 3) (.int r :: st)) : xJ p l e R s m args below meth c cells slots Q D cl A nL (va_S A s.heap) (wf σ) (vs) (pc) (a4 :: a3 :: a2 :: a1 :: st) := fun H locs ls hP hD hS hl => by
  have hFc := x_free hD hS G.2.2.2.2.2.2.2
  refine va_calli (va_runS (As := [a1, a2, a3, a4]) (rest := st) ⟨G.1, G.2.1, G.2.2.1, G.2.2.2.1, G.2.2.2.2.1⟩ (hM H.size) cw ⟨fun a U g mk q => by obtain ⟨q0, q1, qP, qK, qN, qD⟩ := q; exact ⟨q0, q1, qP, va_K.moved (u := U) (U := U.calling g mk a) (Vm.Alike.refl U.vm) qK, fun c hc => ⟨(qN c hc).1, nest_same (s := U) (U := U.calling g mk a) (qN c hc).1 rfl (qN c hc).2⟩, qD⟩, fun U hU hW => ⟨rfl, by rw [hU], by rw [hU]; exact hP, va_K.moved hW.alike G.2.2.2.2.2.1, fun c hc => ⟨(G.2.2.2.2.2.2.1 c hc).1, nest_warm (G.2.2.2.2.2.2.1 c hc).1 hW (G.2.2.2.2.2.2.1 c hc).2⟩, hD.weaken (fun _ _ _ _ => trivial)⟩⟩ rfl rfl hl.1 rfl (lv_room hroom) dd ⟨hcs.1, hcs.2⟩) hS (fun q _ h => hFc q h) hFc (fun r u t H1 locs1 ht hvm hw hB hz1 hk1 hS1 => ?_)
  obtain ⟨hP1, hD1⟩ := hB
  rw [ht] at hP1
  exact k r u hw H1 locs1 ls hP1 (hD1.weaken (fun _ q _ h => hFc q.1 h)) hS1 hl
theorem x_callS4l (G : xG p s m args c cc nL own Ts NW D cl tys A) {wf : xSg → va_W} {σ : xSg} {y : MethodName} {bytes : ByteArray} {maxL index d : Nat} {ret : Option FieldType} {Tc : List Cond} {a1 a2 a3 a4 : Value} {post : Int64 → xSg → Prop} (hM : xCl l D cl tys NW wf y Tc d [a1, a2, a3, a4] σ post) (cw : (CallB R s args own index y bytes maxL ret Tc { frames := d, cells := 0, slots := 0, locals := 40 * d } 0 0 4 ∧ (Cond.static y).before args s = true)) (dd : decode cc pc = .ok (.invokestatic index, 3)) (hroom : (st.map fun v => v.category).sum ≤ 8) (hcs : cells ≤ R.cells ∧ slots ≤ R.slots) (k : ∀ (r : Int64) (u : xSg), post r u → xJ p l e R s m args below meth c cells slots Q D cl A nL (va_S A s.heap) (wf u) (vs) (pc + 3) (.long r :: st)) : xJ p l e R s m args below meth c cells slots Q D cl A nL (va_S A s.heap) (wf σ) (vs) (pc) (a4 :: a3 :: a2 :: a1 :: st) := fun H locs ls hP hD hS hl => by
  have hFc := x_free hD hS G.2.2.2.2.2.2.2
  refine va_calll (va_runS (As := [a1, a2, a3, a4]) (rest := st) ⟨G.1, G.2.1, G.2.2.1, G.2.2.2.1, G.2.2.2.2.1⟩ (hM H.size) cw ⟨fun a U g mk q => by obtain ⟨q0, q1, qP, qK, qN, qD⟩ := q; exact ⟨q0, q1, qP, va_K.moved (u := U) (U := U.calling g mk a) (Vm.Alike.refl U.vm) qK, fun c hc => ⟨(qN c hc).1, nest_same (s := U) (U := U.calling g mk a) (qN c hc).1 rfl (qN c hc).2⟩, qD⟩, fun U hU hW => ⟨rfl, by rw [hU], by rw [hU]; exact hP, va_K.moved hW.alike G.2.2.2.2.2.1, fun c hc => ⟨(G.2.2.2.2.2.2.1 c hc).1, nest_warm (G.2.2.2.2.2.2.1 c hc).1 hW (G.2.2.2.2.2.2.1 c hc).2⟩, hD.weaken (fun _ _ _ _ => trivial)⟩⟩ rfl rfl hl.1 rfl (lv_room hroom) dd ⟨hcs.1, hcs.2⟩) hS (fun q _ h => hFc q h) hFc (fun r u t H1 locs1 ht hvm hw hB hz1 hk1 hS1 => ?_)
  obtain ⟨hP1, hD1⟩ := hB
  rw [ht] at hP1
  exact k r u hw H1 locs1 ls hP1 (hD1.weaken (fun _ q _ h => hFc q.1 h)) hS1 hl
theorem x_callS4v (G : xG p s m args c cc nL own Ts NW D cl tys A) {wf : xSg → va_W} {σ : xSg} {y : MethodName} {bytes : ByteArray} {maxL index d : Nat} {ret : Option FieldType} {Tc : List Cond} {a1 a2 a3 a4 : Value} {post : xSg → Prop} (hM : xCv l D cl tys NW wf y Tc d [a1, a2, a3, a4] σ post) (cw : (CallB R s args own index y bytes maxL ret Tc { frames := d, cells := 0, slots := 0, locals := 40 * d } 0 0 4 ∧ (Cond.static y).before args s = true)) (dd : decode cc pc = .ok (.invokestatic index, 3)) (hroom : (st.map fun v => v.category).sum ≤ 8) (hcs : cells ≤ R.cells ∧ slots ≤ R.slots) (k : ∀ (u : xSg), post u → xJ p l e R s m args below meth c cells slots Q D cl A nL (va_S A s.heap) (wf u) (vs) (pc + 3) (st)) : xJ p l e R s m args below meth c cells slots Q D cl A nL (va_S A s.heap) (wf σ) (vs) (pc) (a4 :: a3 :: a2 :: a1 :: st) := fun H locs ls hP hD hS hl => by
  have hFc := x_free hD hS G.2.2.2.2.2.2.2
  refine va_callv (va_runS (As := [a1, a2, a3, a4]) (rest := st) ⟨G.1, G.2.1, G.2.2.1, G.2.2.2.1, G.2.2.2.2.1⟩ (hM H.size) cw ⟨fun a U g mk q => by obtain ⟨q0, q1, qP, qK, qN, qD⟩ := q; exact ⟨q0, q1, qP, va_K.moved (u := U) (U := U.calling g mk a) (Vm.Alike.refl U.vm) qK, fun c hc => ⟨(qN c hc).1, nest_same (s := U) (U := U.calling g mk a) (qN c hc).1 rfl (qN c hc).2⟩, qD⟩, fun U hU hW => ⟨rfl, by rw [hU], by rw [hU]; exact hP, va_K.moved hW.alike G.2.2.2.2.2.1, fun c hc => ⟨(G.2.2.2.2.2.2.1 c hc).1, nest_warm (G.2.2.2.2.2.2.1 c hc).1 hW (G.2.2.2.2.2.2.1 c hc).2⟩, hD.weaken (fun _ _ _ _ => trivial)⟩⟩ rfl rfl hl.1 rfl (lv_room hroom) dd ⟨hcs.1, hcs.2⟩) hS (fun q _ h => hFc q h) hFc (fun u t H1 locs1 ht hvm hw hB hz1 hk1 hS1 => ?_)
  obtain ⟨hP1, hD1⟩ := hB
  rw [ht] at hP1
  exact k u hw H1 locs1 ls hP1 (hD1.weaken (fun _ q _ h => hFc q.1 h)) hS1 hl
theorem x_callSN4i (G : xG p s m args c cc nL own Ts NW D cl tys A) {wf : xSg → va_W} {σ : xSg} {host : String} {y : MethodName} {bytes : ByteArray} {maxL index d : Nat} {ret : Option FieldType} {Tc : List Cond} {a1 a2 a3 a4 : Value} {post : Int32 → xSg → Prop} (hM : xCi l D cl tys NW wf y Tc d [a1, a2, a3, a4] σ post) (cw : (va_CN R s args own index y host bytes maxL ret Tc { frames := d, cells := 0, slots := 0, locals := 40 * d } 0 0 4 ∧ (Cond.static y).before args s = true ∧ True)) (dd : decode cc pc = .ok (.invokestatic index, 3)) (hroom : (st.map fun v => v.category).sum ≤ 8) (hcs : cells ≤ R.cells ∧ slots ≤ R.slots) (k : ∀ (r : Int32) (u : xSg), post r u → xJ p l e R s m args below meth c cells slots Q D cl A nL (va_S A s.heap) (wf u) (vs) (pc + 3) (.int r :: st)) : xJ p l e R s m args below meth c cells slots Q D cl A nL (va_S A s.heap) (wf σ) (vs) (pc) (a4 :: a3 :: a2 :: a1 :: st) := fun H locs ls hP hD hS hl => by
  have hFc := x_free hD hS G.2.2.2.2.2.2.2
  refine va_calli (va_runSN (As := [a1, a2, a3, a4]) (rest := st) ⟨G.1, G.2.1, G.2.2.1, G.2.2.2.1, G.2.2.2.2.1⟩ (hM H.size) cw ⟨fun a U g mk q => by obtain ⟨q0, q1, qP, qK, qN, qD⟩ := q; exact ⟨q0, q1, qP, va_K.moved (u := U) (U := U.calling g mk a) (Vm.Alike.refl U.vm) qK, fun c hc => ⟨(qN c hc).1, nest_same (s := U) (U := U.calling g mk a) (qN c hc).1 rfl (qN c hc).2⟩, qD⟩, fun U hU hW => ⟨rfl, by rw [hU], by rw [hU]; exact hP, va_K.moved hW.alike G.2.2.2.2.2.1, fun c hc => ⟨(G.2.2.2.2.2.2.1 c hc).1, nest_warm (G.2.2.2.2.2.2.1 c hc).1 hW (G.2.2.2.2.2.2.1 c hc).2⟩, hD.weaken (fun _ _ _ _ => trivial)⟩⟩ rfl rfl hl.1 rfl (lv_room hroom) dd ⟨hcs.1, hcs.2⟩) hS (fun q _ h => hFc q h) hFc (fun r u t H1 locs1 ht hvm hw hB hz1 hk1 hS1 => ?_)
  obtain ⟨hP1, hD1⟩ := hB
  rw [ht] at hP1
  exact k r u hw H1 locs1 ls hP1 (hD1.weaken (fun _ q _ h => hFc q.1 h)) hS1 hl
theorem x_callSN4l (G : xG p s m args c cc nL own Ts NW D cl tys A) {wf : xSg → va_W} {σ : xSg} {host : String} {y : MethodName} {bytes : ByteArray} {maxL index d : Nat} {ret : Option FieldType} {Tc : List Cond} {a1 a2 a3 a4 : Value} {post : Int64 → xSg → Prop} (hM : xCl l D cl tys NW wf y Tc d [a1, a2, a3, a4] σ post) (cw : (va_CN R s args own index y host bytes maxL ret Tc { frames := d, cells := 0, slots := 0, locals := 40 * d } 0 0 4 ∧ (Cond.static y).before args s = true ∧ True)) (dd : decode cc pc = .ok (.invokestatic index, 3)) (hroom : (st.map fun v => v.category).sum ≤ 8) (hcs : cells ≤ R.cells ∧ slots ≤ R.slots) (k : ∀ (r : Int64) (u : xSg), post r u → xJ p l e R s m args below meth c cells slots Q D cl A nL (va_S A s.heap) (wf u) (vs) (pc + 3) (.long r :: st)) : xJ p l e R s m args below meth c cells slots Q D cl A nL (va_S A s.heap) (wf σ) (vs) (pc) (a4 :: a3 :: a2 :: a1 :: st) := fun H locs ls hP hD hS hl => by
  have hFc := x_free hD hS G.2.2.2.2.2.2.2
  refine va_calll (va_runSN (As := [a1, a2, a3, a4]) (rest := st) ⟨G.1, G.2.1, G.2.2.1, G.2.2.2.1, G.2.2.2.2.1⟩ (hM H.size) cw ⟨fun a U g mk q => by obtain ⟨q0, q1, qP, qK, qN, qD⟩ := q; exact ⟨q0, q1, qP, va_K.moved (u := U) (U := U.calling g mk a) (Vm.Alike.refl U.vm) qK, fun c hc => ⟨(qN c hc).1, nest_same (s := U) (U := U.calling g mk a) (qN c hc).1 rfl (qN c hc).2⟩, qD⟩, fun U hU hW => ⟨rfl, by rw [hU], by rw [hU]; exact hP, va_K.moved hW.alike G.2.2.2.2.2.1, fun c hc => ⟨(G.2.2.2.2.2.2.1 c hc).1, nest_warm (G.2.2.2.2.2.2.1 c hc).1 hW (G.2.2.2.2.2.2.1 c hc).2⟩, hD.weaken (fun _ _ _ _ => trivial)⟩⟩ rfl rfl hl.1 rfl (lv_room hroom) dd ⟨hcs.1, hcs.2⟩) hS (fun q _ h => hFc q h) hFc (fun r u t H1 locs1 ht hvm hw hB hz1 hk1 hS1 => ?_)
  obtain ⟨hP1, hD1⟩ := hB
  rw [ht] at hP1
  exact k r u hw H1 locs1 ls hP1 (hD1.weaken (fun _ q _ h => hFc q.1 h)) hS1 hl
theorem x_callSN4v (G : xG p s m args c cc nL own Ts NW D cl tys A) {wf : xSg → va_W} {σ : xSg} {host : String} {y : MethodName} {bytes : ByteArray} {maxL index d : Nat} {ret : Option FieldType} {Tc : List Cond} {a1 a2 a3 a4 : Value} {post : xSg → Prop} (hM : xCv l D cl tys NW wf y Tc d [a1, a2, a3, a4] σ post) (cw : (va_CN R s args own index y host bytes maxL ret Tc { frames := d, cells := 0, slots := 0, locals := 40 * d } 0 0 4 ∧ (Cond.static y).before args s = true ∧ True)) (dd : decode cc pc = .ok (.invokestatic index, 3)) (hroom : (st.map fun v => v.category).sum ≤ 8) (hcs : cells ≤ R.cells ∧ slots ≤ R.slots) (k : ∀ (u : xSg), post u → xJ p l e R s m args below meth c cells slots Q D cl A nL (va_S A s.heap) (wf u) (vs) (pc + 3) (st)) : xJ p l e R s m args below meth c cells slots Q D cl A nL (va_S A s.heap) (wf σ) (vs) (pc) (a4 :: a3 :: a2 :: a1 :: st) := fun H locs ls hP hD hS hl => by
  have hFc := x_free hD hS G.2.2.2.2.2.2.2
  refine va_callv (va_runSN (As := [a1, a2, a3, a4]) (rest := st) ⟨G.1, G.2.1, G.2.2.1, G.2.2.2.1, G.2.2.2.2.1⟩ (hM H.size) cw ⟨fun a U g mk q => by obtain ⟨q0, q1, qP, qK, qN, qD⟩ := q; exact ⟨q0, q1, qP, va_K.moved (u := U) (U := U.calling g mk a) (Vm.Alike.refl U.vm) qK, fun c hc => ⟨(qN c hc).1, nest_same (s := U) (U := U.calling g mk a) (qN c hc).1 rfl (qN c hc).2⟩, qD⟩, fun U hU hW => ⟨rfl, by rw [hU], by rw [hU]; exact hP, va_K.moved hW.alike G.2.2.2.2.2.1, fun c hc => ⟨(G.2.2.2.2.2.2.1 c hc).1, nest_warm (G.2.2.2.2.2.2.1 c hc).1 hW (G.2.2.2.2.2.2.1 c hc).2⟩, hD.weaken (fun _ _ _ _ => trivial)⟩⟩ rfl rfl hl.1 rfl (lv_room hroom) dd ⟨hcs.1, hcs.2⟩) hS (fun q _ h => hFc q h) hFc (fun u t H1 locs1 ht hvm hw hB hz1 hk1 hS1 => ?_)
  obtain ⟨hP1, hD1⟩ := hB
  rw [ht] at hP1
  exact k u hw H1 locs1 ls hP1 (hD1.weaken (fun _ q _ h => hFc q.1 h)) hS1 hl
theorem x_samei {H : Heap} {locs : List Loc} {ls : Array Slot} {st0 : List Value} {a : Array Value} {post : Int32 → Prop} (hr : va_Run p l e R s m args below meth c H locs cells slots 0 0 (F0 m pc ls st0) st (vp_Si post a) (fun _ => False)) (kk : ∀ r : Int32, post r → W p l e R s m args below meth c H locs cells slots Q (F0 m (pc + 3) ls (.int r :: st))) : W p l e R s m args below meth c H locs cells slots Q (F0 m pc ls st0) := by
  intro T hT Y
  obtain ⟨v, st₀, t, T', L, h0, Y', hL, e1, -, ⟨r, ho, hp, hh⟩, go⟩ := hr T hT Y
  cases ho
  obtain ⟨t', a1, b1⟩ := kk r hp T' (by rw [e1, hh, h0]) (Stand.forget Y' (fun q h => (hL q h).elim))
  exact ⟨t', go t' a1, b1⟩
theorem x_samel {H : Heap} {locs : List Loc} {ls : Array Slot} {st0 : List Value} {a : Array Value} {post : Int64 → Prop} (hr : va_Run p l e R s m args below meth c H locs cells slots 0 0 (F0 m pc ls st0) st (vp_Sl post a) (fun _ => False)) (kk : ∀ r : Int64, post r → W p l e R s m args below meth c H locs cells slots Q (F0 m (pc + 3) ls (.long r :: st))) : W p l e R s m args below meth c H locs cells slots Q (F0 m pc ls st0) := by
  intro T hT Y
  obtain ⟨v, st₀, t, T', L, h0, Y', hL, e1, -, ⟨r, ho, hp, hh⟩, go⟩ := hr T hT Y
  cases ho
  obtain ⟨t', a1, b1⟩ := kk r hp T' (by rw [e1, hh, h0]) (Stand.forget Y' (fun q h => (hL q h).elim))
  exact ⟨t', go t' a1, b1⟩
def xCi0 (l : Launch) (D : va_G) (cl : List vw_C) (tys : List (ClassId × FieldType)) (NW : List Cond) (ws : va_W) (y : MethodName) (Ts : List Cond) (d : Nat) (as : List Value) (post : Int32 → Prop) : Prop := Met l y Ts { frames := d, cells := 0, slots := 0, locals := 40 * d } (va_Pc as (fun U => va_P D cl ws U.heap ∧ va_K D cl tys U ∧ (∀ c ∈ NW, isNest c = true ∧ va_Nw c U) ∧ va_D (fun _ => True) ws)) (vp_Si post) 0 0 (fun _ => False)
theorem x_ret0i (G : xG p s m args c cc nL own Ts NW D cl tys A) {post : Int32 → Prop} {v : Int32} {rt : FieldType} (hr : meth.sig.returnType = some rt) (hlk : meth.locks = false) (hn : narrow rt (.int v) = .int v) (d : decode cc pc = .ok (.ireturn, 1)) (hp : post v) : xJ p l e R s m args below meth c 0 0 (MQ below (vp_Si post) args s 0 0 (fun _ => False)) D cl A nL (fun H locs => H = s.heap ∧ locs = []) ws vs pc [.int v] := fun H locs ls hP hD hS hl => W.zret G.1 G.2.1 hr hn (fun t ht hW => ⟨v, rfl, hp, ht.trans hS.1⟩) (fun q hq => by rw [hS.2] at hq; cases hq) d hlk
theorem xCi0.of {y : MethodName} {d : Nat} {as : List Value} {post : Int32 → Prop} {ret : Option FieldType} {Ts' : List Cond} (hT : Ts = Cond.code y cc nL ret :: Ts') (hy : plainName y.cls = true) (vs : List Value) (hvs : asL vs = lv_args 0 as) (hlen : (lg_sl as).length ≤ nL)
    (body : ∀ (p : Program) (e : Env) (s : State) (m : MethodId) (args : Array Value) (below : List Frame) (meth : Method) (c : Code) (A : Nat → Prop), xG p s m args c cc nL y.cls Ts NW D cl tys A → meth.sig.returnType = ret → meth.locks = false → xJ p l e { frames := d, cells := 0, slots := 0, locals := 40 * d } s m args below meth c 0 0 (MQ below (vp_Si post) args s 0 0 (fun _ => False)) D cl A nL (fun H locs => H = s.heap ∧ locs = []) ws vs 0 []) : xCi0 l D cl tys NW ws y Ts d as post := by
  refine Met.ofW (cc := cc) (maxL := nL) (ret := ret) hy hT ?_
  intro p e s m args below meth c s₁ B hml hv
  obtain ⟨rfl, hP, hK, hN, hD0⟩ := hv
  have hD := hD0.self (sz := s.heap.size)
  have hl := lv_entry as (n := nL) hlen
  rw [lg_entry_eq]
  generalize (lg_sl as ++ List.replicate (nL - (lg_sl as).length) Slot.unset).toArray = ls at hl ⊢
  rw [← hvs] at hl
  exact body p e s m _ below meth c (va_A ws s.heap.size) ⟨B.exec, B.bytes, hml, findClass_of_methodNamed B.named, atoms_spec (ws := Ts) B.pre, hK, hN, fun q h => Or.inr h⟩ B.returns B.notSynchronized s.heap [] ls hP hD ⟨rfl, rfl⟩ (xLV.of hl)
def xCl0 (l : Launch) (D : va_G) (cl : List vw_C) (tys : List (ClassId × FieldType)) (NW : List Cond) (ws : va_W) (y : MethodName) (Ts : List Cond) (d : Nat) (as : List Value) (post : Int64 → Prop) : Prop := Met l y Ts { frames := d, cells := 0, slots := 0, locals := 40 * d } (va_Pc as (fun U => va_P D cl ws U.heap ∧ va_K D cl tys U ∧ (∀ c ∈ NW, isNest c = true ∧ va_Nw c U) ∧ va_D (fun _ => True) ws)) (vp_Sl post) 0 0 (fun _ => False)
theorem x_ret0l (G : xG p s m args c cc nL own Ts NW D cl tys A) {post : Int64 → Prop} {v : Int64} (hr : meth.sig.returnType = some .long) (hlk : meth.locks = false) (d : decode cc pc = .ok (.lreturn, 1)) (hp : post v) : xJ p l e R s m args below meth c 0 0 (MQ below (vp_Sl post) args s 0 0 (fun _ => False)) D cl A nL (fun H locs => H = s.heap ∧ locs = []) ws vs pc [.long v] := fun H locs ls hP hD hS hl => W.lret G.1 G.2.1 hr (fun t ht hW => ⟨v, rfl, hp, ht.trans hS.1⟩) (fun q hq => by rw [hS.2] at hq; cases hq) d hlk
theorem xCl0.of {y : MethodName} {d : Nat} {as : List Value} {post : Int64 → Prop} {ret : Option FieldType} {Ts' : List Cond} (hT : Ts = Cond.code y cc nL ret :: Ts') (hy : plainName y.cls = true) (vs : List Value) (hvs : asL vs = lv_args 0 as) (hlen : (lg_sl as).length ≤ nL)
    (body : ∀ (p : Program) (e : Env) (s : State) (m : MethodId) (args : Array Value) (below : List Frame) (meth : Method) (c : Code) (A : Nat → Prop), xG p s m args c cc nL y.cls Ts NW D cl tys A → meth.sig.returnType = ret → meth.locks = false → xJ p l e { frames := d, cells := 0, slots := 0, locals := 40 * d } s m args below meth c 0 0 (MQ below (vp_Sl post) args s 0 0 (fun _ => False)) D cl A nL (fun H locs => H = s.heap ∧ locs = []) ws vs 0 []) : xCl0 l D cl tys NW ws y Ts d as post := by
  refine Met.ofW (cc := cc) (maxL := nL) (ret := ret) hy hT ?_
  intro p e s m args below meth c s₁ B hml hv
  obtain ⟨rfl, hP, hK, hN, hD0⟩ := hv
  have hD := hD0.self (sz := s.heap.size)
  have hl := lv_entry as (n := nL) hlen
  rw [lg_entry_eq]
  generalize (lg_sl as ++ List.replicate (nL - (lg_sl as).length) Slot.unset).toArray = ls at hl ⊢
  rw [← hvs] at hl
  exact body p e s m _ below meth c (va_A ws s.heap.size) ⟨B.exec, B.bytes, hml, findClass_of_methodNamed B.named, atoms_spec (ws := Ts) B.pre, hK, hN, fun q h => Or.inr h⟩ B.returns B.notSynchronized s.heap [] ls hP hD ⟨rfl, rfl⟩ (xLV.of hl)
theorem x_weakS {S' : Heap → List Loc → Prop} (h : ∀ H locs, S H locs → S' H locs) (k : xJ p l e R s m args below meth c cells slots Q D cl A nL (S') (ws) (vs) (pc) (st)) : xJ p l e R s m args below meth c cells slots Q D cl A nL (S) (ws) (vs) (pc) (st) := fun H locs ls hP hD hS hl => k H locs ls hP hD (h H locs hS) hl
theorem x_begin (k : xJ p l e R s m args below meth c cells slots Q D cl A nL (va_S A s.heap) (ws) (vs) (pc) (st)) : xJ p l e R s m args below meth c cells slots Q D cl A nL (fun H locs => H = s.heap ∧ locs = []) (ws) (vs) (pc) (st) := x_weakS (fun H locs h => by rw [h.1, h.2]; exact va_S.rf) k
theorem x_call0V0i (G : xG p s m args c cc nL own Ts NW D cl tys A) {b : Nat} {C : String} {y : MethodName} {bytes : ByteArray} {maxL index d : Nat} {ret : Option FieldType} {Tc : List Cond} {post : Int32 → Prop} (hM : xCi0 l D cl tys NW ws y Tc d [.ref b] post) (q0 : Nat) {fs : List Value} {ci : Nat} {T : u_T} {N : Nat} (he : ws[q0]? = some (b, .inr (ci, fs))) (hc : cl[ci]? = some (C, T, N)) (cw : CallW R s args own C index y bytes maxL ret Tc { frames := d, cells := 0, slots := 0, locals := 40 * d } 0 0 0) (dd : decode cc pc = .ok (.invokevirtual index, 3)) (hroom : (st.map fun v => v.category).sum ≤ 8) (hcs : cells ≤ R.cells ∧ slots ≤ R.slots) (k : ∀ r : Int32, post r → xJ p l e R s m args below meth c cells slots Q D cl A nL (S) (ws) (vs) (pc + 3) (.int r :: st)) : xJ p l e R s m args below meth c cells slots Q D cl A nL (S) (ws) (vs) (pc) (.ref b :: st) := fun H locs ls hP hD hS hl => x_samei (va_runV (As := []) (rest := st) ⟨G.1, G.2.1, G.2.2.1, G.2.2.2.1, G.2.2.2.2.1⟩ hM cw ⟨fun a U g mk q => by obtain ⟨q0, qP, qK, qN, qD⟩ := q; exact ⟨q0, qP, va_K.moved (u := U) (U := U.calling g mk a) (Vm.Alike.refl U.vm) qK, fun c hc => ⟨(qN c hc).1, nest_same (s := U) (U := U.calling g mk a) (qN c hc).1 rfl (qN c hc).2⟩, qD⟩, va_recv G.2.2.2.2.2.1 hP hc he, fun U hU hW => ⟨rfl, by rw [hU]; exact hP, va_K.moved hW.alike G.2.2.2.2.2.1, fun c hc => ⟨(G.2.2.2.2.2.2.1 c hc).1, nest_warm (G.2.2.2.2.2.2.1 c hc).1 hW (G.2.2.2.2.2.2.1 c hc).2⟩, hD.weaken (fun _ _ _ _ => trivial)⟩⟩ rfl rfl hl.1 rfl (lv_room hroom) dd ⟨hcs.1, hcs.2⟩) (fun r hr => k r hr H locs ls hP hD hS hl)
theorem x_call0V0l (G : xG p s m args c cc nL own Ts NW D cl tys A) {b : Nat} {C : String} {y : MethodName} {bytes : ByteArray} {maxL index d : Nat} {ret : Option FieldType} {Tc : List Cond} {post : Int64 → Prop} (hM : xCl0 l D cl tys NW ws y Tc d [.ref b] post) (q0 : Nat) {fs : List Value} {ci : Nat} {T : u_T} {N : Nat} (he : ws[q0]? = some (b, .inr (ci, fs))) (hc : cl[ci]? = some (C, T, N)) (cw : CallW R s args own C index y bytes maxL ret Tc { frames := d, cells := 0, slots := 0, locals := 40 * d } 0 0 0) (dd : decode cc pc = .ok (.invokevirtual index, 3)) (hroom : (st.map fun v => v.category).sum ≤ 8) (hcs : cells ≤ R.cells ∧ slots ≤ R.slots) (k : ∀ r : Int64, post r → xJ p l e R s m args below meth c cells slots Q D cl A nL (S) (ws) (vs) (pc + 3) (.long r :: st)) : xJ p l e R s m args below meth c cells slots Q D cl A nL (S) (ws) (vs) (pc) (.ref b :: st) := fun H locs ls hP hD hS hl => x_samel (va_runV (As := []) (rest := st) ⟨G.1, G.2.1, G.2.2.1, G.2.2.2.1, G.2.2.2.2.1⟩ hM cw ⟨fun a U g mk q => by obtain ⟨q0, qP, qK, qN, qD⟩ := q; exact ⟨q0, qP, va_K.moved (u := U) (U := U.calling g mk a) (Vm.Alike.refl U.vm) qK, fun c hc => ⟨(qN c hc).1, nest_same (s := U) (U := U.calling g mk a) (qN c hc).1 rfl (qN c hc).2⟩, qD⟩, va_recv G.2.2.2.2.2.1 hP hc he, fun U hU hW => ⟨rfl, by rw [hU]; exact hP, va_K.moved hW.alike G.2.2.2.2.2.1, fun c hc => ⟨(G.2.2.2.2.2.2.1 c hc).1, nest_warm (G.2.2.2.2.2.2.1 c hc).1 hW (G.2.2.2.2.2.2.1 c hc).2⟩, hD.weaken (fun _ _ _ _ => trivial)⟩⟩ rfl rfl hl.1 rfl (lv_room hroom) dd ⟨hcs.1, hcs.2⟩) (fun r hr => k r hr H locs ls hP hD hS hl)
theorem x_call0VN0i (G : xG p s m args c cc nL own Ts NW D cl tys A) {b : Nat} {C : String} {host : String} {y : MethodName} {bytes : ByteArray} {maxL index d : Nat} {ret : Option FieldType} {Tc : List Cond} {post : Int32 → Prop} (hM : xCi0 l D cl tys NW ws y Tc d [.ref b] post) (q0 : Nat) {fs : List Value} {ci : Nat} {T : u_T} {N : Nat} (he : ws[q0]? = some (b, .inr (ci, fs))) (hc : cl[ci]? = some (C, T, N)) (cw : (va_CN R s args own index y host bytes maxL ret Tc { frames := d, cells := 0, slots := 0, locals := 40 * d } 0 0 0 ∧ (Cond.instanceMethod y).before args s = true ∧ (Cond.selects C y y).before args s = true)) (dd : decode cc pc = .ok (.invokevirtual index, 3)) (hroom : (st.map fun v => v.category).sum ≤ 8) (hcs : cells ≤ R.cells ∧ slots ≤ R.slots) (k : ∀ r : Int32, post r → xJ p l e R s m args below meth c cells slots Q D cl A nL (S) (ws) (vs) (pc + 3) (.int r :: st)) : xJ p l e R s m args below meth c cells slots Q D cl A nL (S) (ws) (vs) (pc) (.ref b :: st) := fun H locs ls hP hD hS hl => x_samei (va_runVN (As := []) (rest := st) ⟨G.1, G.2.1, G.2.2.1, G.2.2.2.1, G.2.2.2.2.1⟩ hM cw ⟨fun a U g mk q => by obtain ⟨q0, qP, qK, qN, qD⟩ := q; exact ⟨q0, qP, va_K.moved (u := U) (U := U.calling g mk a) (Vm.Alike.refl U.vm) qK, fun c hc => ⟨(qN c hc).1, nest_same (s := U) (U := U.calling g mk a) (qN c hc).1 rfl (qN c hc).2⟩, qD⟩, va_recv G.2.2.2.2.2.1 hP hc he, fun U hU hW => ⟨rfl, by rw [hU]; exact hP, va_K.moved hW.alike G.2.2.2.2.2.1, fun c hc => ⟨(G.2.2.2.2.2.2.1 c hc).1, nest_warm (G.2.2.2.2.2.2.1 c hc).1 hW (G.2.2.2.2.2.2.1 c hc).2⟩, hD.weaken (fun _ _ _ _ => trivial)⟩⟩ rfl rfl hl.1 rfl (lv_room hroom) dd ⟨hcs.1, hcs.2⟩) (fun r hr => k r hr H locs ls hP hD hS hl)
theorem x_call0VN0l (G : xG p s m args c cc nL own Ts NW D cl tys A) {b : Nat} {C : String} {host : String} {y : MethodName} {bytes : ByteArray} {maxL index d : Nat} {ret : Option FieldType} {Tc : List Cond} {post : Int64 → Prop} (hM : xCl0 l D cl tys NW ws y Tc d [.ref b] post) (q0 : Nat) {fs : List Value} {ci : Nat} {T : u_T} {N : Nat} (he : ws[q0]? = some (b, .inr (ci, fs))) (hc : cl[ci]? = some (C, T, N)) (cw : (va_CN R s args own index y host bytes maxL ret Tc { frames := d, cells := 0, slots := 0, locals := 40 * d } 0 0 0 ∧ (Cond.instanceMethod y).before args s = true ∧ (Cond.selects C y y).before args s = true)) (dd : decode cc pc = .ok (.invokevirtual index, 3)) (hroom : (st.map fun v => v.category).sum ≤ 8) (hcs : cells ≤ R.cells ∧ slots ≤ R.slots) (k : ∀ r : Int64, post r → xJ p l e R s m args below meth c cells slots Q D cl A nL (S) (ws) (vs) (pc + 3) (.long r :: st)) : xJ p l e R s m args below meth c cells slots Q D cl A nL (S) (ws) (vs) (pc) (.ref b :: st) := fun H locs ls hP hD hS hl => x_samel (va_runVN (As := []) (rest := st) ⟨G.1, G.2.1, G.2.2.1, G.2.2.2.1, G.2.2.2.2.1⟩ hM cw ⟨fun a U g mk q => by obtain ⟨q0, qP, qK, qN, qD⟩ := q; exact ⟨q0, qP, va_K.moved (u := U) (U := U.calling g mk a) (Vm.Alike.refl U.vm) qK, fun c hc => ⟨(qN c hc).1, nest_same (s := U) (U := U.calling g mk a) (qN c hc).1 rfl (qN c hc).2⟩, qD⟩, va_recv G.2.2.2.2.2.1 hP hc he, fun U hU hW => ⟨rfl, by rw [hU]; exact hP, va_K.moved hW.alike G.2.2.2.2.2.1, fun c hc => ⟨(G.2.2.2.2.2.2.1 c hc).1, nest_warm (G.2.2.2.2.2.2.1 c hc).1 hW (G.2.2.2.2.2.2.1 c hc).2⟩, hD.weaken (fun _ _ _ _ => trivial)⟩⟩ rfl rfl hl.1 rfl (lv_room hroom) dd ⟨hcs.1, hcs.2⟩) (fun r hr => k r hr H locs ls hP hD hS hl)
theorem x_call0S0i (G : xG p s m args c cc nL own Ts NW D cl tys A) {y : MethodName} {bytes : ByteArray} {maxL index d : Nat} {ret : Option FieldType} {Tc : List Cond} {post : Int32 → Prop} (hM : xCi0 l D cl tys NW ws y Tc d [] post) (cw : (CallB R s args own index y bytes maxL ret Tc { frames := d, cells := 0, slots := 0, locals := 40 * d } 0 0 0 ∧ (Cond.static y).before args s = true)) (dd : decode cc pc = .ok (.invokestatic index, 3)) (hroom : (st.map fun v => v.category).sum ≤ 8) (hcs : cells ≤ R.cells ∧ slots ≤ R.slots) (k : ∀ r : Int32, post r → xJ p l e R s m args below meth c cells slots Q D cl A nL (S) (ws) (vs) (pc + 3) (.int r :: st)) : xJ p l e R s m args below meth c cells slots Q D cl A nL (S) (ws) (vs) (pc) (st) := fun H locs ls hP hD hS hl => x_samei (va_runS (As := []) (rest := st) ⟨G.1, G.2.1, G.2.2.1, G.2.2.2.1, G.2.2.2.2.1⟩ hM cw ⟨fun a U g mk q => by obtain ⟨q0, qP, qK, qN, qD⟩ := q; exact ⟨q0, qP, va_K.moved (u := U) (U := U.calling g mk a) (Vm.Alike.refl U.vm) qK, fun c hc => ⟨(qN c hc).1, nest_same (s := U) (U := U.calling g mk a) (qN c hc).1 rfl (qN c hc).2⟩, qD⟩, fun U hU hW => ⟨rfl, by rw [hU]; exact hP, va_K.moved hW.alike G.2.2.2.2.2.1, fun c hc => ⟨(G.2.2.2.2.2.2.1 c hc).1, nest_warm (G.2.2.2.2.2.2.1 c hc).1 hW (G.2.2.2.2.2.2.1 c hc).2⟩, hD.weaken (fun _ _ _ _ => trivial)⟩⟩ rfl rfl hl.1 rfl (lv_room hroom) dd ⟨hcs.1, hcs.2⟩) (fun r hr => k r hr H locs ls hP hD hS hl)
theorem x_call0S0l (G : xG p s m args c cc nL own Ts NW D cl tys A) {y : MethodName} {bytes : ByteArray} {maxL index d : Nat} {ret : Option FieldType} {Tc : List Cond} {post : Int64 → Prop} (hM : xCl0 l D cl tys NW ws y Tc d [] post) (cw : (CallB R s args own index y bytes maxL ret Tc { frames := d, cells := 0, slots := 0, locals := 40 * d } 0 0 0 ∧ (Cond.static y).before args s = true)) (dd : decode cc pc = .ok (.invokestatic index, 3)) (hroom : (st.map fun v => v.category).sum ≤ 8) (hcs : cells ≤ R.cells ∧ slots ≤ R.slots) (k : ∀ r : Int64, post r → xJ p l e R s m args below meth c cells slots Q D cl A nL (S) (ws) (vs) (pc + 3) (.long r :: st)) : xJ p l e R s m args below meth c cells slots Q D cl A nL (S) (ws) (vs) (pc) (st) := fun H locs ls hP hD hS hl => x_samel (va_runS (As := []) (rest := st) ⟨G.1, G.2.1, G.2.2.1, G.2.2.2.1, G.2.2.2.2.1⟩ hM cw ⟨fun a U g mk q => by obtain ⟨q0, qP, qK, qN, qD⟩ := q; exact ⟨q0, qP, va_K.moved (u := U) (U := U.calling g mk a) (Vm.Alike.refl U.vm) qK, fun c hc => ⟨(qN c hc).1, nest_same (s := U) (U := U.calling g mk a) (qN c hc).1 rfl (qN c hc).2⟩, qD⟩, fun U hU hW => ⟨rfl, by rw [hU]; exact hP, va_K.moved hW.alike G.2.2.2.2.2.1, fun c hc => ⟨(G.2.2.2.2.2.2.1 c hc).1, nest_warm (G.2.2.2.2.2.2.1 c hc).1 hW (G.2.2.2.2.2.2.1 c hc).2⟩, hD.weaken (fun _ _ _ _ => trivial)⟩⟩ rfl rfl hl.1 rfl (lv_room hroom) dd ⟨hcs.1, hcs.2⟩) (fun r hr => k r hr H locs ls hP hD hS hl)
theorem x_call0SN0i (G : xG p s m args c cc nL own Ts NW D cl tys A) {host : String} {y : MethodName} {bytes : ByteArray} {maxL index d : Nat} {ret : Option FieldType} {Tc : List Cond} {post : Int32 → Prop} (hM : xCi0 l D cl tys NW ws y Tc d [] post) (cw : (va_CN R s args own index y host bytes maxL ret Tc { frames := d, cells := 0, slots := 0, locals := 40 * d } 0 0 0 ∧ (Cond.static y).before args s = true ∧ True)) (dd : decode cc pc = .ok (.invokestatic index, 3)) (hroom : (st.map fun v => v.category).sum ≤ 8) (hcs : cells ≤ R.cells ∧ slots ≤ R.slots) (k : ∀ r : Int32, post r → xJ p l e R s m args below meth c cells slots Q D cl A nL (S) (ws) (vs) (pc + 3) (.int r :: st)) : xJ p l e R s m args below meth c cells slots Q D cl A nL (S) (ws) (vs) (pc) (st) := fun H locs ls hP hD hS hl => x_samei (va_runSN (As := []) (rest := st) ⟨G.1, G.2.1, G.2.2.1, G.2.2.2.1, G.2.2.2.2.1⟩ hM cw ⟨fun a U g mk q => by obtain ⟨q0, qP, qK, qN, qD⟩ := q; exact ⟨q0, qP, va_K.moved (u := U) (U := U.calling g mk a) (Vm.Alike.refl U.vm) qK, fun c hc => ⟨(qN c hc).1, nest_same (s := U) (U := U.calling g mk a) (qN c hc).1 rfl (qN c hc).2⟩, qD⟩, fun U hU hW => ⟨rfl, by rw [hU]; exact hP, va_K.moved hW.alike G.2.2.2.2.2.1, fun c hc => ⟨(G.2.2.2.2.2.2.1 c hc).1, nest_warm (G.2.2.2.2.2.2.1 c hc).1 hW (G.2.2.2.2.2.2.1 c hc).2⟩, hD.weaken (fun _ _ _ _ => trivial)⟩⟩ rfl rfl hl.1 rfl (lv_room hroom) dd ⟨hcs.1, hcs.2⟩) (fun r hr => k r hr H locs ls hP hD hS hl)
theorem x_call0SN0l (G : xG p s m args c cc nL own Ts NW D cl tys A) {host : String} {y : MethodName} {bytes : ByteArray} {maxL index d : Nat} {ret : Option FieldType} {Tc : List Cond} {post : Int64 → Prop} (hM : xCl0 l D cl tys NW ws y Tc d [] post) (cw : (va_CN R s args own index y host bytes maxL ret Tc { frames := d, cells := 0, slots := 0, locals := 40 * d } 0 0 0 ∧ (Cond.static y).before args s = true ∧ True)) (dd : decode cc pc = .ok (.invokestatic index, 3)) (hroom : (st.map fun v => v.category).sum ≤ 8) (hcs : cells ≤ R.cells ∧ slots ≤ R.slots) (k : ∀ r : Int64, post r → xJ p l e R s m args below meth c cells slots Q D cl A nL (S) (ws) (vs) (pc + 3) (.long r :: st)) : xJ p l e R s m args below meth c cells slots Q D cl A nL (S) (ws) (vs) (pc) (st) := fun H locs ls hP hD hS hl => x_samel (va_runSN (As := []) (rest := st) ⟨G.1, G.2.1, G.2.2.1, G.2.2.2.1, G.2.2.2.2.1⟩ hM cw ⟨fun a U g mk q => by obtain ⟨q0, qP, qK, qN, qD⟩ := q; exact ⟨q0, qP, va_K.moved (u := U) (U := U.calling g mk a) (Vm.Alike.refl U.vm) qK, fun c hc => ⟨(qN c hc).1, nest_same (s := U) (U := U.calling g mk a) (qN c hc).1 rfl (qN c hc).2⟩, qD⟩, fun U hU hW => ⟨rfl, by rw [hU]; exact hP, va_K.moved hW.alike G.2.2.2.2.2.1, fun c hc => ⟨(G.2.2.2.2.2.2.1 c hc).1, nest_warm (G.2.2.2.2.2.2.1 c hc).1 hW (G.2.2.2.2.2.2.1 c hc).2⟩, hD.weaken (fun _ _ _ _ => trivial)⟩⟩ rfl rfl hl.1 rfl (lv_room hroom) dd ⟨hcs.1, hcs.2⟩) (fun r hr => k r hr H locs ls hP hD hS hl)
theorem x_call0V1i (G : xG p s m args c cc nL own Ts NW D cl tys A) {b : Nat} {C : String} {y : MethodName} {bytes : ByteArray} {maxL index d : Nat} {ret : Option FieldType} {Tc : List Cond} {a1 : Value} {post : Int32 → Prop} (hM : xCi0 l D cl tys NW ws y Tc d [.ref b, a1] post) (q0 : Nat) {fs : List Value} {ci : Nat} {T : u_T} {N : Nat} (he : ws[q0]? = some (b, .inr (ci, fs))) (hc : cl[ci]? = some (C, T, N)) (cw : CallW R s args own C index y bytes maxL ret Tc { frames := d, cells := 0, slots := 0, locals := 40 * d } 0 0 1) (dd : decode cc pc = .ok (.invokevirtual index, 3)) (hroom : (st.map fun v => v.category).sum ≤ 8) (hcs : cells ≤ R.cells ∧ slots ≤ R.slots) (k : ∀ r : Int32, post r → xJ p l e R s m args below meth c cells slots Q D cl A nL (S) (ws) (vs) (pc + 3) (.int r :: st)) : xJ p l e R s m args below meth c cells slots Q D cl A nL (S) (ws) (vs) (pc) (a1 :: .ref b :: st) := fun H locs ls hP hD hS hl => x_samei (va_runV (As := [a1]) (rest := st) ⟨G.1, G.2.1, G.2.2.1, G.2.2.2.1, G.2.2.2.2.1⟩ hM cw ⟨fun a U g mk q => by obtain ⟨q0, qP, qK, qN, qD⟩ := q; exact ⟨q0, qP, va_K.moved (u := U) (U := U.calling g mk a) (Vm.Alike.refl U.vm) qK, fun c hc => ⟨(qN c hc).1, nest_same (s := U) (U := U.calling g mk a) (qN c hc).1 rfl (qN c hc).2⟩, qD⟩, va_recv G.2.2.2.2.2.1 hP hc he, fun U hU hW => ⟨rfl, by rw [hU]; exact hP, va_K.moved hW.alike G.2.2.2.2.2.1, fun c hc => ⟨(G.2.2.2.2.2.2.1 c hc).1, nest_warm (G.2.2.2.2.2.2.1 c hc).1 hW (G.2.2.2.2.2.2.1 c hc).2⟩, hD.weaken (fun _ _ _ _ => trivial)⟩⟩ rfl rfl hl.1 rfl (lv_room hroom) dd ⟨hcs.1, hcs.2⟩) (fun r hr => k r hr H locs ls hP hD hS hl)
theorem x_call0V1l (G : xG p s m args c cc nL own Ts NW D cl tys A) {b : Nat} {C : String} {y : MethodName} {bytes : ByteArray} {maxL index d : Nat} {ret : Option FieldType} {Tc : List Cond} {a1 : Value} {post : Int64 → Prop} (hM : xCl0 l D cl tys NW ws y Tc d [.ref b, a1] post) (q0 : Nat) {fs : List Value} {ci : Nat} {T : u_T} {N : Nat} (he : ws[q0]? = some (b, .inr (ci, fs))) (hc : cl[ci]? = some (C, T, N)) (cw : CallW R s args own C index y bytes maxL ret Tc { frames := d, cells := 0, slots := 0, locals := 40 * d } 0 0 1) (dd : decode cc pc = .ok (.invokevirtual index, 3)) (hroom : (st.map fun v => v.category).sum ≤ 8) (hcs : cells ≤ R.cells ∧ slots ≤ R.slots) (k : ∀ r : Int64, post r → xJ p l e R s m args below meth c cells slots Q D cl A nL (S) (ws) (vs) (pc + 3) (.long r :: st)) : xJ p l e R s m args below meth c cells slots Q D cl A nL (S) (ws) (vs) (pc) (a1 :: .ref b :: st) := fun H locs ls hP hD hS hl => x_samel (va_runV (As := [a1]) (rest := st) ⟨G.1, G.2.1, G.2.2.1, G.2.2.2.1, G.2.2.2.2.1⟩ hM cw ⟨fun a U g mk q => by obtain ⟨q0, qP, qK, qN, qD⟩ := q; exact ⟨q0, qP, va_K.moved (u := U) (U := U.calling g mk a) (Vm.Alike.refl U.vm) qK, fun c hc => ⟨(qN c hc).1, nest_same (s := U) (U := U.calling g mk a) (qN c hc).1 rfl (qN c hc).2⟩, qD⟩, va_recv G.2.2.2.2.2.1 hP hc he, fun U hU hW => ⟨rfl, by rw [hU]; exact hP, va_K.moved hW.alike G.2.2.2.2.2.1, fun c hc => ⟨(G.2.2.2.2.2.2.1 c hc).1, nest_warm (G.2.2.2.2.2.2.1 c hc).1 hW (G.2.2.2.2.2.2.1 c hc).2⟩, hD.weaken (fun _ _ _ _ => trivial)⟩⟩ rfl rfl hl.1 rfl (lv_room hroom) dd ⟨hcs.1, hcs.2⟩) (fun r hr => k r hr H locs ls hP hD hS hl)
theorem x_call0VN1i (G : xG p s m args c cc nL own Ts NW D cl tys A) {b : Nat} {C : String} {host : String} {y : MethodName} {bytes : ByteArray} {maxL index d : Nat} {ret : Option FieldType} {Tc : List Cond} {a1 : Value} {post : Int32 → Prop} (hM : xCi0 l D cl tys NW ws y Tc d [.ref b, a1] post) (q0 : Nat) {fs : List Value} {ci : Nat} {T : u_T} {N : Nat} (he : ws[q0]? = some (b, .inr (ci, fs))) (hc : cl[ci]? = some (C, T, N)) (cw : (va_CN R s args own index y host bytes maxL ret Tc { frames := d, cells := 0, slots := 0, locals := 40 * d } 0 0 1 ∧ (Cond.instanceMethod y).before args s = true ∧ (Cond.selects C y y).before args s = true)) (dd : decode cc pc = .ok (.invokevirtual index, 3)) (hroom : (st.map fun v => v.category).sum ≤ 8) (hcs : cells ≤ R.cells ∧ slots ≤ R.slots) (k : ∀ r : Int32, post r → xJ p l e R s m args below meth c cells slots Q D cl A nL (S) (ws) (vs) (pc + 3) (.int r :: st)) : xJ p l e R s m args below meth c cells slots Q D cl A nL (S) (ws) (vs) (pc) (a1 :: .ref b :: st) := fun H locs ls hP hD hS hl => x_samei (va_runVN (As := [a1]) (rest := st) ⟨G.1, G.2.1, G.2.2.1, G.2.2.2.1, G.2.2.2.2.1⟩ hM cw ⟨fun a U g mk q => by obtain ⟨q0, qP, qK, qN, qD⟩ := q; exact ⟨q0, qP, va_K.moved (u := U) (U := U.calling g mk a) (Vm.Alike.refl U.vm) qK, fun c hc => ⟨(qN c hc).1, nest_same (s := U) (U := U.calling g mk a) (qN c hc).1 rfl (qN c hc).2⟩, qD⟩, va_recv G.2.2.2.2.2.1 hP hc he, fun U hU hW => ⟨rfl, by rw [hU]; exact hP, va_K.moved hW.alike G.2.2.2.2.2.1, fun c hc => ⟨(G.2.2.2.2.2.2.1 c hc).1, nest_warm (G.2.2.2.2.2.2.1 c hc).1 hW (G.2.2.2.2.2.2.1 c hc).2⟩, hD.weaken (fun _ _ _ _ => trivial)⟩⟩ rfl rfl hl.1 rfl (lv_room hroom) dd ⟨hcs.1, hcs.2⟩) (fun r hr => k r hr H locs ls hP hD hS hl)
theorem x_call0VN1l (G : xG p s m args c cc nL own Ts NW D cl tys A) {b : Nat} {C : String} {host : String} {y : MethodName} {bytes : ByteArray} {maxL index d : Nat} {ret : Option FieldType} {Tc : List Cond} {a1 : Value} {post : Int64 → Prop} (hM : xCl0 l D cl tys NW ws y Tc d [.ref b, a1] post) (q0 : Nat) {fs : List Value} {ci : Nat} {T : u_T} {N : Nat} (he : ws[q0]? = some (b, .inr (ci, fs))) (hc : cl[ci]? = some (C, T, N)) (cw : (va_CN R s args own index y host bytes maxL ret Tc { frames := d, cells := 0, slots := 0, locals := 40 * d } 0 0 1 ∧ (Cond.instanceMethod y).before args s = true ∧ (Cond.selects C y y).before args s = true)) (dd : decode cc pc = .ok (.invokevirtual index, 3)) (hroom : (st.map fun v => v.category).sum ≤ 8) (hcs : cells ≤ R.cells ∧ slots ≤ R.slots) (k : ∀ r : Int64, post r → xJ p l e R s m args below meth c cells slots Q D cl A nL (S) (ws) (vs) (pc + 3) (.long r :: st)) : xJ p l e R s m args below meth c cells slots Q D cl A nL (S) (ws) (vs) (pc) (a1 :: .ref b :: st) := fun H locs ls hP hD hS hl => x_samel (va_runVN (As := [a1]) (rest := st) ⟨G.1, G.2.1, G.2.2.1, G.2.2.2.1, G.2.2.2.2.1⟩ hM cw ⟨fun a U g mk q => by obtain ⟨q0, qP, qK, qN, qD⟩ := q; exact ⟨q0, qP, va_K.moved (u := U) (U := U.calling g mk a) (Vm.Alike.refl U.vm) qK, fun c hc => ⟨(qN c hc).1, nest_same (s := U) (U := U.calling g mk a) (qN c hc).1 rfl (qN c hc).2⟩, qD⟩, va_recv G.2.2.2.2.2.1 hP hc he, fun U hU hW => ⟨rfl, by rw [hU]; exact hP, va_K.moved hW.alike G.2.2.2.2.2.1, fun c hc => ⟨(G.2.2.2.2.2.2.1 c hc).1, nest_warm (G.2.2.2.2.2.2.1 c hc).1 hW (G.2.2.2.2.2.2.1 c hc).2⟩, hD.weaken (fun _ _ _ _ => trivial)⟩⟩ rfl rfl hl.1 rfl (lv_room hroom) dd ⟨hcs.1, hcs.2⟩) (fun r hr => k r hr H locs ls hP hD hS hl)
theorem x_call0S1i (G : xG p s m args c cc nL own Ts NW D cl tys A) {y : MethodName} {bytes : ByteArray} {maxL index d : Nat} {ret : Option FieldType} {Tc : List Cond} {a1 : Value} {post : Int32 → Prop} (hM : xCi0 l D cl tys NW ws y Tc d [a1] post) (cw : (CallB R s args own index y bytes maxL ret Tc { frames := d, cells := 0, slots := 0, locals := 40 * d } 0 0 1 ∧ (Cond.static y).before args s = true)) (dd : decode cc pc = .ok (.invokestatic index, 3)) (hroom : (st.map fun v => v.category).sum ≤ 8) (hcs : cells ≤ R.cells ∧ slots ≤ R.slots) (k : ∀ r : Int32, post r → xJ p l e R s m args below meth c cells slots Q D cl A nL (S) (ws) (vs) (pc + 3) (.int r :: st)) : xJ p l e R s m args below meth c cells slots Q D cl A nL (S) (ws) (vs) (pc) (a1 :: st) := fun H locs ls hP hD hS hl => x_samei (va_runS (As := [a1]) (rest := st) ⟨G.1, G.2.1, G.2.2.1, G.2.2.2.1, G.2.2.2.2.1⟩ hM cw ⟨fun a U g mk q => by obtain ⟨q0, qP, qK, qN, qD⟩ := q; exact ⟨q0, qP, va_K.moved (u := U) (U := U.calling g mk a) (Vm.Alike.refl U.vm) qK, fun c hc => ⟨(qN c hc).1, nest_same (s := U) (U := U.calling g mk a) (qN c hc).1 rfl (qN c hc).2⟩, qD⟩, fun U hU hW => ⟨rfl, by rw [hU]; exact hP, va_K.moved hW.alike G.2.2.2.2.2.1, fun c hc => ⟨(G.2.2.2.2.2.2.1 c hc).1, nest_warm (G.2.2.2.2.2.2.1 c hc).1 hW (G.2.2.2.2.2.2.1 c hc).2⟩, hD.weaken (fun _ _ _ _ => trivial)⟩⟩ rfl rfl hl.1 rfl (lv_room hroom) dd ⟨hcs.1, hcs.2⟩) (fun r hr => k r hr H locs ls hP hD hS hl)
theorem x_call0S1l (G : xG p s m args c cc nL own Ts NW D cl tys A) {y : MethodName} {bytes : ByteArray} {maxL index d : Nat} {ret : Option FieldType} {Tc : List Cond} {a1 : Value} {post : Int64 → Prop} (hM : xCl0 l D cl tys NW ws y Tc d [a1] post) (cw : (CallB R s args own index y bytes maxL ret Tc { frames := d, cells := 0, slots := 0, locals := 40 * d } 0 0 1 ∧ (Cond.static y).before args s = true)) (dd : decode cc pc = .ok (.invokestatic index, 3)) (hroom : (st.map fun v => v.category).sum ≤ 8) (hcs : cells ≤ R.cells ∧ slots ≤ R.slots) (k : ∀ r : Int64, post r → xJ p l e R s m args below meth c cells slots Q D cl A nL (S) (ws) (vs) (pc + 3) (.long r :: st)) : xJ p l e R s m args below meth c cells slots Q D cl A nL (S) (ws) (vs) (pc) (a1 :: st) := fun H locs ls hP hD hS hl => x_samel (va_runS (As := [a1]) (rest := st) ⟨G.1, G.2.1, G.2.2.1, G.2.2.2.1, G.2.2.2.2.1⟩ hM cw ⟨fun a U g mk q => by obtain ⟨q0, qP, qK, qN, qD⟩ := q; exact ⟨q0, qP, va_K.moved (u := U) (U := U.calling g mk a) (Vm.Alike.refl U.vm) qK, fun c hc => ⟨(qN c hc).1, nest_same (s := U) (U := U.calling g mk a) (qN c hc).1 rfl (qN c hc).2⟩, qD⟩, fun U hU hW => ⟨rfl, by rw [hU]; exact hP, va_K.moved hW.alike G.2.2.2.2.2.1, fun c hc => ⟨(G.2.2.2.2.2.2.1 c hc).1, nest_warm (G.2.2.2.2.2.2.1 c hc).1 hW (G.2.2.2.2.2.2.1 c hc).2⟩, hD.weaken (fun _ _ _ _ => trivial)⟩⟩ rfl rfl hl.1 rfl (lv_room hroom) dd ⟨hcs.1, hcs.2⟩) (fun r hr => k r hr H locs ls hP hD hS hl)
theorem x_call0SN1i (G : xG p s m args c cc nL own Ts NW D cl tys A) {host : String} {y : MethodName} {bytes : ByteArray} {maxL index d : Nat} {ret : Option FieldType} {Tc : List Cond} {a1 : Value} {post : Int32 → Prop} (hM : xCi0 l D cl tys NW ws y Tc d [a1] post) (cw : (va_CN R s args own index y host bytes maxL ret Tc { frames := d, cells := 0, slots := 0, locals := 40 * d } 0 0 1 ∧ (Cond.static y).before args s = true ∧ True)) (dd : decode cc pc = .ok (.invokestatic index, 3)) (hroom : (st.map fun v => v.category).sum ≤ 8) (hcs : cells ≤ R.cells ∧ slots ≤ R.slots) (k : ∀ r : Int32, post r → xJ p l e R s m args below meth c cells slots Q D cl A nL (S) (ws) (vs) (pc + 3) (.int r :: st)) : xJ p l e R s m args below meth c cells slots Q D cl A nL (S) (ws) (vs) (pc) (a1 :: st) := fun H locs ls hP hD hS hl => x_samei (va_runSN (As := [a1]) (rest := st) ⟨G.1, G.2.1, G.2.2.1, G.2.2.2.1, G.2.2.2.2.1⟩ hM cw ⟨fun a U g mk q => by obtain ⟨q0, qP, qK, qN, qD⟩ := q; exact ⟨q0, qP, va_K.moved (u := U) (U := U.calling g mk a) (Vm.Alike.refl U.vm) qK, fun c hc => ⟨(qN c hc).1, nest_same (s := U) (U := U.calling g mk a) (qN c hc).1 rfl (qN c hc).2⟩, qD⟩, fun U hU hW => ⟨rfl, by rw [hU]; exact hP, va_K.moved hW.alike G.2.2.2.2.2.1, fun c hc => ⟨(G.2.2.2.2.2.2.1 c hc).1, nest_warm (G.2.2.2.2.2.2.1 c hc).1 hW (G.2.2.2.2.2.2.1 c hc).2⟩, hD.weaken (fun _ _ _ _ => trivial)⟩⟩ rfl rfl hl.1 rfl (lv_room hroom) dd ⟨hcs.1, hcs.2⟩) (fun r hr => k r hr H locs ls hP hD hS hl)
theorem x_call0SN1l (G : xG p s m args c cc nL own Ts NW D cl tys A) {host : String} {y : MethodName} {bytes : ByteArray} {maxL index d : Nat} {ret : Option FieldType} {Tc : List Cond} {a1 : Value} {post : Int64 → Prop} (hM : xCl0 l D cl tys NW ws y Tc d [a1] post) (cw : (va_CN R s args own index y host bytes maxL ret Tc { frames := d, cells := 0, slots := 0, locals := 40 * d } 0 0 1 ∧ (Cond.static y).before args s = true ∧ True)) (dd : decode cc pc = .ok (.invokestatic index, 3)) (hroom : (st.map fun v => v.category).sum ≤ 8) (hcs : cells ≤ R.cells ∧ slots ≤ R.slots) (k : ∀ r : Int64, post r → xJ p l e R s m args below meth c cells slots Q D cl A nL (S) (ws) (vs) (pc + 3) (.long r :: st)) : xJ p l e R s m args below meth c cells slots Q D cl A nL (S) (ws) (vs) (pc) (a1 :: st) := fun H locs ls hP hD hS hl => x_samel (va_runSN (As := [a1]) (rest := st) ⟨G.1, G.2.1, G.2.2.1, G.2.2.2.1, G.2.2.2.2.1⟩ hM cw ⟨fun a U g mk q => by obtain ⟨q0, qP, qK, qN, qD⟩ := q; exact ⟨q0, qP, va_K.moved (u := U) (U := U.calling g mk a) (Vm.Alike.refl U.vm) qK, fun c hc => ⟨(qN c hc).1, nest_same (s := U) (U := U.calling g mk a) (qN c hc).1 rfl (qN c hc).2⟩, qD⟩, fun U hU hW => ⟨rfl, by rw [hU]; exact hP, va_K.moved hW.alike G.2.2.2.2.2.1, fun c hc => ⟨(G.2.2.2.2.2.2.1 c hc).1, nest_warm (G.2.2.2.2.2.2.1 c hc).1 hW (G.2.2.2.2.2.2.1 c hc).2⟩, hD.weaken (fun _ _ _ _ => trivial)⟩⟩ rfl rfl hl.1 rfl (lv_room hroom) dd ⟨hcs.1, hcs.2⟩) (fun r hr => k r hr H locs ls hP hD hS hl)
theorem x_call0V2i (G : xG p s m args c cc nL own Ts NW D cl tys A) {b : Nat} {C : String} {y : MethodName} {bytes : ByteArray} {maxL index d : Nat} {ret : Option FieldType} {Tc : List Cond} {a1 a2 : Value} {post : Int32 → Prop} (hM : xCi0 l D cl tys NW ws y Tc d [.ref b, a1, a2] post) (q0 : Nat) {fs : List Value} {ci : Nat} {T : u_T} {N : Nat} (he : ws[q0]? = some (b, .inr (ci, fs))) (hc : cl[ci]? = some (C, T, N)) (cw : CallW R s args own C index y bytes maxL ret Tc { frames := d, cells := 0, slots := 0, locals := 40 * d } 0 0 2) (dd : decode cc pc = .ok (.invokevirtual index, 3)) (hroom : (st.map fun v => v.category).sum ≤ 8) (hcs : cells ≤ R.cells ∧ slots ≤ R.slots) (k : ∀ r : Int32, post r → xJ p l e R s m args below meth c cells slots Q D cl A nL (S) (ws) (vs) (pc + 3) (.int r :: st)) : xJ p l e R s m args below meth c cells slots Q D cl A nL (S) (ws) (vs) (pc) (a2 :: a1 :: .ref b :: st) := fun H locs ls hP hD hS hl => x_samei (va_runV (As := [a1, a2]) (rest := st) ⟨G.1, G.2.1, G.2.2.1, G.2.2.2.1, G.2.2.2.2.1⟩ hM cw ⟨fun a U g mk q => by obtain ⟨q0, qP, qK, qN, qD⟩ := q; exact ⟨q0, qP, va_K.moved (u := U) (U := U.calling g mk a) (Vm.Alike.refl U.vm) qK, fun c hc => ⟨(qN c hc).1, nest_same (s := U) (U := U.calling g mk a) (qN c hc).1 rfl (qN c hc).2⟩, qD⟩, va_recv G.2.2.2.2.2.1 hP hc he, fun U hU hW => ⟨rfl, by rw [hU]; exact hP, va_K.moved hW.alike G.2.2.2.2.2.1, fun c hc => ⟨(G.2.2.2.2.2.2.1 c hc).1, nest_warm (G.2.2.2.2.2.2.1 c hc).1 hW (G.2.2.2.2.2.2.1 c hc).2⟩, hD.weaken (fun _ _ _ _ => trivial)⟩⟩ rfl rfl hl.1 rfl (lv_room hroom) dd ⟨hcs.1, hcs.2⟩) (fun r hr => k r hr H locs ls hP hD hS hl)
theorem x_call0V2l (G : xG p s m args c cc nL own Ts NW D cl tys A) {b : Nat} {C : String} {y : MethodName} {bytes : ByteArray} {maxL index d : Nat} {ret : Option FieldType} {Tc : List Cond} {a1 a2 : Value} {post : Int64 → Prop} (hM : xCl0 l D cl tys NW ws y Tc d [.ref b, a1, a2] post) (q0 : Nat) {fs : List Value} {ci : Nat} {T : u_T} {N : Nat} (he : ws[q0]? = some (b, .inr (ci, fs))) (hc : cl[ci]? = some (C, T, N)) (cw : CallW R s args own C index y bytes maxL ret Tc { frames := d, cells := 0, slots := 0, locals := 40 * d } 0 0 2) (dd : decode cc pc = .ok (.invokevirtual index, 3)) (hroom : (st.map fun v => v.category).sum ≤ 8) (hcs : cells ≤ R.cells ∧ slots ≤ R.slots) (k : ∀ r : Int64, post r → xJ p l e R s m args below meth c cells slots Q D cl A nL (S) (ws) (vs) (pc + 3) (.long r :: st)) : xJ p l e R s m args below meth c cells slots Q D cl A nL (S) (ws) (vs) (pc) (a2 :: a1 :: .ref b :: st) := fun H locs ls hP hD hS hl => x_samel (va_runV (As := [a1, a2]) (rest := st) ⟨G.1, G.2.1, G.2.2.1, G.2.2.2.1, G.2.2.2.2.1⟩ hM cw ⟨fun a U g mk q => by obtain ⟨q0, qP, qK, qN, qD⟩ := q; exact ⟨q0, qP, va_K.moved (u := U) (U := U.calling g mk a) (Vm.Alike.refl U.vm) qK, fun c hc => ⟨(qN c hc).1, nest_same (s := U) (U := U.calling g mk a) (qN c hc).1 rfl (qN c hc).2⟩, qD⟩, va_recv G.2.2.2.2.2.1 hP hc he, fun U hU hW => ⟨rfl, by rw [hU]; exact hP, va_K.moved hW.alike G.2.2.2.2.2.1, fun c hc => ⟨(G.2.2.2.2.2.2.1 c hc).1, nest_warm (G.2.2.2.2.2.2.1 c hc).1 hW (G.2.2.2.2.2.2.1 c hc).2⟩, hD.weaken (fun _ _ _ _ => trivial)⟩⟩ rfl rfl hl.1 rfl (lv_room hroom) dd ⟨hcs.1, hcs.2⟩) (fun r hr => k r hr H locs ls hP hD hS hl)
theorem x_call0VN2i (G : xG p s m args c cc nL own Ts NW D cl tys A) {b : Nat} {C : String} {host : String} {y : MethodName} {bytes : ByteArray} {maxL index d : Nat} {ret : Option FieldType} {Tc : List Cond} {a1 a2 : Value} {post : Int32 → Prop} (hM : xCi0 l D cl tys NW ws y Tc d [.ref b, a1, a2] post) (q0 : Nat) {fs : List Value} {ci : Nat} {T : u_T} {N : Nat} (he : ws[q0]? = some (b, .inr (ci, fs))) (hc : cl[ci]? = some (C, T, N)) (cw : (va_CN R s args own index y host bytes maxL ret Tc { frames := d, cells := 0, slots := 0, locals := 40 * d } 0 0 2 ∧ (Cond.instanceMethod y).before args s = true ∧ (Cond.selects C y y).before args s = true)) (dd : decode cc pc = .ok (.invokevirtual index, 3)) (hroom : (st.map fun v => v.category).sum ≤ 8) (hcs : cells ≤ R.cells ∧ slots ≤ R.slots) (k : ∀ r : Int32, post r → xJ p l e R s m args below meth c cells slots Q D cl A nL (S) (ws) (vs) (pc + 3) (.int r :: st)) : xJ p l e R s m args below meth c cells slots Q D cl A nL (S) (ws) (vs) (pc) (a2 :: a1 :: .ref b :: st) := fun H locs ls hP hD hS hl => x_samei (va_runVN (As := [a1, a2]) (rest := st) ⟨G.1, G.2.1, G.2.2.1, G.2.2.2.1, G.2.2.2.2.1⟩ hM cw ⟨fun a U g mk q => by obtain ⟨q0, qP, qK, qN, qD⟩ := q; exact ⟨q0, qP, va_K.moved (u := U) (U := U.calling g mk a) (Vm.Alike.refl U.vm) qK, fun c hc => ⟨(qN c hc).1, nest_same (s := U) (U := U.calling g mk a) (qN c hc).1 rfl (qN c hc).2⟩, qD⟩, va_recv G.2.2.2.2.2.1 hP hc he, fun U hU hW => ⟨rfl, by rw [hU]; exact hP, va_K.moved hW.alike G.2.2.2.2.2.1, fun c hc => ⟨(G.2.2.2.2.2.2.1 c hc).1, nest_warm (G.2.2.2.2.2.2.1 c hc).1 hW (G.2.2.2.2.2.2.1 c hc).2⟩, hD.weaken (fun _ _ _ _ => trivial)⟩⟩ rfl rfl hl.1 rfl (lv_room hroom) dd ⟨hcs.1, hcs.2⟩) (fun r hr => k r hr H locs ls hP hD hS hl)
theorem x_call0VN2l (G : xG p s m args c cc nL own Ts NW D cl tys A) {b : Nat} {C : String} {host : String} {y : MethodName} {bytes : ByteArray} {maxL index d : Nat} {ret : Option FieldType} {Tc : List Cond} {a1 a2 : Value} {post : Int64 → Prop} (hM : xCl0 l D cl tys NW ws y Tc d [.ref b, a1, a2] post) (q0 : Nat) {fs : List Value} {ci : Nat} {T : u_T} {N : Nat} (he : ws[q0]? = some (b, .inr (ci, fs))) (hc : cl[ci]? = some (C, T, N)) (cw : (va_CN R s args own index y host bytes maxL ret Tc { frames := d, cells := 0, slots := 0, locals := 40 * d } 0 0 2 ∧ (Cond.instanceMethod y).before args s = true ∧ (Cond.selects C y y).before args s = true)) (dd : decode cc pc = .ok (.invokevirtual index, 3)) (hroom : (st.map fun v => v.category).sum ≤ 8) (hcs : cells ≤ R.cells ∧ slots ≤ R.slots) (k : ∀ r : Int64, post r → xJ p l e R s m args below meth c cells slots Q D cl A nL (S) (ws) (vs) (pc + 3) (.long r :: st)) : xJ p l e R s m args below meth c cells slots Q D cl A nL (S) (ws) (vs) (pc) (a2 :: a1 :: .ref b :: st) := fun H locs ls hP hD hS hl => x_samel (va_runVN (As := [a1, a2]) (rest := st) ⟨G.1, G.2.1, G.2.2.1, G.2.2.2.1, G.2.2.2.2.1⟩ hM cw ⟨fun a U g mk q => by obtain ⟨q0, qP, qK, qN, qD⟩ := q; exact ⟨q0, qP, va_K.moved (u := U) (U := U.calling g mk a) (Vm.Alike.refl U.vm) qK, fun c hc => ⟨(qN c hc).1, nest_same (s := U) (U := U.calling g mk a) (qN c hc).1 rfl (qN c hc).2⟩, qD⟩, va_recv G.2.2.2.2.2.1 hP hc he, fun U hU hW => ⟨rfl, by rw [hU]; exact hP, va_K.moved hW.alike G.2.2.2.2.2.1, fun c hc => ⟨(G.2.2.2.2.2.2.1 c hc).1, nest_warm (G.2.2.2.2.2.2.1 c hc).1 hW (G.2.2.2.2.2.2.1 c hc).2⟩, hD.weaken (fun _ _ _ _ => trivial)⟩⟩ rfl rfl hl.1 rfl (lv_room hroom) dd ⟨hcs.1, hcs.2⟩) (fun r hr => k r hr H locs ls hP hD hS hl)
theorem x_call0S2i (G : xG p s m args c cc nL own Ts NW D cl tys A) {y : MethodName} {bytes : ByteArray} {maxL index d : Nat} {ret : Option FieldType} {Tc : List Cond} {a1 a2 : Value} {post : Int32 → Prop} (hM : xCi0 l D cl tys NW ws y Tc d [a1, a2] post) (cw : (CallB R s args own index y bytes maxL ret Tc { frames := d, cells := 0, slots := 0, locals := 40 * d } 0 0 2 ∧ (Cond.static y).before args s = true)) (dd : decode cc pc = .ok (.invokestatic index, 3)) (hroom : (st.map fun v => v.category).sum ≤ 8) (hcs : cells ≤ R.cells ∧ slots ≤ R.slots) (k : ∀ r : Int32, post r → xJ p l e R s m args below meth c cells slots Q D cl A nL (S) (ws) (vs) (pc + 3) (.int r :: st)) : xJ p l e R s m args below meth c cells slots Q D cl A nL (S) (ws) (vs) (pc) (a2 :: a1 :: st) := fun H locs ls hP hD hS hl => x_samei (va_runS (As := [a1, a2]) (rest := st) ⟨G.1, G.2.1, G.2.2.1, G.2.2.2.1, G.2.2.2.2.1⟩ hM cw ⟨fun a U g mk q => by obtain ⟨q0, qP, qK, qN, qD⟩ := q; exact ⟨q0, qP, va_K.moved (u := U) (U := U.calling g mk a) (Vm.Alike.refl U.vm) qK, fun c hc => ⟨(qN c hc).1, nest_same (s := U) (U := U.calling g mk a) (qN c hc).1 rfl (qN c hc).2⟩, qD⟩, fun U hU hW => ⟨rfl, by rw [hU]; exact hP, va_K.moved hW.alike G.2.2.2.2.2.1, fun c hc => ⟨(G.2.2.2.2.2.2.1 c hc).1, nest_warm (G.2.2.2.2.2.2.1 c hc).1 hW (G.2.2.2.2.2.2.1 c hc).2⟩, hD.weaken (fun _ _ _ _ => trivial)⟩⟩ rfl rfl hl.1 rfl (lv_room hroom) dd ⟨hcs.1, hcs.2⟩) (fun r hr => k r hr H locs ls hP hD hS hl)
theorem x_call0S2l (G : xG p s m args c cc nL own Ts NW D cl tys A) {y : MethodName} {bytes : ByteArray} {maxL index d : Nat} {ret : Option FieldType} {Tc : List Cond} {a1 a2 : Value} {post : Int64 → Prop} (hM : xCl0 l D cl tys NW ws y Tc d [a1, a2] post) (cw : (CallB R s args own index y bytes maxL ret Tc { frames := d, cells := 0, slots := 0, locals := 40 * d } 0 0 2 ∧ (Cond.static y).before args s = true)) (dd : decode cc pc = .ok (.invokestatic index, 3)) (hroom : (st.map fun v => v.category).sum ≤ 8) (hcs : cells ≤ R.cells ∧ slots ≤ R.slots) (k : ∀ r : Int64, post r → xJ p l e R s m args below meth c cells slots Q D cl A nL (S) (ws) (vs) (pc + 3) (.long r :: st)) : xJ p l e R s m args below meth c cells slots Q D cl A nL (S) (ws) (vs) (pc) (a2 :: a1 :: st) := fun H locs ls hP hD hS hl => x_samel (va_runS (As := [a1, a2]) (rest := st) ⟨G.1, G.2.1, G.2.2.1, G.2.2.2.1, G.2.2.2.2.1⟩ hM cw ⟨fun a U g mk q => by obtain ⟨q0, qP, qK, qN, qD⟩ := q; exact ⟨q0, qP, va_K.moved (u := U) (U := U.calling g mk a) (Vm.Alike.refl U.vm) qK, fun c hc => ⟨(qN c hc).1, nest_same (s := U) (U := U.calling g mk a) (qN c hc).1 rfl (qN c hc).2⟩, qD⟩, fun U hU hW => ⟨rfl, by rw [hU]; exact hP, va_K.moved hW.alike G.2.2.2.2.2.1, fun c hc => ⟨(G.2.2.2.2.2.2.1 c hc).1, nest_warm (G.2.2.2.2.2.2.1 c hc).1 hW (G.2.2.2.2.2.2.1 c hc).2⟩, hD.weaken (fun _ _ _ _ => trivial)⟩⟩ rfl rfl hl.1 rfl (lv_room hroom) dd ⟨hcs.1, hcs.2⟩) (fun r hr => k r hr H locs ls hP hD hS hl)
theorem x_call0SN2i (G : xG p s m args c cc nL own Ts NW D cl tys A) {host : String} {y : MethodName} {bytes : ByteArray} {maxL index d : Nat} {ret : Option FieldType} {Tc : List Cond} {a1 a2 : Value} {post : Int32 → Prop} (hM : xCi0 l D cl tys NW ws y Tc d [a1, a2] post) (cw : (va_CN R s args own index y host bytes maxL ret Tc { frames := d, cells := 0, slots := 0, locals := 40 * d } 0 0 2 ∧ (Cond.static y).before args s = true ∧ True)) (dd : decode cc pc = .ok (.invokestatic index, 3)) (hroom : (st.map fun v => v.category).sum ≤ 8) (hcs : cells ≤ R.cells ∧ slots ≤ R.slots) (k : ∀ r : Int32, post r → xJ p l e R s m args below meth c cells slots Q D cl A nL (S) (ws) (vs) (pc + 3) (.int r :: st)) : xJ p l e R s m args below meth c cells slots Q D cl A nL (S) (ws) (vs) (pc) (a2 :: a1 :: st) := fun H locs ls hP hD hS hl => x_samei (va_runSN (As := [a1, a2]) (rest := st) ⟨G.1, G.2.1, G.2.2.1, G.2.2.2.1, G.2.2.2.2.1⟩ hM cw ⟨fun a U g mk q => by obtain ⟨q0, qP, qK, qN, qD⟩ := q; exact ⟨q0, qP, va_K.moved (u := U) (U := U.calling g mk a) (Vm.Alike.refl U.vm) qK, fun c hc => ⟨(qN c hc).1, nest_same (s := U) (U := U.calling g mk a) (qN c hc).1 rfl (qN c hc).2⟩, qD⟩, fun U hU hW => ⟨rfl, by rw [hU]; exact hP, va_K.moved hW.alike G.2.2.2.2.2.1, fun c hc => ⟨(G.2.2.2.2.2.2.1 c hc).1, nest_warm (G.2.2.2.2.2.2.1 c hc).1 hW (G.2.2.2.2.2.2.1 c hc).2⟩, hD.weaken (fun _ _ _ _ => trivial)⟩⟩ rfl rfl hl.1 rfl (lv_room hroom) dd ⟨hcs.1, hcs.2⟩) (fun r hr => k r hr H locs ls hP hD hS hl)
theorem x_call0SN2l (G : xG p s m args c cc nL own Ts NW D cl tys A) {host : String} {y : MethodName} {bytes : ByteArray} {maxL index d : Nat} {ret : Option FieldType} {Tc : List Cond} {a1 a2 : Value} {post : Int64 → Prop} (hM : xCl0 l D cl tys NW ws y Tc d [a1, a2] post) (cw : (va_CN R s args own index y host bytes maxL ret Tc { frames := d, cells := 0, slots := 0, locals := 40 * d } 0 0 2 ∧ (Cond.static y).before args s = true ∧ True)) (dd : decode cc pc = .ok (.invokestatic index, 3)) (hroom : (st.map fun v => v.category).sum ≤ 8) (hcs : cells ≤ R.cells ∧ slots ≤ R.slots) (k : ∀ r : Int64, post r → xJ p l e R s m args below meth c cells slots Q D cl A nL (S) (ws) (vs) (pc + 3) (.long r :: st)) : xJ p l e R s m args below meth c cells slots Q D cl A nL (S) (ws) (vs) (pc) (a2 :: a1 :: st) := fun H locs ls hP hD hS hl => x_samel (va_runSN (As := [a1, a2]) (rest := st) ⟨G.1, G.2.1, G.2.2.1, G.2.2.2.1, G.2.2.2.2.1⟩ hM cw ⟨fun a U g mk q => by obtain ⟨q0, qP, qK, qN, qD⟩ := q; exact ⟨q0, qP, va_K.moved (u := U) (U := U.calling g mk a) (Vm.Alike.refl U.vm) qK, fun c hc => ⟨(qN c hc).1, nest_same (s := U) (U := U.calling g mk a) (qN c hc).1 rfl (qN c hc).2⟩, qD⟩, fun U hU hW => ⟨rfl, by rw [hU]; exact hP, va_K.moved hW.alike G.2.2.2.2.2.1, fun c hc => ⟨(G.2.2.2.2.2.2.1 c hc).1, nest_warm (G.2.2.2.2.2.2.1 c hc).1 hW (G.2.2.2.2.2.2.1 c hc).2⟩, hD.weaken (fun _ _ _ _ => trivial)⟩⟩ rfl rfl hl.1 rfl (lv_room hroom) dd ⟨hcs.1, hcs.2⟩) (fun r hr => k r hr H locs ls hP hD hS hl)
theorem x_call0V3i (G : xG p s m args c cc nL own Ts NW D cl tys A) {b : Nat} {C : String} {y : MethodName} {bytes : ByteArray} {maxL index d : Nat} {ret : Option FieldType} {Tc : List Cond} {a1 a2 a3 : Value} {post : Int32 → Prop} (hM : xCi0 l D cl tys NW ws y Tc d [.ref b, a1, a2, a3] post) (q0 : Nat) {fs : List Value} {ci : Nat} {T : u_T} {N : Nat} (he : ws[q0]? = some (b, .inr (ci, fs))) (hc : cl[ci]? = some (C, T, N)) (cw : CallW R s args own C index y bytes maxL ret Tc { frames := d, cells := 0, slots := 0, locals := 40 * d } 0 0 3) (dd : decode cc pc = .ok (.invokevirtual index, 3)) (hroom : (st.map fun v => v.category).sum ≤ 8) (hcs : cells ≤ R.cells ∧ slots ≤ R.slots) (k : ∀ r : Int32, post r → xJ p l e R s m args below meth c cells slots Q D cl A nL (S) (ws) (vs) (pc + 3) (.int r :: st)) : xJ p l e R s m args below meth c cells slots Q D cl A nL (S) (ws) (vs) (pc) (a3 :: a2 :: a1 :: .ref b :: st) := fun H locs ls hP hD hS hl => x_samei (va_runV (As := [a1, a2, a3]) (rest := st) ⟨G.1, G.2.1, G.2.2.1, G.2.2.2.1, G.2.2.2.2.1⟩ hM cw ⟨fun a U g mk q => by obtain ⟨q0, qP, qK, qN, qD⟩ := q; exact ⟨q0, qP, va_K.moved (u := U) (U := U.calling g mk a) (Vm.Alike.refl U.vm) qK, fun c hc => ⟨(qN c hc).1, nest_same (s := U) (U := U.calling g mk a) (qN c hc).1 rfl (qN c hc).2⟩, qD⟩, va_recv G.2.2.2.2.2.1 hP hc he, fun U hU hW => ⟨rfl, by rw [hU]; exact hP, va_K.moved hW.alike G.2.2.2.2.2.1, fun c hc => ⟨(G.2.2.2.2.2.2.1 c hc).1, nest_warm (G.2.2.2.2.2.2.1 c hc).1 hW (G.2.2.2.2.2.2.1 c hc).2⟩, hD.weaken (fun _ _ _ _ => trivial)⟩⟩ rfl rfl hl.1 rfl (lv_room hroom) dd ⟨hcs.1, hcs.2⟩) (fun r hr => k r hr H locs ls hP hD hS hl)
theorem x_call0V3l (G : xG p s m args c cc nL own Ts NW D cl tys A) {b : Nat} {C : String} {y : MethodName} {bytes : ByteArray} {maxL index d : Nat} {ret : Option FieldType} {Tc : List Cond} {a1 a2 a3 : Value} {post : Int64 → Prop} (hM : xCl0 l D cl tys NW ws y Tc d [.ref b, a1, a2, a3] post) (q0 : Nat) {fs : List Value} {ci : Nat} {T : u_T} {N : Nat} (he : ws[q0]? = some (b, .inr (ci, fs))) (hc : cl[ci]? = some (C, T, N)) (cw : CallW R s args own C index y bytes maxL ret Tc { frames := d, cells := 0, slots := 0, locals := 40 * d } 0 0 3) (dd : decode cc pc = .ok (.invokevirtual index, 3)) (hroom : (st.map fun v => v.category).sum ≤ 8) (hcs : cells ≤ R.cells ∧ slots ≤ R.slots) (k : ∀ r : Int64, post r → xJ p l e R s m args below meth c cells slots Q D cl A nL (S) (ws) (vs) (pc + 3) (.long r :: st)) : xJ p l e R s m args below meth c cells slots Q D cl A nL (S) (ws) (vs) (pc) (a3 :: a2 :: a1 :: .ref b :: st) := fun H locs ls hP hD hS hl => x_samel (va_runV (As := [a1, a2, a3]) (rest := st) ⟨G.1, G.2.1, G.2.2.1, G.2.2.2.1, G.2.2.2.2.1⟩ hM cw ⟨fun a U g mk q => by obtain ⟨q0, qP, qK, qN, qD⟩ := q; exact ⟨q0, qP, va_K.moved (u := U) (U := U.calling g mk a) (Vm.Alike.refl U.vm) qK, fun c hc => ⟨(qN c hc).1, nest_same (s := U) (U := U.calling g mk a) (qN c hc).1 rfl (qN c hc).2⟩, qD⟩, va_recv G.2.2.2.2.2.1 hP hc he, fun U hU hW => ⟨rfl, by rw [hU]; exact hP, va_K.moved hW.alike G.2.2.2.2.2.1, fun c hc => ⟨(G.2.2.2.2.2.2.1 c hc).1, nest_warm (G.2.2.2.2.2.2.1 c hc).1 hW (G.2.2.2.2.2.2.1 c hc).2⟩, hD.weaken (fun _ _ _ _ => trivial)⟩⟩ rfl rfl hl.1 rfl (lv_room hroom) dd ⟨hcs.1, hcs.2⟩) (fun r hr => k r hr H locs ls hP hD hS hl)
theorem x_call0VN3i (G : xG p s m args c cc nL own Ts NW D cl tys A) {b : Nat} {C : String} {host : String} {y : MethodName} {bytes : ByteArray} {maxL index d : Nat} {ret : Option FieldType} {Tc : List Cond} {a1 a2 a3 : Value} {post : Int32 → Prop} (hM : xCi0 l D cl tys NW ws y Tc d [.ref b, a1, a2, a3] post) (q0 : Nat) {fs : List Value} {ci : Nat} {T : u_T} {N : Nat} (he : ws[q0]? = some (b, .inr (ci, fs))) (hc : cl[ci]? = some (C, T, N)) (cw : (va_CN R s args own index y host bytes maxL ret Tc { frames := d, cells := 0, slots := 0, locals := 40 * d } 0 0 3 ∧ (Cond.instanceMethod y).before args s = true ∧ (Cond.selects C y y).before args s = true)) (dd : decode cc pc = .ok (.invokevirtual index, 3)) (hroom : (st.map fun v => v.category).sum ≤ 8) (hcs : cells ≤ R.cells ∧ slots ≤ R.slots) (k : ∀ r : Int32, post r → xJ p l e R s m args below meth c cells slots Q D cl A nL (S) (ws) (vs) (pc + 3) (.int r :: st)) : xJ p l e R s m args below meth c cells slots Q D cl A nL (S) (ws) (vs) (pc) (a3 :: a2 :: a1 :: .ref b :: st) := fun H locs ls hP hD hS hl => x_samei (va_runVN (As := [a1, a2, a3]) (rest := st) ⟨G.1, G.2.1, G.2.2.1, G.2.2.2.1, G.2.2.2.2.1⟩ hM cw ⟨fun a U g mk q => by obtain ⟨q0, qP, qK, qN, qD⟩ := q; exact ⟨q0, qP, va_K.moved (u := U) (U := U.calling g mk a) (Vm.Alike.refl U.vm) qK, fun c hc => ⟨(qN c hc).1, nest_same (s := U) (U := U.calling g mk a) (qN c hc).1 rfl (qN c hc).2⟩, qD⟩, va_recv G.2.2.2.2.2.1 hP hc he, fun U hU hW => ⟨rfl, by rw [hU]; exact hP, va_K.moved hW.alike G.2.2.2.2.2.1, fun c hc => ⟨(G.2.2.2.2.2.2.1 c hc).1, nest_warm (G.2.2.2.2.2.2.1 c hc).1 hW (G.2.2.2.2.2.2.1 c hc).2⟩, hD.weaken (fun _ _ _ _ => trivial)⟩⟩ rfl rfl hl.1 rfl (lv_room hroom) dd ⟨hcs.1, hcs.2⟩) (fun r hr => k r hr H locs ls hP hD hS hl)
theorem x_call0VN3l (G : xG p s m args c cc nL own Ts NW D cl tys A) {b : Nat} {C : String} {host : String} {y : MethodName} {bytes : ByteArray} {maxL index d : Nat} {ret : Option FieldType} {Tc : List Cond} {a1 a2 a3 : Value} {post : Int64 → Prop} (hM : xCl0 l D cl tys NW ws y Tc d [.ref b, a1, a2, a3] post) (q0 : Nat) {fs : List Value} {ci : Nat} {T : u_T} {N : Nat} (he : ws[q0]? = some (b, .inr (ci, fs))) (hc : cl[ci]? = some (C, T, N)) (cw : (va_CN R s args own index y host bytes maxL ret Tc { frames := d, cells := 0, slots := 0, locals := 40 * d } 0 0 3 ∧ (Cond.instanceMethod y).before args s = true ∧ (Cond.selects C y y).before args s = true)) (dd : decode cc pc = .ok (.invokevirtual index, 3)) (hroom : (st.map fun v => v.category).sum ≤ 8) (hcs : cells ≤ R.cells ∧ slots ≤ R.slots) (k : ∀ r : Int64, post r → xJ p l e R s m args below meth c cells slots Q D cl A nL (S) (ws) (vs) (pc + 3) (.long r :: st)) : xJ p l e R s m args below meth c cells slots Q D cl A nL (S) (ws) (vs) (pc) (a3 :: a2 :: a1 :: .ref b :: st) := fun H locs ls hP hD hS hl => x_samel (va_runVN (As := [a1, a2, a3]) (rest := st) ⟨G.1, G.2.1, G.2.2.1, G.2.2.2.1, G.2.2.2.2.1⟩ hM cw ⟨fun a U g mk q => by obtain ⟨q0, qP, qK, qN, qD⟩ := q; exact ⟨q0, qP, va_K.moved (u := U) (U := U.calling g mk a) (Vm.Alike.refl U.vm) qK, fun c hc => ⟨(qN c hc).1, nest_same (s := U) (U := U.calling g mk a) (qN c hc).1 rfl (qN c hc).2⟩, qD⟩, va_recv G.2.2.2.2.2.1 hP hc he, fun U hU hW => ⟨rfl, by rw [hU]; exact hP, va_K.moved hW.alike G.2.2.2.2.2.1, fun c hc => ⟨(G.2.2.2.2.2.2.1 c hc).1, nest_warm (G.2.2.2.2.2.2.1 c hc).1 hW (G.2.2.2.2.2.2.1 c hc).2⟩, hD.weaken (fun _ _ _ _ => trivial)⟩⟩ rfl rfl hl.1 rfl (lv_room hroom) dd ⟨hcs.1, hcs.2⟩) (fun r hr => k r hr H locs ls hP hD hS hl)
theorem x_call0S3i (G : xG p s m args c cc nL own Ts NW D cl tys A) {y : MethodName} {bytes : ByteArray} {maxL index d : Nat} {ret : Option FieldType} {Tc : List Cond} {a1 a2 a3 : Value} {post : Int32 → Prop} (hM : xCi0 l D cl tys NW ws y Tc d [a1, a2, a3] post) (cw : (CallB R s args own index y bytes maxL ret Tc { frames := d, cells := 0, slots := 0, locals := 40 * d } 0 0 3 ∧ (Cond.static y).before args s = true)) (dd : decode cc pc = .ok (.invokestatic index, 3)) (hroom : (st.map fun v => v.category).sum ≤ 8) (hcs : cells ≤ R.cells ∧ slots ≤ R.slots) (k : ∀ r : Int32, post r → xJ p l e R s m args below meth c cells slots Q D cl A nL (S) (ws) (vs) (pc + 3) (.int r :: st)) : xJ p l e R s m args below meth c cells slots Q D cl A nL (S) (ws) (vs) (pc) (a3 :: a2 :: a1 :: st) := fun H locs ls hP hD hS hl => x_samei (va_runS (As := [a1, a2, a3]) (rest := st) ⟨G.1, G.2.1, G.2.2.1, G.2.2.2.1, G.2.2.2.2.1⟩ hM cw ⟨fun a U g mk q => by obtain ⟨q0, qP, qK, qN, qD⟩ := q; exact ⟨q0, qP, va_K.moved (u := U) (U := U.calling g mk a) (Vm.Alike.refl U.vm) qK, fun c hc => ⟨(qN c hc).1, nest_same (s := U) (U := U.calling g mk a) (qN c hc).1 rfl (qN c hc).2⟩, qD⟩, fun U hU hW => ⟨rfl, by rw [hU]; exact hP, va_K.moved hW.alike G.2.2.2.2.2.1, fun c hc => ⟨(G.2.2.2.2.2.2.1 c hc).1, nest_warm (G.2.2.2.2.2.2.1 c hc).1 hW (G.2.2.2.2.2.2.1 c hc).2⟩, hD.weaken (fun _ _ _ _ => trivial)⟩⟩ rfl rfl hl.1 rfl (lv_room hroom) dd ⟨hcs.1, hcs.2⟩) (fun r hr => k r hr H locs ls hP hD hS hl)
theorem x_call0S3l (G : xG p s m args c cc nL own Ts NW D cl tys A) {y : MethodName} {bytes : ByteArray} {maxL index d : Nat} {ret : Option FieldType} {Tc : List Cond} {a1 a2 a3 : Value} {post : Int64 → Prop} (hM : xCl0 l D cl tys NW ws y Tc d [a1, a2, a3] post) (cw : (CallB R s args own index y bytes maxL ret Tc { frames := d, cells := 0, slots := 0, locals := 40 * d } 0 0 3 ∧ (Cond.static y).before args s = true)) (dd : decode cc pc = .ok (.invokestatic index, 3)) (hroom : (st.map fun v => v.category).sum ≤ 8) (hcs : cells ≤ R.cells ∧ slots ≤ R.slots) (k : ∀ r : Int64, post r → xJ p l e R s m args below meth c cells slots Q D cl A nL (S) (ws) (vs) (pc + 3) (.long r :: st)) : xJ p l e R s m args below meth c cells slots Q D cl A nL (S) (ws) (vs) (pc) (a3 :: a2 :: a1 :: st) := fun H locs ls hP hD hS hl => x_samel (va_runS (As := [a1, a2, a3]) (rest := st) ⟨G.1, G.2.1, G.2.2.1, G.2.2.2.1, G.2.2.2.2.1⟩ hM cw ⟨fun a U g mk q => by obtain ⟨q0, qP, qK, qN, qD⟩ := q; exact ⟨q0, qP, va_K.moved (u := U) (U := U.calling g mk a) (Vm.Alike.refl U.vm) qK, fun c hc => ⟨(qN c hc).1, nest_same (s := U) (U := U.calling g mk a) (qN c hc).1 rfl (qN c hc).2⟩, qD⟩, fun U hU hW => ⟨rfl, by rw [hU]; exact hP, va_K.moved hW.alike G.2.2.2.2.2.1, fun c hc => ⟨(G.2.2.2.2.2.2.1 c hc).1, nest_warm (G.2.2.2.2.2.2.1 c hc).1 hW (G.2.2.2.2.2.2.1 c hc).2⟩, hD.weaken (fun _ _ _ _ => trivial)⟩⟩ rfl rfl hl.1 rfl (lv_room hroom) dd ⟨hcs.1, hcs.2⟩) (fun r hr => k r hr H locs ls hP hD hS hl)
theorem x_call0SN3i (G : xG p s m args c cc nL own Ts NW D cl tys A) {host : String} {y : MethodName} {bytes : ByteArray} {maxL index d : Nat} {ret : Option FieldType} {Tc : List Cond} {a1 a2 a3 : Value} {post : Int32 → Prop} (hM : xCi0 l D cl tys NW ws y Tc d [a1, a2, a3] post) (cw : (va_CN R s args own index y host bytes maxL ret Tc { frames := d, cells := 0, slots := 0, locals := 40 * d } 0 0 3 ∧ (Cond.static y).before args s = true ∧ True)) (dd : decode cc pc = .ok (.invokestatic index, 3)) (hroom : (st.map fun v => v.category).sum ≤ 8) (hcs : cells ≤ R.cells ∧ slots ≤ R.slots) (k : ∀ r : Int32, post r → xJ p l e R s m args below meth c cells slots Q D cl A nL (S) (ws) (vs) (pc + 3) (.int r :: st)) : xJ p l e R s m args below meth c cells slots Q D cl A nL (S) (ws) (vs) (pc) (a3 :: a2 :: a1 :: st) := fun H locs ls hP hD hS hl => x_samei (va_runSN (As := [a1, a2, a3]) (rest := st) ⟨G.1, G.2.1, G.2.2.1, G.2.2.2.1, G.2.2.2.2.1⟩ hM cw ⟨fun a U g mk q => by obtain ⟨q0, qP, qK, qN, qD⟩ := q; exact ⟨q0, qP, va_K.moved (u := U) (U := U.calling g mk a) (Vm.Alike.refl U.vm) qK, fun c hc => ⟨(qN c hc).1, nest_same (s := U) (U := U.calling g mk a) (qN c hc).1 rfl (qN c hc).2⟩, qD⟩, fun U hU hW => ⟨rfl, by rw [hU]; exact hP, va_K.moved hW.alike G.2.2.2.2.2.1, fun c hc => ⟨(G.2.2.2.2.2.2.1 c hc).1, nest_warm (G.2.2.2.2.2.2.1 c hc).1 hW (G.2.2.2.2.2.2.1 c hc).2⟩, hD.weaken (fun _ _ _ _ => trivial)⟩⟩ rfl rfl hl.1 rfl (lv_room hroom) dd ⟨hcs.1, hcs.2⟩) (fun r hr => k r hr H locs ls hP hD hS hl)
theorem x_call0SN3l (G : xG p s m args c cc nL own Ts NW D cl tys A) {host : String} {y : MethodName} {bytes : ByteArray} {maxL index d : Nat} {ret : Option FieldType} {Tc : List Cond} {a1 a2 a3 : Value} {post : Int64 → Prop} (hM : xCl0 l D cl tys NW ws y Tc d [a1, a2, a3] post) (cw : (va_CN R s args own index y host bytes maxL ret Tc { frames := d, cells := 0, slots := 0, locals := 40 * d } 0 0 3 ∧ (Cond.static y).before args s = true ∧ True)) (dd : decode cc pc = .ok (.invokestatic index, 3)) (hroom : (st.map fun v => v.category).sum ≤ 8) (hcs : cells ≤ R.cells ∧ slots ≤ R.slots) (k : ∀ r : Int64, post r → xJ p l e R s m args below meth c cells slots Q D cl A nL (S) (ws) (vs) (pc + 3) (.long r :: st)) : xJ p l e R s m args below meth c cells slots Q D cl A nL (S) (ws) (vs) (pc) (a3 :: a2 :: a1 :: st) := fun H locs ls hP hD hS hl => x_samel (va_runSN (As := [a1, a2, a3]) (rest := st) ⟨G.1, G.2.1, G.2.2.1, G.2.2.2.1, G.2.2.2.2.1⟩ hM cw ⟨fun a U g mk q => by obtain ⟨q0, qP, qK, qN, qD⟩ := q; exact ⟨q0, qP, va_K.moved (u := U) (U := U.calling g mk a) (Vm.Alike.refl U.vm) qK, fun c hc => ⟨(qN c hc).1, nest_same (s := U) (U := U.calling g mk a) (qN c hc).1 rfl (qN c hc).2⟩, qD⟩, fun U hU hW => ⟨rfl, by rw [hU]; exact hP, va_K.moved hW.alike G.2.2.2.2.2.1, fun c hc => ⟨(G.2.2.2.2.2.2.1 c hc).1, nest_warm (G.2.2.2.2.2.2.1 c hc).1 hW (G.2.2.2.2.2.2.1 c hc).2⟩, hD.weaken (fun _ _ _ _ => trivial)⟩⟩ rfl rfl hl.1 rfl (lv_room hroom) dd ⟨hcs.1, hcs.2⟩) (fun r hr => k r hr H locs ls hP hD hS hl)
theorem x_call0V4i (G : xG p s m args c cc nL own Ts NW D cl tys A) {b : Nat} {C : String} {y : MethodName} {bytes : ByteArray} {maxL index d : Nat} {ret : Option FieldType} {Tc : List Cond} {a1 a2 a3 a4 : Value} {post : Int32 → Prop} (hM : xCi0 l D cl tys NW ws y Tc d [.ref b, a1, a2, a3, a4] post) (q0 : Nat) {fs : List Value} {ci : Nat} {T : u_T} {N : Nat} (he : ws[q0]? = some (b, .inr (ci, fs))) (hc : cl[ci]? = some (C, T, N)) (cw : CallW R s args own C index y bytes maxL ret Tc { frames := d, cells := 0, slots := 0, locals := 40 * d } 0 0 4) (dd : decode cc pc = .ok (.invokevirtual index, 3)) (hroom : (st.map fun v => v.category).sum ≤ 8) (hcs : cells ≤ R.cells ∧ slots ≤ R.slots) (k : ∀ r : Int32, post r → xJ p l e R s m args below meth c cells slots Q D cl A nL (S) (ws) (vs) (pc + 3) (.int r :: st)) : xJ p l e R s m args below meth c cells slots Q D cl A nL (S) (ws) (vs) (pc) (a4 :: a3 :: a2 :: a1 :: .ref b :: st) := fun H locs ls hP hD hS hl => x_samei (va_runV (As := [a1, a2, a3, a4]) (rest := st) ⟨G.1, G.2.1, G.2.2.1, G.2.2.2.1, G.2.2.2.2.1⟩ hM cw ⟨fun a U g mk q => by obtain ⟨q0, qP, qK, qN, qD⟩ := q; exact ⟨q0, qP, va_K.moved (u := U) (U := U.calling g mk a) (Vm.Alike.refl U.vm) qK, fun c hc => ⟨(qN c hc).1, nest_same (s := U) (U := U.calling g mk a) (qN c hc).1 rfl (qN c hc).2⟩, qD⟩, va_recv G.2.2.2.2.2.1 hP hc he, fun U hU hW => ⟨rfl, by rw [hU]; exact hP, va_K.moved hW.alike G.2.2.2.2.2.1, fun c hc => ⟨(G.2.2.2.2.2.2.1 c hc).1, nest_warm (G.2.2.2.2.2.2.1 c hc).1 hW (G.2.2.2.2.2.2.1 c hc).2⟩, hD.weaken (fun _ _ _ _ => trivial)⟩⟩ rfl rfl hl.1 rfl (lv_room hroom) dd ⟨hcs.1, hcs.2⟩) (fun r hr => k r hr H locs ls hP hD hS hl)
theorem x_call0V4l (G : xG p s m args c cc nL own Ts NW D cl tys A) {b : Nat} {C : String} {y : MethodName} {bytes : ByteArray} {maxL index d : Nat} {ret : Option FieldType} {Tc : List Cond} {a1 a2 a3 a4 : Value} {post : Int64 → Prop} (hM : xCl0 l D cl tys NW ws y Tc d [.ref b, a1, a2, a3, a4] post) (q0 : Nat) {fs : List Value} {ci : Nat} {T : u_T} {N : Nat} (he : ws[q0]? = some (b, .inr (ci, fs))) (hc : cl[ci]? = some (C, T, N)) (cw : CallW R s args own C index y bytes maxL ret Tc { frames := d, cells := 0, slots := 0, locals := 40 * d } 0 0 4) (dd : decode cc pc = .ok (.invokevirtual index, 3)) (hroom : (st.map fun v => v.category).sum ≤ 8) (hcs : cells ≤ R.cells ∧ slots ≤ R.slots) (k : ∀ r : Int64, post r → xJ p l e R s m args below meth c cells slots Q D cl A nL (S) (ws) (vs) (pc + 3) (.long r :: st)) : xJ p l e R s m args below meth c cells slots Q D cl A nL (S) (ws) (vs) (pc) (a4 :: a3 :: a2 :: a1 :: .ref b :: st) := fun H locs ls hP hD hS hl => x_samel (va_runV (As := [a1, a2, a3, a4]) (rest := st) ⟨G.1, G.2.1, G.2.2.1, G.2.2.2.1, G.2.2.2.2.1⟩ hM cw ⟨fun a U g mk q => by obtain ⟨q0, qP, qK, qN, qD⟩ := q; exact ⟨q0, qP, va_K.moved (u := U) (U := U.calling g mk a) (Vm.Alike.refl U.vm) qK, fun c hc => ⟨(qN c hc).1, nest_same (s := U) (U := U.calling g mk a) (qN c hc).1 rfl (qN c hc).2⟩, qD⟩, va_recv G.2.2.2.2.2.1 hP hc he, fun U hU hW => ⟨rfl, by rw [hU]; exact hP, va_K.moved hW.alike G.2.2.2.2.2.1, fun c hc => ⟨(G.2.2.2.2.2.2.1 c hc).1, nest_warm (G.2.2.2.2.2.2.1 c hc).1 hW (G.2.2.2.2.2.2.1 c hc).2⟩, hD.weaken (fun _ _ _ _ => trivial)⟩⟩ rfl rfl hl.1 rfl (lv_room hroom) dd ⟨hcs.1, hcs.2⟩) (fun r hr => k r hr H locs ls hP hD hS hl)
theorem x_call0VN4i (G : xG p s m args c cc nL own Ts NW D cl tys A) {b : Nat} {C : String} {host : String} {y : MethodName} {bytes : ByteArray} {maxL index d : Nat} {ret : Option FieldType} {Tc : List Cond} {a1 a2 a3 a4 : Value} {post : Int32 → Prop} (hM : xCi0 l D cl tys NW ws y Tc d [.ref b, a1, a2, a3, a4] post) (q0 : Nat) {fs : List Value} {ci : Nat} {T : u_T} {N : Nat} (he : ws[q0]? = some (b, .inr (ci, fs))) (hc : cl[ci]? = some (C, T, N)) (cw : (va_CN R s args own index y host bytes maxL ret Tc { frames := d, cells := 0, slots := 0, locals := 40 * d } 0 0 4 ∧ (Cond.instanceMethod y).before args s = true ∧ (Cond.selects C y y).before args s = true)) (dd : decode cc pc = .ok (.invokevirtual index, 3)) (hroom : (st.map fun v => v.category).sum ≤ 8) (hcs : cells ≤ R.cells ∧ slots ≤ R.slots) (k : ∀ r : Int32, post r → xJ p l e R s m args below meth c cells slots Q D cl A nL (S) (ws) (vs) (pc + 3) (.int r :: st)) : xJ p l e R s m args below meth c cells slots Q D cl A nL (S) (ws) (vs) (pc) (a4 :: a3 :: a2 :: a1 :: .ref b :: st) := fun H locs ls hP hD hS hl => x_samei (va_runVN (As := [a1, a2, a3, a4]) (rest := st) ⟨G.1, G.2.1, G.2.2.1, G.2.2.2.1, G.2.2.2.2.1⟩ hM cw ⟨fun a U g mk q => by obtain ⟨q0, qP, qK, qN, qD⟩ := q; exact ⟨q0, qP, va_K.moved (u := U) (U := U.calling g mk a) (Vm.Alike.refl U.vm) qK, fun c hc => ⟨(qN c hc).1, nest_same (s := U) (U := U.calling g mk a) (qN c hc).1 rfl (qN c hc).2⟩, qD⟩, va_recv G.2.2.2.2.2.1 hP hc he, fun U hU hW => ⟨rfl, by rw [hU]; exact hP, va_K.moved hW.alike G.2.2.2.2.2.1, fun c hc => ⟨(G.2.2.2.2.2.2.1 c hc).1, nest_warm (G.2.2.2.2.2.2.1 c hc).1 hW (G.2.2.2.2.2.2.1 c hc).2⟩, hD.weaken (fun _ _ _ _ => trivial)⟩⟩ rfl rfl hl.1 rfl (lv_room hroom) dd ⟨hcs.1, hcs.2⟩) (fun r hr => k r hr H locs ls hP hD hS hl)
theorem x_call0VN4l (G : xG p s m args c cc nL own Ts NW D cl tys A) {b : Nat} {C : String} {host : String} {y : MethodName} {bytes : ByteArray} {maxL index d : Nat} {ret : Option FieldType} {Tc : List Cond} {a1 a2 a3 a4 : Value} {post : Int64 → Prop} (hM : xCl0 l D cl tys NW ws y Tc d [.ref b, a1, a2, a3, a4] post) (q0 : Nat) {fs : List Value} {ci : Nat} {T : u_T} {N : Nat} (he : ws[q0]? = some (b, .inr (ci, fs))) (hc : cl[ci]? = some (C, T, N)) (cw : (va_CN R s args own index y host bytes maxL ret Tc { frames := d, cells := 0, slots := 0, locals := 40 * d } 0 0 4 ∧ (Cond.instanceMethod y).before args s = true ∧ (Cond.selects C y y).before args s = true)) (dd : decode cc pc = .ok (.invokevirtual index, 3)) (hroom : (st.map fun v => v.category).sum ≤ 8) (hcs : cells ≤ R.cells ∧ slots ≤ R.slots) (k : ∀ r : Int64, post r → xJ p l e R s m args below meth c cells slots Q D cl A nL (S) (ws) (vs) (pc + 3) (.long r :: st)) : xJ p l e R s m args below meth c cells slots Q D cl A nL (S) (ws) (vs) (pc) (a4 :: a3 :: a2 :: a1 :: .ref b :: st) := fun H locs ls hP hD hS hl => x_samel (va_runVN (As := [a1, a2, a3, a4]) (rest := st) ⟨G.1, G.2.1, G.2.2.1, G.2.2.2.1, G.2.2.2.2.1⟩ hM cw ⟨fun a U g mk q => by obtain ⟨q0, qP, qK, qN, qD⟩ := q; exact ⟨q0, qP, va_K.moved (u := U) (U := U.calling g mk a) (Vm.Alike.refl U.vm) qK, fun c hc => ⟨(qN c hc).1, nest_same (s := U) (U := U.calling g mk a) (qN c hc).1 rfl (qN c hc).2⟩, qD⟩, va_recv G.2.2.2.2.2.1 hP hc he, fun U hU hW => ⟨rfl, by rw [hU]; exact hP, va_K.moved hW.alike G.2.2.2.2.2.1, fun c hc => ⟨(G.2.2.2.2.2.2.1 c hc).1, nest_warm (G.2.2.2.2.2.2.1 c hc).1 hW (G.2.2.2.2.2.2.1 c hc).2⟩, hD.weaken (fun _ _ _ _ => trivial)⟩⟩ rfl rfl hl.1 rfl (lv_room hroom) dd ⟨hcs.1, hcs.2⟩) (fun r hr => k r hr H locs ls hP hD hS hl)
theorem x_call0S4i (G : xG p s m args c cc nL own Ts NW D cl tys A) {y : MethodName} {bytes : ByteArray} {maxL index d : Nat} {ret : Option FieldType} {Tc : List Cond} {a1 a2 a3 a4 : Value} {post : Int32 → Prop} (hM : xCi0 l D cl tys NW ws y Tc d [a1, a2, a3, a4] post) (cw : (CallB R s args own index y bytes maxL ret Tc { frames := d, cells := 0, slots := 0, locals := 40 * d } 0 0 4 ∧ (Cond.static y).before args s = true)) (dd : decode cc pc = .ok (.invokestatic index, 3)) (hroom : (st.map fun v => v.category).sum ≤ 8) (hcs : cells ≤ R.cells ∧ slots ≤ R.slots) (k : ∀ r : Int32, post r → xJ p l e R s m args below meth c cells slots Q D cl A nL (S) (ws) (vs) (pc + 3) (.int r :: st)) : xJ p l e R s m args below meth c cells slots Q D cl A nL (S) (ws) (vs) (pc) (a4 :: a3 :: a2 :: a1 :: st) := fun H locs ls hP hD hS hl => x_samei (va_runS (As := [a1, a2, a3, a4]) (rest := st) ⟨G.1, G.2.1, G.2.2.1, G.2.2.2.1, G.2.2.2.2.1⟩ hM cw ⟨fun a U g mk q => by obtain ⟨q0, qP, qK, qN, qD⟩ := q; exact ⟨q0, qP, va_K.moved (u := U) (U := U.calling g mk a) (Vm.Alike.refl U.vm) qK, fun c hc => ⟨(qN c hc).1, nest_same (s := U) (U := U.calling g mk a) (qN c hc).1 rfl (qN c hc).2⟩, qD⟩, fun U hU hW => ⟨rfl, by rw [hU]; exact hP, va_K.moved hW.alike G.2.2.2.2.2.1, fun c hc => ⟨(G.2.2.2.2.2.2.1 c hc).1, nest_warm (G.2.2.2.2.2.2.1 c hc).1 hW (G.2.2.2.2.2.2.1 c hc).2⟩, hD.weaken (fun _ _ _ _ => trivial)⟩⟩ rfl rfl hl.1 rfl (lv_room hroom) dd ⟨hcs.1, hcs.2⟩) (fun r hr => k r hr H locs ls hP hD hS hl)
theorem x_call0S4l (G : xG p s m args c cc nL own Ts NW D cl tys A) {y : MethodName} {bytes : ByteArray} {maxL index d : Nat} {ret : Option FieldType} {Tc : List Cond} {a1 a2 a3 a4 : Value} {post : Int64 → Prop} (hM : xCl0 l D cl tys NW ws y Tc d [a1, a2, a3, a4] post) (cw : (CallB R s args own index y bytes maxL ret Tc { frames := d, cells := 0, slots := 0, locals := 40 * d } 0 0 4 ∧ (Cond.static y).before args s = true)) (dd : decode cc pc = .ok (.invokestatic index, 3)) (hroom : (st.map fun v => v.category).sum ≤ 8) (hcs : cells ≤ R.cells ∧ slots ≤ R.slots) (k : ∀ r : Int64, post r → xJ p l e R s m args below meth c cells slots Q D cl A nL (S) (ws) (vs) (pc + 3) (.long r :: st)) : xJ p l e R s m args below meth c cells slots Q D cl A nL (S) (ws) (vs) (pc) (a4 :: a3 :: a2 :: a1 :: st) := fun H locs ls hP hD hS hl => x_samel (va_runS (As := [a1, a2, a3, a4]) (rest := st) ⟨G.1, G.2.1, G.2.2.1, G.2.2.2.1, G.2.2.2.2.1⟩ hM cw ⟨fun a U g mk q => by obtain ⟨q0, qP, qK, qN, qD⟩ := q; exact ⟨q0, qP, va_K.moved (u := U) (U := U.calling g mk a) (Vm.Alike.refl U.vm) qK, fun c hc => ⟨(qN c hc).1, nest_same (s := U) (U := U.calling g mk a) (qN c hc).1 rfl (qN c hc).2⟩, qD⟩, fun U hU hW => ⟨rfl, by rw [hU]; exact hP, va_K.moved hW.alike G.2.2.2.2.2.1, fun c hc => ⟨(G.2.2.2.2.2.2.1 c hc).1, nest_warm (G.2.2.2.2.2.2.1 c hc).1 hW (G.2.2.2.2.2.2.1 c hc).2⟩, hD.weaken (fun _ _ _ _ => trivial)⟩⟩ rfl rfl hl.1 rfl (lv_room hroom) dd ⟨hcs.1, hcs.2⟩) (fun r hr => k r hr H locs ls hP hD hS hl)
theorem x_call0SN4i (G : xG p s m args c cc nL own Ts NW D cl tys A) {host : String} {y : MethodName} {bytes : ByteArray} {maxL index d : Nat} {ret : Option FieldType} {Tc : List Cond} {a1 a2 a3 a4 : Value} {post : Int32 → Prop} (hM : xCi0 l D cl tys NW ws y Tc d [a1, a2, a3, a4] post) (cw : (va_CN R s args own index y host bytes maxL ret Tc { frames := d, cells := 0, slots := 0, locals := 40 * d } 0 0 4 ∧ (Cond.static y).before args s = true ∧ True)) (dd : decode cc pc = .ok (.invokestatic index, 3)) (hroom : (st.map fun v => v.category).sum ≤ 8) (hcs : cells ≤ R.cells ∧ slots ≤ R.slots) (k : ∀ r : Int32, post r → xJ p l e R s m args below meth c cells slots Q D cl A nL (S) (ws) (vs) (pc + 3) (.int r :: st)) : xJ p l e R s m args below meth c cells slots Q D cl A nL (S) (ws) (vs) (pc) (a4 :: a3 :: a2 :: a1 :: st) := fun H locs ls hP hD hS hl => x_samei (va_runSN (As := [a1, a2, a3, a4]) (rest := st) ⟨G.1, G.2.1, G.2.2.1, G.2.2.2.1, G.2.2.2.2.1⟩ hM cw ⟨fun a U g mk q => by obtain ⟨q0, qP, qK, qN, qD⟩ := q; exact ⟨q0, qP, va_K.moved (u := U) (U := U.calling g mk a) (Vm.Alike.refl U.vm) qK, fun c hc => ⟨(qN c hc).1, nest_same (s := U) (U := U.calling g mk a) (qN c hc).1 rfl (qN c hc).2⟩, qD⟩, fun U hU hW => ⟨rfl, by rw [hU]; exact hP, va_K.moved hW.alike G.2.2.2.2.2.1, fun c hc => ⟨(G.2.2.2.2.2.2.1 c hc).1, nest_warm (G.2.2.2.2.2.2.1 c hc).1 hW (G.2.2.2.2.2.2.1 c hc).2⟩, hD.weaken (fun _ _ _ _ => trivial)⟩⟩ rfl rfl hl.1 rfl (lv_room hroom) dd ⟨hcs.1, hcs.2⟩) (fun r hr => k r hr H locs ls hP hD hS hl)
theorem x_call0SN4l (G : xG p s m args c cc nL own Ts NW D cl tys A) {host : String} {y : MethodName} {bytes : ByteArray} {maxL index d : Nat} {ret : Option FieldType} {Tc : List Cond} {a1 a2 a3 a4 : Value} {post : Int64 → Prop} (hM : xCl0 l D cl tys NW ws y Tc d [a1, a2, a3, a4] post) (cw : (va_CN R s args own index y host bytes maxL ret Tc { frames := d, cells := 0, slots := 0, locals := 40 * d } 0 0 4 ∧ (Cond.static y).before args s = true ∧ True)) (dd : decode cc pc = .ok (.invokestatic index, 3)) (hroom : (st.map fun v => v.category).sum ≤ 8) (hcs : cells ≤ R.cells ∧ slots ≤ R.slots) (k : ∀ r : Int64, post r → xJ p l e R s m args below meth c cells slots Q D cl A nL (S) (ws) (vs) (pc + 3) (.long r :: st)) : xJ p l e R s m args below meth c cells slots Q D cl A nL (S) (ws) (vs) (pc) (a4 :: a3 :: a2 :: a1 :: st) := fun H locs ls hP hD hS hl => x_samel (va_runSN (As := [a1, a2, a3, a4]) (rest := st) ⟨G.1, G.2.1, G.2.2.1, G.2.2.2.1, G.2.2.2.2.1⟩ hM cw ⟨fun a U g mk q => by obtain ⟨q0, qP, qK, qN, qD⟩ := q; exact ⟨q0, qP, va_K.moved (u := U) (U := U.calling g mk a) (Vm.Alike.refl U.vm) qK, fun c hc => ⟨(qN c hc).1, nest_same (s := U) (U := U.calling g mk a) (qN c hc).1 rfl (qN c hc).2⟩, qD⟩, fun U hU hW => ⟨rfl, by rw [hU]; exact hP, va_K.moved hW.alike G.2.2.2.2.2.1, fun c hc => ⟨(G.2.2.2.2.2.2.1 c hc).1, nest_warm (G.2.2.2.2.2.2.1 c hc).1 hW (G.2.2.2.2.2.2.1 c hc).2⟩, hD.weaken (fun _ _ _ _ => trivial)⟩⟩ rfl rfl hl.1 rfl (lv_room hroom) dd ⟨hcs.1, hcs.2⟩) (fun r hr => k r hr H locs ls hP hD hS hl)
end XL
end
section
-- ===== PART A: goes FIRST, ahead of the names: the tables' words, and 'selects' of the private methods out of them =====
/-- a private method of a class that the tables say can be made, by its rows of tables_1 -/
def lw_okq (q : MethodName × Nat) : Prop := (q.1.cls ≠ "java/lang/invoke/MethodHandle" ∧ q.1.cls ≠ "java/lang/invoke/VarHandle") ∧ Cond.instantiable q.1.cls q.2 ∈ tables_1 ∧ Cond.privateMethod q.1 ∈ tables_1 ∧ Cond.instanceMethod q.1 ∈ tables_1
theorem lw_p0 : lw_okq (⟨"CranePlan$Search", "makeBest", "()Z"⟩, 9) := ⟨⟨by decide +kernel, by decide +kernel⟩, List.mem_of_getElem? (i := 138) (by decide +kernel), List.mem_of_getElem? (i := 199) (by decide +kernel), List.mem_of_getElem? (i := 200) (by decide +kernel)⟩
theorem lw_p1 : lw_okq (⟨"CranePlan$Search", "gather", "()V"⟩, 9) := ⟨⟨by decide +kernel, by decide +kernel⟩, List.mem_of_getElem? (i := 138) (by decide +kernel), List.mem_of_getElem? (i := 203) (by decide +kernel), List.mem_of_getElem? (i := 204) (by decide +kernel)⟩
theorem lw_p2 : lw_okq (⟨"CranePlan$Bays", "movesOf", "(I)I"⟩, 3) := ⟨⟨by decide +kernel, by decide +kernel⟩, List.mem_of_getElem? (i := 26) (by decide +kernel), List.mem_of_getElem? (i := 208) (by decide +kernel), List.mem_of_getElem? (i := 209) (by decide +kernel)⟩
theorem lw_p3 : lw_okq (⟨"CranePlan$Bays", "has", "(I)Z"⟩, 3) := ⟨⟨by decide +kernel, by decide +kernel⟩, List.mem_of_getElem? (i := 26) (by decide +kernel), List.mem_of_getElem? (i := 212) (by decide +kernel), List.mem_of_getElem? (i := 213) (by decide +kernel)⟩
theorem lw_p4 : lw_okq (⟨"CranePlan$Cranes", "isOut", "(I)Z"⟩, 6) := ⟨⟨by decide +kernel, by decide +kernel⟩, List.mem_of_getElem? (i := 46) (by decide +kernel), List.mem_of_getElem? (i := 216) (by decide +kernel), List.mem_of_getElem? (i := 217) (by decide +kernel)⟩
theorem lw_p5 : lw_okq (⟨"CranePlan$Cranes", "has", "(I)Z"⟩, 6) := ⟨⟨by decide +kernel, by decide +kernel⟩, List.mem_of_getElem? (i := 46) (by decide +kernel), List.mem_of_getElem? (i := 220) (by decide +kernel), List.mem_of_getElem? (i := 221) (by decide +kernel)⟩
theorem lw_p6 : lw_okq (⟨"CranePlan$Search", "share", "([I)V"⟩, 9) := ⟨⟨by decide +kernel, by decide +kernel⟩, List.mem_of_getElem? (i := 138) (by decide +kernel), List.mem_of_getElem? (i := 225) (by decide +kernel), List.mem_of_getElem? (i := 226) (by decide +kernel)⟩
theorem lw_p7 : lw_okq (⟨"CranePlan$Timetable", "clear", "()V"⟩, 12) := ⟨⟨by decide +kernel, by decide +kernel⟩, List.mem_of_getElem? (i := 87) (by decide +kernel), List.mem_of_getElem? (i := 229) (by decide +kernel), List.mem_of_getElem? (i := 230) (by decide +kernel)⟩
theorem lw_p8 : lw_okq (⟨"CranePlan$Timetable", "give", "(II)V"⟩, 12) := ⟨⟨by decide +kernel, by decide +kernel⟩, List.mem_of_getElem? (i := 87) (by decide +kernel), List.mem_of_getElem? (i := 234) (by decide +kernel), List.mem_of_getElem? (i := 235) (by decide +kernel)⟩
theorem lw_p9 : lw_okq (⟨"CranePlan$Timetable", "keepsApart", "()Z"⟩, 12) := ⟨⟨by decide +kernel, by decide +kernel⟩, List.mem_of_getElem? (i := 87) (by decide +kernel), List.mem_of_getElem? (i := 240) (by decide +kernel), List.mem_of_getElem? (i := 241) (by decide +kernel)⟩
theorem lw_p10 : lw_okq (⟨"CranePlan$Timetable", "tooNear", "(II)Z"⟩, 12) := ⟨⟨by decide +kernel, by decide +kernel⟩, List.mem_of_getElem? (i := 87) (by decide +kernel), List.mem_of_getElem? (i := 244) (by decide +kernel), List.mem_of_getElem? (i := 245) (by decide +kernel)⟩
theorem lw_p11 : lw_okq (⟨"CranePlan$Timetable", "setTimes", "()V"⟩, 12) := ⟨⟨by decide +kernel, by decide +kernel⟩, List.mem_of_getElem? (i := 87) (by decide +kernel), List.mem_of_getElem? (i := 248) (by decide +kernel), List.mem_of_getElem? (i := 249) (by decide +kernel)⟩
theorem lw_p12 : lw_okq (⟨"CranePlan$Timetable", "setTimesOf", "(II)V"⟩, 12) := ⟨⟨by decide +kernel, by decide +kernel⟩, List.mem_of_getElem? (i := 87) (by decide +kernel), List.mem_of_getElem? (i := 252) (by decide +kernel), List.mem_of_getElem? (i := 253) (by decide +kernel)⟩
theorem lw_p13 : lw_okq (⟨"CranePlan$Cranes", "timeFor", "(II)I"⟩, 6) := ⟨⟨by decide +kernel, by decide +kernel⟩, List.mem_of_getElem? (i := 46) (by decide +kernel), List.mem_of_getElem? (i := 258) (by decide +kernel), List.mem_of_getElem? (i := 259) (by decide +kernel)⟩
theorem lw_p14 : lw_okq (⟨"CranePlan$Timetable", "whenCame", "(II)I"⟩, 12) := ⟨⟨by decide +kernel, by decide +kernel⟩, List.mem_of_getElem? (i := 87) (by decide +kernel), List.mem_of_getElem? (i := 265) (by decide +kernel), List.mem_of_getElem? (i := 266) (by decide +kernel)⟩
theorem lw_p15 : lw_okq (⟨"CranePlan$Timetable", "isBetterThan", "(II)Z"⟩, 12) := ⟨⟨by decide +kernel, by decide +kernel⟩, List.mem_of_getElem? (i := 87) (by decide +kernel), List.mem_of_getElem? (i := 269) (by decide +kernel), List.mem_of_getElem? (i := 270) (by decide +kernel)⟩
def lw_privs_1 : List (MethodName × Nat) := [(⟨"CranePlan$Search", "makeBest", "()Z"⟩, 9), (⟨"CranePlan$Search", "gather", "()V"⟩, 9), (⟨"CranePlan$Bays", "movesOf", "(I)I"⟩, 3), (⟨"CranePlan$Bays", "has", "(I)Z"⟩, 3), (⟨"CranePlan$Cranes", "isOut", "(I)Z"⟩, 6), (⟨"CranePlan$Cranes", "has", "(I)Z"⟩, 6), (⟨"CranePlan$Search", "share", "([I)V"⟩, 9), (⟨"CranePlan$Timetable", "clear", "()V"⟩, 12), (⟨"CranePlan$Timetable", "give", "(II)V"⟩, 12), (⟨"CranePlan$Timetable", "keepsApart", "()Z"⟩, 12), (⟨"CranePlan$Timetable", "tooNear", "(II)Z"⟩, 12), (⟨"CranePlan$Timetable", "setTimes", "()V"⟩, 12), (⟨"CranePlan$Timetable", "setTimesOf", "(II)V"⟩, 12), (⟨"CranePlan$Cranes", "timeFor", "(II)I"⟩, 6), (⟨"CranePlan$Timetable", "whenCame", "(II)I"⟩, 12), (⟨"CranePlan$Timetable", "isBetterThan", "(II)Z"⟩, 12)]
theorem lw_r1 : ∀ q ∈ lw_privs_1, lw_okq q := List.forall_mem_cons.mpr ⟨lw_p0, List.forall_mem_cons.mpr ⟨lw_p1, List.forall_mem_cons.mpr ⟨lw_p2, List.forall_mem_cons.mpr ⟨lw_p3, List.forall_mem_cons.mpr ⟨lw_p4, List.forall_mem_cons.mpr ⟨lw_p5, List.forall_mem_cons.mpr ⟨lw_p6, List.forall_mem_cons.mpr ⟨lw_p7, List.forall_mem_cons.mpr ⟨lw_p8, List.forall_mem_cons.mpr ⟨lw_p9, List.forall_mem_cons.mpr ⟨lw_p10, List.forall_mem_cons.mpr ⟨lw_p11, List.forall_mem_cons.mpr ⟨lw_p12, List.forall_mem_cons.mpr ⟨lw_p13, List.forall_mem_cons.mpr ⟨lw_p14, List.forall_mem_cons.mpr ⟨lw_p15, fun _ h => absurd h List.not_mem_nil⟩⟩⟩⟩⟩⟩⟩⟩⟩⟩⟩⟩⟩⟩⟩⟩
theorem lw_p16 : lw_okq (⟨"CranePlan$Search", "nextChoice", "()Z"⟩, 9) := ⟨⟨by decide +kernel, by decide +kernel⟩, List.mem_of_getElem? (i := 138) (by decide +kernel), List.mem_of_getElem? (i := 276) (by decide +kernel), List.mem_of_getElem? (i := 277) (by decide +kernel)⟩
theorem lw_p17 : lw_okq (⟨"CranePlan$Timetable", "sortRows", "()V"⟩, 12) := ⟨⟨by decide +kernel, by decide +kernel⟩, List.mem_of_getElem? (i := 87) (by decide +kernel), List.mem_of_getElem? (i := 280) (by decide +kernel), List.mem_of_getElem? (i := 281) (by decide +kernel)⟩
theorem lw_p18 : lw_okq (⟨"CranePlan$Timetable", "beginsAhead", "(II)Z"⟩, 12) := ⟨⟨by decide +kernel, by decide +kernel⟩, List.mem_of_getElem? (i := 87) (by decide +kernel), List.mem_of_getElem? (i := 284) (by decide +kernel), List.mem_of_getElem? (i := 285) (by decide +kernel)⟩
theorem lw_p19 : lw_okq (⟨"CranePlan$Cranes", "able", "()I"⟩, 6) := ⟨⟨by decide +kernel, by decide +kernel⟩, List.mem_of_getElem? (i := 46) (by decide +kernel), List.mem_of_getElem? (i := 292) (by decide +kernel), List.mem_of_getElem? (i := 293) (by decide +kernel)⟩
theorem lw_p20 : lw_okq (⟨"CranePlan$Bays", "allMoves", "()I"⟩, 3) := ⟨⟨by decide +kernel, by decide +kernel⟩, List.mem_of_getElem? (i := 26) (by decide +kernel), List.mem_of_getElem? (i := 297) (by decide +kernel), List.mem_of_getElem? (i := 298) (by decide +kernel)⟩
theorem lw_p21 : lw_okq (⟨"CranePlan$Cranes", "timeTogether", "(I)I"⟩, 6) := ⟨⟨by decide +kernel, by decide +kernel⟩, List.mem_of_getElem? (i := 46) (by decide +kernel), List.mem_of_getElem? (i := 302) (by decide +kernel), List.mem_of_getElem? (i := 303) (by decide +kernel)⟩
theorem lw_p22 : lw_okq (⟨"CranePlan$Cranes", "leastTime", "(I)I"⟩, 6) := ⟨⟨by decide +kernel, by decide +kernel⟩, List.mem_of_getElem? (i := 46) (by decide +kernel), List.mem_of_getElem? (i := 307) (by decide +kernel), List.mem_of_getElem? (i := 308) (by decide +kernel)⟩
theorem lw_p23 : lw_okq (⟨"java/lang/Throwable", "fillInStackTrace", "(I)Ljava/lang/Throwable;"⟩, 6) := ⟨⟨by decide +kernel, by decide +kernel⟩, List.mem_of_getElem? (i := 369) (by decide +kernel), List.mem_of_getElem? (i := 367) (by decide +kernel), List.mem_of_getElem? (i := 368) (by decide +kernel)⟩
theorem lw_p24 : lw_okq (⟨"CranePlan$Bays", "isFull", "()Z"⟩, 3) := ⟨⟨by decide +kernel, by decide +kernel⟩, List.mem_of_getElem? (i := 26) (by decide +kernel), List.mem_of_getElem? (i := 399) (by decide +kernel), List.mem_of_getElem? (i := 400) (by decide +kernel)⟩
theorem lw_p25 : lw_okq (⟨"CranePlan$Bays", "add", "(II)I"⟩, 3) := ⟨⟨by decide +kernel, by decide +kernel⟩, List.mem_of_getElem? (i := 26) (by decide +kernel), List.mem_of_getElem? (i := 419) (by decide +kernel), List.mem_of_getElem? (i := 420) (by decide +kernel)⟩
theorem lw_p26 : lw_okq (⟨"CranePlan$Cranes", "setRate", "(III)V"⟩, 6) := ⟨⟨by decide +kernel, by decide +kernel⟩, List.mem_of_getElem? (i := 46) (by decide +kernel), List.mem_of_getElem? (i := 451) (by decide +kernel), List.mem_of_getElem? (i := 452) (by decide +kernel)⟩
theorem lw_p27 : lw_okq (⟨"CranePlan$Timetable", "bayWorkedAt", "(II)I"⟩, 12) := ⟨⟨by decide +kernel, by decide +kernel⟩, List.mem_of_getElem? (i := 87) (by decide +kernel), List.mem_of_getElem? (i := 479) (by decide +kernel), List.mem_of_getElem? (i := 480) (by decide +kernel)⟩
theorem lw_p28 : lw_okq (⟨"CranePlan$Timetable", "bayCameTo", "(II)I"⟩, 12) := ⟨⟨by decide +kernel, by decide +kernel⟩, List.mem_of_getElem? (i := 87) (by decide +kernel), List.mem_of_getElem? (i := 491) (by decide +kernel), List.mem_of_getElem? (i := 492) (by decide +kernel)⟩
theorem lw_p29 : lw_okq (⟨"CranePlan$Timetable", "doneBy", "(II)I"⟩, 12) := ⟨⟨by decide +kernel, by decide +kernel⟩, List.mem_of_getElem? (i := 87) (by decide +kernel), List.mem_of_getElem? (i := 504) (by decide +kernel), List.mem_of_getElem? (i := 505) (by decide +kernel)⟩
theorem lw_p30 : lw_okq (⟨"CranePlan$Cranes", "movesIn", "(II)I"⟩, 6) := ⟨⟨by decide +kernel, by decide +kernel⟩, List.mem_of_getElem? (i := 46) (by decide +kernel), List.mem_of_getElem? (i := 508) (by decide +kernel), List.mem_of_getElem? (i := 509) (by decide +kernel)⟩
theorem lw_p31 : lw_okq (⟨"CranePlan$Bays", "takeOff", "(II)V"⟩, 3) := ⟨⟨by decide +kernel, by decide +kernel⟩, List.mem_of_getElem? (i := 26) (by decide +kernel), List.mem_of_getElem? (i := 512) (by decide +kernel), List.mem_of_getElem? (i := 513) (by decide +kernel)⟩
def lw_privs_2 : List (MethodName × Nat) := [(⟨"CranePlan$Search", "nextChoice", "()Z"⟩, 9), (⟨"CranePlan$Timetable", "sortRows", "()V"⟩, 12), (⟨"CranePlan$Timetable", "beginsAhead", "(II)Z"⟩, 12), (⟨"CranePlan$Cranes", "able", "()I"⟩, 6), (⟨"CranePlan$Bays", "allMoves", "()I"⟩, 3), (⟨"CranePlan$Cranes", "timeTogether", "(I)I"⟩, 6), (⟨"CranePlan$Cranes", "leastTime", "(I)I"⟩, 6), (⟨"java/lang/Throwable", "fillInStackTrace", "(I)Ljava/lang/Throwable;"⟩, 6), (⟨"CranePlan$Bays", "isFull", "()Z"⟩, 3), (⟨"CranePlan$Bays", "add", "(II)I"⟩, 3), (⟨"CranePlan$Cranes", "setRate", "(III)V"⟩, 6), (⟨"CranePlan$Timetable", "bayWorkedAt", "(II)I"⟩, 12), (⟨"CranePlan$Timetable", "bayCameTo", "(II)I"⟩, 12), (⟨"CranePlan$Timetable", "doneBy", "(II)I"⟩, 12), (⟨"CranePlan$Cranes", "movesIn", "(II)I"⟩, 6), (⟨"CranePlan$Bays", "takeOff", "(II)V"⟩, 3)]
theorem lw_r2 : ∀ q ∈ lw_privs_2, lw_okq q := List.forall_mem_cons.mpr ⟨lw_p16, List.forall_mem_cons.mpr ⟨lw_p17, List.forall_mem_cons.mpr ⟨lw_p18, List.forall_mem_cons.mpr ⟨lw_p19, List.forall_mem_cons.mpr ⟨lw_p20, List.forall_mem_cons.mpr ⟨lw_p21, List.forall_mem_cons.mpr ⟨lw_p22, List.forall_mem_cons.mpr ⟨lw_p23, List.forall_mem_cons.mpr ⟨lw_p24, List.forall_mem_cons.mpr ⟨lw_p25, List.forall_mem_cons.mpr ⟨lw_p26, List.forall_mem_cons.mpr ⟨lw_p27, List.forall_mem_cons.mpr ⟨lw_p28, List.forall_mem_cons.mpr ⟨lw_p29, List.forall_mem_cons.mpr ⟨lw_p30, List.forall_mem_cons.mpr ⟨lw_p31, fun _ h => absurd h List.not_mem_nil⟩⟩⟩⟩⟩⟩⟩⟩⟩⟩⟩⟩⟩⟩⟩⟩
theorem lw_p32 : lw_okq (⟨"CranePlan$Cranes", "putOut", "(I)V"⟩, 6) := ⟨⟨by decide +kernel, by decide +kernel⟩, List.mem_of_getElem? (i := 46) (by decide +kernel), List.mem_of_getElem? (i := 517) (by decide +kernel), List.mem_of_getElem? (i := 518) (by decide +kernel)⟩
theorem lw_p33 : lw_okq (⟨"CranePlan$Timetable", "ofRow", "(II)I"⟩, 12) := ⟨⟨by decide +kernel, by decide +kernel⟩, List.mem_of_getElem? (i := 87) (by decide +kernel), List.mem_of_getElem? (i := 530) (by decide +kernel), List.mem_of_getElem? (i := 531) (by decide +kernel)⟩
theorem lw_p34 : lw_okq (⟨"CranePlanModel", "refuse", "(I)I"⟩, 16) := ⟨⟨by decide +kernel, by decide +kernel⟩, List.mem_of_getElem? (i := 543) (by decide +kernel), List.mem_of_getElem? (i := 609) (by decide +kernel), List.mem_of_getElem? (i := 610) (by decide +kernel)⟩
theorem lw_p35 : lw_okq (⟨"CranePlanModel", "isCrane", "(I)Z"⟩, 16) := ⟨⟨by decide +kernel, by decide +kernel⟩, List.mem_of_getElem? (i := 543) (by decide +kernel), List.mem_of_getElem? (i := 617) (by decide +kernel), List.mem_of_getElem? (i := 618) (by decide +kernel)⟩
theorem lw_p36 : lw_okq (⟨"CranePlanModel", "search", "()I"⟩, 16) := ⟨⟨by decide +kernel, by decide +kernel⟩, List.mem_of_getElem? (i := 543) (by decide +kernel), List.mem_of_getElem? (i := 629) (by decide +kernel), List.mem_of_getElem? (i := 630) (by decide +kernel)⟩
theorem lw_p37 : lw_okq (⟨"CranePlanModel", "all", "(I)I"⟩, 16) := ⟨⟨by decide +kernel, by decide +kernel⟩, List.mem_of_getElem? (i := 543) (by decide +kernel), List.mem_of_getElem? (i := 633) (by decide +kernel), List.mem_of_getElem? (i := 634) (by decide +kernel)⟩
theorem lw_p38 : lw_okq (⟨"CranePlanModel", "isAllowed", "()Z"⟩, 16) := ⟨⟨by decide +kernel, by decide +kernel⟩, List.mem_of_getElem? (i := 543) (by decide +kernel), List.mem_of_getElem? (i := 638) (by decide +kernel), List.mem_of_getElem? (i := 639) (by decide +kernel)⟩
theorem lw_p39 : lw_okq (⟨"CranePlanModel", "spans", "()Z"⟩, 16) := ⟨⟨by decide +kernel, by decide +kernel⟩, List.mem_of_getElem? (i := 543) (by decide +kernel), List.mem_of_getElem? (i := 642) (by decide +kernel), List.mem_of_getElem? (i := 643) (by decide +kernel)⟩
theorem lw_p40 : lw_okq (⟨"CranePlanModel", "times", "()I"⟩, 16) := ⟨⟨by decide +kernel, by decide +kernel⟩, List.mem_of_getElem? (i := 543) (by decide +kernel), List.mem_of_getElem? (i := 646) (by decide +kernel), List.mem_of_getElem? (i := 647) (by decide +kernel)⟩
theorem lw_p41 : lw_okq (⟨"CranePlanModel", "takes", "(II)I"⟩, 16) := ⟨⟨by decide +kernel, by decide +kernel⟩, List.mem_of_getElem? (i := 543) (by decide +kernel), List.mem_of_getElem? (i := 650) (by decide +kernel), List.mem_of_getElem? (i := 651) (by decide +kernel)⟩
theorem lw_p42 : lw_okq (⟨"CranePlanModel", "steps", "()I"⟩, 16) := ⟨⟨by decide +kernel, by decide +kernel⟩, List.mem_of_getElem? (i := 543) (by decide +kernel), List.mem_of_getElem? (i := 654) (by decide +kernel), List.mem_of_getElem? (i := 655) (by decide +kernel)⟩
theorem lw_p43 : lw_okq (⟨"CranePlanModel", "goesOn", "()Z"⟩, 16) := ⟨⟨by decide +kernel, by decide +kernel⟩, List.mem_of_getElem? (i := 543) (by decide +kernel), List.mem_of_getElem? (i := 658) (by decide +kernel), List.mem_of_getElem? (i := 659) (by decide +kernel)⟩
theorem lw_p44 : lw_okq (⟨"CranePlanModel", "working", "()I"⟩, 16) := ⟨⟨by decide +kernel, by decide +kernel⟩, List.mem_of_getElem? (i := 543) (by decide +kernel), List.mem_of_getElem? (i := 662) (by decide +kernel), List.mem_of_getElem? (i := 663) (by decide +kernel)⟩
theorem lw_p45 : lw_okq (⟨"CranePlanModel", "lays", "()I"⟩, 16) := ⟨⟨by decide +kernel, by decide +kernel⟩, List.mem_of_getElem? (i := 543) (by decide +kernel), List.mem_of_getElem? (i := 670) (by decide +kernel), List.mem_of_getElem? (i := 671) (by decide +kernel)⟩
theorem lw_p46 : lw_okq (⟨"CranePlanModel", "ahead", "(I)I"⟩, 16) := ⟨⟨by decide +kernel, by decide +kernel⟩, List.mem_of_getElem? (i := 543) (by decide +kernel), List.mem_of_getElem? (i := 690) (by decide +kernel), List.mem_of_getElem? (i := 691) (by decide +kernel)⟩
def lw_privs_3 : List (MethodName × Nat) := [(⟨"CranePlan$Cranes", "putOut", "(I)V"⟩, 6), (⟨"CranePlan$Timetable", "ofRow", "(II)I"⟩, 12), (⟨"CranePlanModel", "refuse", "(I)I"⟩, 16), (⟨"CranePlanModel", "isCrane", "(I)Z"⟩, 16), (⟨"CranePlanModel", "search", "()I"⟩, 16), (⟨"CranePlanModel", "all", "(I)I"⟩, 16), (⟨"CranePlanModel", "isAllowed", "()Z"⟩, 16), (⟨"CranePlanModel", "spans", "()Z"⟩, 16), (⟨"CranePlanModel", "times", "()I"⟩, 16), (⟨"CranePlanModel", "takes", "(II)I"⟩, 16), (⟨"CranePlanModel", "steps", "()I"⟩, 16), (⟨"CranePlanModel", "goesOn", "()Z"⟩, 16), (⟨"CranePlanModel", "working", "()I"⟩, 16), (⟨"CranePlanModel", "lays", "()I"⟩, 16), (⟨"CranePlanModel", "ahead", "(I)I"⟩, 16)]
theorem lw_r3 : ∀ q ∈ lw_privs_3, lw_okq q := List.forall_mem_cons.mpr ⟨lw_p32, List.forall_mem_cons.mpr ⟨lw_p33, List.forall_mem_cons.mpr ⟨lw_p34, List.forall_mem_cons.mpr ⟨lw_p35, List.forall_mem_cons.mpr ⟨lw_p36, List.forall_mem_cons.mpr ⟨lw_p37, List.forall_mem_cons.mpr ⟨lw_p38, List.forall_mem_cons.mpr ⟨lw_p39, List.forall_mem_cons.mpr ⟨lw_p40, List.forall_mem_cons.mpr ⟨lw_p41, List.forall_mem_cons.mpr ⟨lw_p42, List.forall_mem_cons.mpr ⟨lw_p43, List.forall_mem_cons.mpr ⟨lw_p44, List.forall_mem_cons.mpr ⟨lw_p45, List.forall_mem_cons.mpr ⟨lw_p46, fun _ h => absurd h List.not_mem_nil⟩⟩⟩⟩⟩⟩⟩⟩⟩⟩⟩⟩⟩⟩⟩
def lw_privs : List (MethodName × Nat) := lw_privs_1 ++ (lw_privs_2 ++ (lw_privs_3))
def lw_tbl : List Cond := k2_sels lw_privs ++ tables_1
theorem lw_privs_ok : ∀ q ∈ lw_privs, lw_okq q := by
  show ∀ q ∈ lw_privs_1 ++ (lw_privs_2 ++ (lw_privs_3)), lw_okq q
  exact List.forall_mem_append.mpr ⟨lw_r1, List.forall_mem_append.mpr ⟨lw_r2, lw_r3⟩⟩
end
section
/-! NAMES: classes, fields, methods, words (made by wip/whole/tools/names.py out of the claim's own listing) -/
def bigW : List Cond := lw_tbl.filter goodWord
def nwW : List Cond := lw_tbl.filter isNest
theorem inB {w : Cond} (i : Nat) (h : lw_tbl[i]? = some w) (hg : goodWord w = true) : w ∈ bigW := List.mem_filter.mpr ⟨List.mem_of_getElem? h, hg⟩
theorem inN {w : Cond} (i : Nat) (h : lw_tbl[i]? = some w) (hg : isNest w = true) : w ∈ nwW := List.mem_filter.mpr ⟨List.mem_of_getElem? h, hg⟩
theorem bigW_good {w : Cond} (h : w ∈ bigW) : (w.onTables && w.keeps) = true ∨ ∃ ty, w = .arrayClass ty := good_of_word (List.mem_filter.mp h).2
def RB : String := "CranePlan$Bays"
def FB : u_T := fun k => match k with
  | 0 => ("CranePlan$Bays", "hatch", "[I", true)
  | 1 => ("CranePlan$Bays", "work", "[I", true)
  | _ => ("CranePlan$Bays", "total", "I", false)
def tB : Nat → FieldType := fun k => match k with
  | 0 => (.array .int)
  | 1 => (.array .int)
  | _ => .int
abbrev NB : Nat := 3
def RK : String := "CranePlan$Cranes"
def FK : u_T := fun k => match k with
  | 0 => ("CranePlan$Cranes", "total", "I", true)
  | 1 => ("CranePlan$Cranes", "gap", "I", true)
  | 2 => ("CranePlan$Cranes", "moves", "[I", true)
  | 3 => ("CranePlan$Cranes", "minutes", "[I", true)
  | 4 => ("CranePlan$Cranes", "out", "[Z", true)
  | _ => ("CranePlan$Cranes", "stepMinutes", "I", false)
def tK : Nat → FieldType := fun k => match k with
  | 0 => .int
  | 1 => .int
  | 2 => (.array .int)
  | 3 => (.array .int)
  | 4 => (.array .boolean)
  | _ => .int
abbrev NK : Nat := 6
def RS : String := "CranePlan$Search"
def FS : u_T := fun k => match k with
  | 0 => ("CranePlan$Search", "bays", "LCranePlan$Bays;", true)
  | 1 => ("CranePlan$Search", "cranes", "LCranePlan$Cranes;", true)
  | 2 => ("CranePlan$Search", "timetable", "LCranePlan$Timetable;", true)
  | 3 => ("CranePlan$Search", "busy", "[I", true)
  | 4 => ("CranePlan$Search", "able", "[I", true)
  | 5 => ("CranePlan$Search", "choice", "[I", true)
  | 6 => ("CranePlan$Search", "best", "[I", true)
  | 7 => ("CranePlan$Search", "busyBays", "I", false)
  | _ => ("CranePlan$Search", "ableCranes", "I", false)
def tS : Nat → FieldType := fun k => match k with
  | 0 => (.object "CranePlan$Bays")
  | 1 => (.object "CranePlan$Cranes")
  | 2 => (.object "CranePlan$Timetable")
  | 3 => (.array .int)
  | 4 => (.array .int)
  | 5 => (.array .int)
  | 6 => (.array .int)
  | 7 => .int
  | _ => .int
abbrev NS : Nat := 9
def RT : String := "CranePlan$Timetable"
def FT : u_T := fun k => match k with
  | 0 => ("CranePlan$Timetable", "bays", "LCranePlan$Bays;", true)
  | 1 => ("CranePlan$Timetable", "cranes", "LCranePlan$Cranes;", true)
  | 2 => ("CranePlan$Timetable", "craneOf", "[I", true)
  | 3 => ("CranePlan$Timetable", "begin", "[I", true)
  | 4 => ("CranePlan$Timetable", "end", "[I", true)
  | 5 => ("CranePlan$Timetable", "first", "[I", true)
  | 6 => ("CranePlan$Timetable", "last", "[I", true)
  | 7 => ("CranePlan$Timetable", "came", "[[I", true)
  | 8 => ("CranePlan$Timetable", "bayOfRow", "[I", true)
  | 9 => ("CranePlan$Timetable", "rows", "I", false)
  | 10 => ("CranePlan$Timetable", "finish", "I", false)
  | _ => ("CranePlan$Timetable", "steps", "I", false)
def tT : Nat → FieldType := fun k => match k with
  | 0 => (.object "CranePlan$Bays")
  | 1 => (.object "CranePlan$Cranes")
  | 2 => (.array .int)
  | 3 => (.array .int)
  | 4 => (.array .int)
  | 5 => (.array .int)
  | 6 => (.array .int)
  | 7 => (.array (.array .int))
  | 8 => (.array .int)
  | 9 => .int
  | 10 => .int
  | _ => .int
abbrev NT : Nat := 12
def RP : String := "CranePlan"
def FP : u_T := fun k => match k with
  | 0 => ("CranePlan", "bays", "LCranePlan$Bays;", true)
  | 1 => ("CranePlan", "cranes", "LCranePlan$Cranes;", true)
  | 2 => ("CranePlan", "timetable", "LCranePlan$Timetable;", true)
  | 3 => ("CranePlan", "search", "LCranePlan$Search;", true)
  | _ => ("CranePlan", "planned", "Z", false)
def tP : Nat → FieldType := fun k => match k with
  | 0 => (.object "CranePlan$Bays")
  | 1 => (.object "CranePlan$Cranes")
  | 2 => (.object "CranePlan$Timetable")
  | 3 => (.object "CranePlan$Search")
  | _ => .boolean
abbrev NP : Nat := 5
def RM : String := "CranePlanModel"
def FM : u_T := fun k => match k with
  | 0 => ("CranePlanModel", "thrown", "I", false)
  | 1 => ("CranePlanModel", "cranes", "I", true)
  | 2 => ("CranePlanModel", "gap", "I", true)
  | 3 => ("CranePlanModel", "bays", "I", false)
  | 4 => ("CranePlanModel", "hatch", "[I", true)
  | 5 => ("CranePlanModel", "work", "[I", true)
  | 6 => ("CranePlanModel", "moves", "[I", true)
  | 7 => ("CranePlanModel", "minutes", "[I", true)
  | 8 => ("CranePlanModel", "out", "[Z", true)
  | 9 => ("CranePlanModel", "step", "I", false)
  | 10 => ("CranePlanModel", "planned", "Z", false)
  | 11 => ("CranePlanModel", "tried", "[I", true)
  | 12 => ("CranePlanModel", "best", "[I", true)
  | 13 => ("CranePlanModel", "come", "[I", true)
  | 14 => ("CranePlanModel", "first", "[I", true)
  | _ => ("CranePlanModel", "last", "[I", true)
def tM : Nat → FieldType := fun k => match k with
  | 0 => .int
  | 1 => .int
  | 2 => .int
  | 3 => .int
  | 4 => (.array .int)
  | 5 => (.array .int)
  | 6 => (.array .int)
  | 7 => (.array .int)
  | 8 => (.array .boolean)
  | 9 => .int
  | 10 => .boolean
  | 11 => (.array .int)
  | 12 => (.array .int)
  | 13 => (.array .int)
  | 14 => (.array .int)
  | _ => (.array .int)
abbrev NM : Nat := 16
def RL : String := "CranePlanLaw"
abbrev vCl : List vw_C := [(RB, FB, NB), (RK, FK, NK), (RS, FS, NS), (RT, FT, NT), (RP, FP, NP), (RM, FM, NM)]
theorem nB_ok : ∀ a, a < NB → ∀ b, b < NB → a ≠ b → (FB a).2.1 ≠ (FB b).2.1 := by decide +kernel
theorem tB_ok : ∀ k, k < NB → parseFieldDescriptor (FB k).2.2.1 = some (tB k) := by decide +kernel
theorem iB_ok : ∀ w ∈ u_ws RB FB NB, w ∈ bigW := by decide +kernel
theorem nK_ok : ∀ a, a < NK → ∀ b, b < NK → a ≠ b → (FK a).2.1 ≠ (FK b).2.1 := by decide +kernel
theorem tK_ok : ∀ k, k < NK → parseFieldDescriptor (FK k).2.2.1 = some (tK k) := by decide +kernel
theorem iK_ok : ∀ w ∈ u_ws RK FK NK, w ∈ bigW := by decide +kernel
theorem nS_ok : ∀ a, a < NS → ∀ b, b < NS → a ≠ b → (FS a).2.1 ≠ (FS b).2.1 := by decide +kernel
theorem tS_ok : ∀ k, k < NS → parseFieldDescriptor (FS k).2.2.1 = some (tS k) := by decide +kernel
theorem iS_ok : ∀ w ∈ u_ws RS FS NS, w ∈ bigW := by decide +kernel
theorem nT_ok : ∀ a, a < NT → ∀ b, b < NT → a ≠ b → (FT a).2.1 ≠ (FT b).2.1 := by decide +kernel
theorem tT_ok : ∀ k, k < NT → parseFieldDescriptor (FT k).2.2.1 = some (tT k) := by decide +kernel
theorem iT_ok : ∀ w ∈ u_ws RT FT NT, w ∈ bigW := by decide +kernel
theorem nP_ok : ∀ a, a < NP → ∀ b, b < NP → a ≠ b → (FP a).2.1 ≠ (FP b).2.1 := by decide +kernel
theorem tP_ok : ∀ k, k < NP → parseFieldDescriptor (FP k).2.2.1 = some (tP k) := by decide +kernel
theorem iP_ok : ∀ w ∈ u_ws RP FP NP, w ∈ bigW := by decide +kernel
theorem nM_ok : ∀ a, a < NM → ∀ b, b < NM → a ≠ b → (FM a).2.1 ≠ (FM b).2.1 := by decide +kernel
theorem tM_ok : ∀ k, k < NM → parseFieldDescriptor (FM k).2.2.1 = some (tM k) := by decide +kernel
theorem iM_ok : ∀ w ∈ u_ws RM FM NM, w ∈ bigW := by decide +kernel
abbrev bP_init : ByteArray := prog_1_method_1_code
def yP_init : MethodName := ⟨RP, "<init>", "(II)V"⟩
abbrev bP_bay : ByteArray := prog_1_method_2_code
def yP_bay : MethodName := ⟨RP, "bay", "(II)I"⟩
abbrev bP_rate : ByteArray := prog_1_method_3_code
def yP_rate : MethodName := ⟨RP, "rate", "(III)Z"⟩
abbrev bP_step : ByteArray := prog_1_method_4_code
def yP_step : MethodName := ⟨RP, "step", "(I)Z"⟩
abbrev bP_plan : ByteArray := prog_1_method_5_code
def yP_plan : MethodName := ⟨RP, "plan", "()I"⟩
abbrev bP_works : ByteArray := prog_1_method_6_code
def yP_works : MethodName := ⟨RP, "works", "(II)I"⟩
abbrev bP_where : ByteArray := prog_1_method_7_code
def yP_where : MethodName := ⟨RP, "where", "(II)I"⟩
abbrev bP_fails : ByteArray := prog_1_method_8_code
def yP_fails : MethodName := ⟨RP, "fails", "(II)I"⟩
abbrev bP_bound : ByteArray := prog_1_method_9_code
def yP_bound : MethodName := ⟨RP, "bound", "()I"⟩
abbrev bP_row : ByteArray := prog_1_method_10_code
def yP_row : MethodName := ⟨RP, "row", "(II)I"⟩
abbrev bP_look : ByteArray := prog_1_method_11_code
def yP_look : MethodName := ⟨RP, "look", "(II)I"⟩
abbrev bP_count : ByteArray := prog_1_method_12_code
def yP_count : MethodName := ⟨RP, "count", "(I)I"⟩
abbrev bP_within : ByteArray := prog_1_method_13_code
def yP_within : MethodName := ⟨RP, "within", "(III)Z"⟩
abbrev bP_held : ByteArray := prog_1_method_14_code
def yP_held : MethodName := ⟨RP, "held", "(III)I"⟩
abbrev bP_dividedUp : ByteArray := prog_1_method_15_code
def yP_dividedUp : MethodName := ⟨RP, "dividedUp", "(JJ)J"⟩
abbrev bB_init : ByteArray := prog_2_method_1_code
def yB_init : MethodName := ⟨RB, "<init>", "()V"⟩
abbrev bB_has : ByteArray := prog_2_method_2_code
def yB_has : MethodName := ⟨RB, "has", "(I)Z"⟩
abbrev bB_isFull : ByteArray := prog_2_method_3_code
def yB_isFull : MethodName := ⟨RB, "isFull", "()Z"⟩
abbrev bB_add : ByteArray := prog_2_method_4_code
def yB_add : MethodName := ⟨RB, "add", "(II)I"⟩
abbrev bB_movesOf : ByteArray := prog_2_method_5_code
def yB_movesOf : MethodName := ⟨RB, "movesOf", "(I)I"⟩
abbrev bB_allMoves : ByteArray := prog_2_method_6_code
def yB_allMoves : MethodName := ⟨RB, "allMoves", "()I"⟩
abbrev bB_takeOff : ByteArray := prog_2_method_7_code
def yB_takeOff : MethodName := ⟨RB, "takeOff", "(II)V"⟩
abbrev bK_init : ByteArray := prog_3_method_1_code
def yK_init : MethodName := ⟨RK, "<init>", "(II)V"⟩
abbrev bK_has : ByteArray := prog_3_method_2_code
def yK_has : MethodName := ⟨RK, "has", "(I)Z"⟩
abbrev bK_isOut : ByteArray := prog_3_method_3_code
def yK_isOut : MethodName := ⟨RK, "isOut", "(I)Z"⟩
abbrev bK_putOut : ByteArray := prog_3_method_4_code
def yK_putOut : MethodName := ⟨RK, "putOut", "(I)V"⟩
abbrev bK_setRate : ByteArray := prog_3_method_5_code
def yK_setRate : MethodName := ⟨RK, "setRate", "(III)V"⟩
abbrev bK_able : ByteArray := prog_3_method_6_code
def yK_able : MethodName := ⟨RK, "able", "()I"⟩
abbrev bK_timeFor : ByteArray := prog_3_method_7_code
def yK_timeFor : MethodName := ⟨RK, "timeFor", "(II)I"⟩
abbrev bK_movesIn : ByteArray := prog_3_method_8_code
def yK_movesIn : MethodName := ⟨RK, "movesIn", "(II)I"⟩
abbrev bK_leastTime : ByteArray := prog_3_method_9_code
def yK_leastTime : MethodName := ⟨RK, "leastTime", "(I)I"⟩
abbrev bK_timeTogether : ByteArray := prog_3_method_10_code
def yK_timeTogether : MethodName := ⟨RK, "timeTogether", "(I)I"⟩
abbrev bS_init : ByteArray := prog_4_method_1_code
def yS_init : MethodName := ⟨RS, "<init>", "(LCranePlan$Bays;LCranePlan$Cranes;LCranePlan$Timetable;)V"⟩
abbrev bS_makeBest : ByteArray := prog_4_method_2_code
def yS_makeBest : MethodName := ⟨RS, "makeBest", "()Z"⟩
abbrev bS_gather : ByteArray := prog_4_method_3_code
def yS_gather : MethodName := ⟨RS, "gather", "()V"⟩
abbrev bS_share : ByteArray := prog_4_method_4_code
def yS_share : MethodName := ⟨RS, "share", "([I)V"⟩
abbrev bS_nextChoice : ByteArray := prog_4_method_5_code
def yS_nextChoice : MethodName := ⟨RS, "nextChoice", "()Z"⟩
abbrev bT_init : ByteArray := prog_5_method_1_code
def yT_init : MethodName := ⟨RT, "<init>", "(LCranePlan$Bays;LCranePlan$Cranes;)V"⟩
abbrev bT_clear : ByteArray := prog_5_method_2_code
def yT_clear : MethodName := ⟨RT, "clear", "()V"⟩
abbrev bT_give : ByteArray := prog_5_method_3_code
def yT_give : MethodName := ⟨RT, "give", "(II)V"⟩
abbrev bT_keepsApart : ByteArray := prog_5_method_4_code
def yT_keepsApart : MethodName := ⟨RT, "keepsApart", "()Z"⟩
abbrev bT_tooNear : ByteArray := prog_5_method_5_code
def yT_tooNear : MethodName := ⟨RT, "tooNear", "(II)Z"⟩
abbrev bT_setTimes : ByteArray := prog_5_method_6_code
def yT_setTimes : MethodName := ⟨RT, "setTimes", "()V"⟩
abbrev bT_setTimesOf : ByteArray := prog_5_method_7_code
def yT_setTimesOf : MethodName := ⟨RT, "setTimesOf", "(II)V"⟩
abbrev bT_whenCame : ByteArray := prog_5_method_8_code
def yT_whenCame : MethodName := ⟨RT, "whenCame", "(II)I"⟩
abbrev bT_isBetterThan : ByteArray := prog_5_method_9_code
def yT_isBetterThan : MethodName := ⟨RT, "isBetterThan", "(II)Z"⟩
abbrev bT_sortRows : ByteArray := prog_5_method_10_code
def yT_sortRows : MethodName := ⟨RT, "sortRows", "()V"⟩
abbrev bT_beginsAhead : ByteArray := prog_5_method_11_code
def yT_beginsAhead : MethodName := ⟨RT, "beginsAhead", "(II)Z"⟩
abbrev bT_ofRow : ByteArray := prog_5_method_12_code
def yT_ofRow : MethodName := ⟨RT, "ofRow", "(II)I"⟩
abbrev bT_bayWorkedAt : ByteArray := prog_5_method_13_code
def yT_bayWorkedAt : MethodName := ⟨RT, "bayWorkedAt", "(II)I"⟩
abbrev bT_bayCameTo : ByteArray := prog_5_method_14_code
def yT_bayCameTo : MethodName := ⟨RT, "bayCameTo", "(II)I"⟩
abbrev bT_doneBy : ByteArray := prog_5_method_15_code
def yT_doneBy : MethodName := ⟨RT, "doneBy", "(II)I"⟩
abbrev bM_init : ByteArray := prog_7_method_1_code
def yM_init : MethodName := ⟨RM, "<init>", "(II)V"⟩
abbrev bM_thrown : ByteArray := prog_7_method_2_code
def yM_thrown : MethodName := ⟨RM, "thrown", "()I"⟩
abbrev bM_refuse : ByteArray := prog_7_method_3_code
def yM_refuse : MethodName := ⟨RM, "refuse", "(I)I"⟩
abbrev bM_in : ByteArray := prog_7_method_4_code
def yM_in : MethodName := ⟨RM, "in", "(III)Z"⟩
abbrev bM_isCrane : ByteArray := prog_7_method_5_code
def yM_isCrane : MethodName := ⟨RM, "isCrane", "(I)Z"⟩
abbrev bM_bay : ByteArray := prog_7_method_6_code
def yM_bay : MethodName := ⟨RM, "bay", "(II)I"⟩
abbrev bM_rate : ByteArray := prog_7_method_7_code
def yM_rate : MethodName := ⟨RM, "rate", "(III)Z"⟩
abbrev bM_step : ByteArray := prog_7_method_8_code
def yM_step : MethodName := ⟨RM, "step", "(I)Z"⟩
abbrev bM_all : ByteArray := prog_7_method_9_code
def yM_all : MethodName := ⟨RM, "all", "(I)I"⟩
abbrev bM_takes : ByteArray := prog_7_method_10_code
def yM_takes : MethodName := ⟨RM, "takes", "(II)I"⟩
abbrev bM_spans : ByteArray := prog_7_method_11_code
def yM_spans : MethodName := ⟨RM, "spans", "()Z"⟩
abbrev bM_times : ByteArray := prog_7_method_12_code
def yM_times : MethodName := ⟨RM, "times", "()I"⟩
abbrev bM_steps : ByteArray := prog_7_method_13_code
def yM_steps : MethodName := ⟨RM, "steps", "()I"⟩
abbrev bM_goesOn : ByteArray := prog_7_method_14_code
def yM_goesOn : MethodName := ⟨RM, "goesOn", "()Z"⟩
abbrev bM_isAllowed : ByteArray := prog_7_method_15_code
def yM_isAllowed : MethodName := ⟨RM, "isAllowed", "()Z"⟩
abbrev bM_search : ByteArray := prog_7_method_16_code
def yM_search : MethodName := ⟨RM, "search", "()I"⟩
abbrev bM_plan : ByteArray := prog_7_method_17_code
def yM_plan : MethodName := ⟨RM, "plan", "()I"⟩
abbrev bM_lays : ByteArray := prog_7_method_18_code
def yM_lays : MethodName := ⟨RM, "lays", "()I"⟩
abbrev bM_works : ByteArray := prog_7_method_19_code
def yM_works : MethodName := ⟨RM, "works", "(II)I"⟩
abbrev bM_where : ByteArray := prog_7_method_20_code
def yM_where : MethodName := ⟨RM, "where", "(II)I"⟩
abbrev bM_fails : ByteArray := prog_7_method_21_code
def yM_fails : MethodName := ⟨RM, "fails", "(II)I"⟩
abbrev bM_working : ByteArray := prog_7_method_22_code
def yM_working : MethodName := ⟨RM, "working", "()I"⟩
abbrev bM_bound : ByteArray := prog_7_method_23_code
def yM_bound : MethodName := ⟨RM, "bound", "()I"⟩
abbrev bM_row : ByteArray := prog_7_method_24_code
def yM_row : MethodName := ⟨RM, "row", "(II)I"⟩
abbrev bM_ahead : ByteArray := prog_7_method_25_code
def yM_ahead : MethodName := ⟨RM, "ahead", "(I)I"⟩
abbrev bM_look : ByteArray := prog_7_method_26_code
def yM_look : MethodName := ⟨RM, "look", "(II)I"⟩
abbrev bM_count : ByteArray := prog_7_method_27_code
def yM_count : MethodName := ⟨RM, "count", "(I)I"⟩
abbrev bL_cell : ByteArray := method_2_code
def yL_cell : MethodName := ⟨RL, "cell", "([II)I"⟩
abbrev bL_bay : ByteArray := method_3_code
def yL_bay : MethodName := ⟨RL, "bay", "(LCranePlan;II[J)I"⟩
abbrev bL_rate : ByteArray := method_4_code
def yL_rate : MethodName := ⟨RL, "rate", "(LCranePlan;III[J)I"⟩
abbrev bL_works : ByteArray := method_5_code
def yL_works : MethodName := ⟨RL, "works", "(LCranePlan;II[J)I"⟩
abbrev bL_where : ByteArray := method_6_code
def yL_where : MethodName := ⟨RL, "where", "(LCranePlan;II[J)I"⟩
abbrev bL_fails : ByteArray := method_7_code
def yL_fails : MethodName := ⟨RL, "fails", "(LCranePlan;II[J)I"⟩
abbrev bL_row : ByteArray := method_8_code
def yL_row : MethodName := ⟨RL, "row", "(LCranePlan;II[J)I"⟩
abbrev bL_look : ByteArray := method_9_code
def yL_look : MethodName := ⟨RL, "look", "(LCranePlan;II[J)I"⟩
theorem wd_47 : (Jvm.Cond.initialized "CranePlanLaw") ∈ bigW := inB 47 (by decide +kernel) rfl
theorem wd_48 : (Jvm.Cond.initialized "CranePlan") ∈ bigW := inB 48 (by decide +kernel) rfl
theorem wd_49 : (Jvm.Cond.initialized "CranePlan$Bays") ∈ bigW := inB 49 (by decide +kernel) rfl
theorem wd_50 : (Jvm.Cond.initialized "CranePlan$Cranes") ∈ bigW := inB 50 (by decide +kernel) rfl
theorem wd_51 : (Jvm.Cond.initialized "java/lang/Math") ∈ bigW := inB 51 (by decide +kernel) rfl
theorem wd_52 : (Jvm.Cond.initialized "java/util/Arrays") ∈ bigW := inB 52 (by decide +kernel) rfl
theorem wd_53 : (Jvm.Cond.initialized "CranePlan$Timetable") ∈ bigW := inB 53 (by decide +kernel) rfl
theorem wd_54 : (Jvm.Cond.initialized "CranePlan$Search") ∈ bigW := inB 54 (by decide +kernel) rfl
theorem wd_55 : (Jvm.Cond.initialized "CranePlanModel") ∈ bigW := inB 55 (by decide +kernel) rfl
theorem wd_56 : (Jvm.Cond.initialized "java/lang/Throwable") ∈ bigW := inB 56 (by decide +kernel) rfl
theorem wd_57 : (Jvm.Cond.initialized "java/lang/Exception") ∈ bigW := inB 57 (by decide +kernel) rfl
theorem wd_58 : (Jvm.Cond.initialized "java/lang/RuntimeException") ∈ bigW := inB 58 (by decide +kernel) rfl
theorem wd_59 : (Jvm.Cond.initialized "java/lang/IllegalArgumentException") ∈ bigW := inB 59 (by decide +kernel) rfl
theorem wd_60 : (Jvm.Cond.initialized "java/lang/IllegalStateException") ∈ bigW := inB 60 (by decide +kernel) rfl
theorem wd_61 : (Jvm.Cond.initialized "java/lang/ArithmeticException") ∈ bigW := inB 61 (by decide +kernel) rfl
theorem wd_62 : (Jvm.Cond.initialized "java/lang/System") ∈ bigW := inB 62 (by decide +kernel) rfl
theorem wd_63 : (Jvm.Cond.initialized "java/lang/IndexOutOfBoundsException") ∈ bigW := inB 63 (by decide +kernel) rfl
theorem wd_64 : (Jvm.Cond.classLink "CranePlanLaw" (8 : Nat) "CranePlan") ∈ bigW := inB 64 (by decide +kernel) rfl
theorem wd_65 : (Jvm.Cond.instantiable "CranePlan" (5 : Nat)) ∈ bigW := inB 65 (by decide +kernel) rfl
theorem wd_66 : (Jvm.Cond.methodLink "CranePlanLaw" (46 : Nat) ({ cls := "CranePlan", name := "<init>", desc := "(II)V" } : Jvm.MethodName)) ∈ bigW := inB 66 (by decide +kernel) rfl
theorem wd_67 : (Jvm.Cond.instanceMethod ({ cls := "CranePlan", name := "<init>", desc := "(II)V" } : Jvm.MethodName)) ∈ bigW := inB 67 (by decide +kernel) rfl
theorem wd_68 : (Jvm.Cond.code ({ cls := "CranePlan", name := "<init>", desc := "(II)V" } : Jvm.MethodName) prog_1_method_1_code (3 : Nat) (Option.none : Option Jvm.ClassFile.FieldType)) ∈ bigW := inB 68 (by decide +kernel) rfl
theorem wd_69 : (Jvm.Cond.methodLink "CranePlan" (1 : Nat) ({ cls := "java/lang/Object", name := "<init>", desc := "()V" } : Jvm.MethodName)) ∈ bigW := inB 69 (by decide +kernel) rfl
theorem wd_70 : (Jvm.Cond.instanceMethod ({ cls := "java/lang/Object", name := "<init>", desc := "()V" } : Jvm.MethodName)) ∈ bigW := inB 70 (by decide +kernel) rfl
theorem wd_71 : (Jvm.Cond.code ({ cls := "java/lang/Object", name := "<init>", desc := "()V" } : Jvm.MethodName) object_method_1_code (1 : Nat) (Option.none : Option Jvm.ClassFile.FieldType)) ∈ bigW := inB 71 (by decide +kernel) rfl
theorem wd_72 : (Jvm.Cond.classLink "CranePlan" (7 : Nat) "CranePlan$Bays") ∈ bigW := inB 72 (by decide +kernel) rfl
theorem wd_73 : (Jvm.Cond.instantiable "CranePlan$Bays" (3 : Nat)) ∈ bigW := inB 73 (by decide +kernel) rfl
theorem nd_74 : (Jvm.Cond.methodLinkNest "CranePlan" (9 : Nat) ({ cls := "CranePlan$Bays", name := "<init>", desc := "()V" } : Jvm.MethodName) "CranePlan") ∈ nwW := inN 74 (by decide +kernel) rfl
theorem wd_75 : (Jvm.Cond.instanceMethod ({ cls := "CranePlan$Bays", name := "<init>", desc := "()V" } : Jvm.MethodName)) ∈ bigW := inB 75 (by decide +kernel) rfl
theorem wd_76 : (Jvm.Cond.code ({ cls := "CranePlan$Bays", name := "<init>", desc := "()V" } : Jvm.MethodName) prog_2_method_1_code (1 : Nat) (Option.none : Option Jvm.ClassFile.FieldType)) ∈ bigW := inB 76 (by decide +kernel) rfl
theorem wd_77 : (Jvm.Cond.methodLink "CranePlan$Bays" (3 : Nat) ({ cls := "java/lang/Object", name := "<init>", desc := "()V" } : Jvm.MethodName)) ∈ bigW := inB 77 (by decide +kernel) rfl
theorem wd_78 : (Jvm.Cond.fieldLink "CranePlan$Bays" (9 : Nat) "CranePlan$Bays" "hatch" "[I") ∈ bigW := inB 78 (by decide +kernel) rfl
theorem nd_79 : (Jvm.Cond.fieldLinkNest "CranePlan" (169 : Nat) "CranePlan$Bays" "hatch" "[I" "CranePlan") ∈ nwW := inN 79 (by decide +kernel) rfl
theorem wd_80 : (Jvm.Cond.fieldLink "CranePlan$Bays" (15 : Nat) "CranePlan$Bays" "work" "[I") ∈ bigW := inB 80 (by decide +kernel) rfl
theorem nd_81 : (Jvm.Cond.fieldLinkNest "CranePlan" (173 : Nat) "CranePlan$Bays" "work" "[I" "CranePlan") ∈ nwW := inN 81 (by decide +kernel) rfl
theorem wd_82 : (Jvm.Cond.fieldLink "CranePlan$Bays" (18 : Nat) "CranePlan$Bays" "total" "I") ∈ bigW := inB 82 (by decide +kernel) rfl
theorem nd_83 : (Jvm.Cond.fieldLinkNest "CranePlan" (120 : Nat) "CranePlan$Bays" "total" "I" "CranePlan") ∈ nwW := inN 83 (by decide +kernel) rfl
theorem wd_91 : (Jvm.Cond.arrayClass Jvm.ClassFile.FieldType.int) ∈ bigW := inB 91 (by decide +kernel) rfl
theorem wd_92 : (Jvm.Cond.classLink "CranePlan" (16 : Nat) "CranePlan$Cranes") ∈ bigW := inB 92 (by decide +kernel) rfl
theorem wd_93 : (Jvm.Cond.instantiable "CranePlan$Cranes" (6 : Nat)) ∈ bigW := inB 93 (by decide +kernel) rfl
theorem wd_94 : (Jvm.Cond.methodLink "CranePlan" (18 : Nat) ({ cls := "CranePlan", name := "held", desc := "(III)I" } : Jvm.MethodName)) ∈ bigW := inB 94 (by decide +kernel) rfl
theorem wd_95 : (Jvm.Cond.static ({ cls := "CranePlan", name := "held", desc := "(III)I" } : Jvm.MethodName)) ∈ bigW := inB 95 (by decide +kernel) rfl
theorem wd_96 : (Jvm.Cond.code ({ cls := "CranePlan", name := "held", desc := "(III)I" } : Jvm.MethodName) prog_1_method_14_code (3 : Nat) (Option.some Jvm.ClassFile.FieldType.int)) ∈ bigW := inB 96 (by decide +kernel) rfl
theorem wd_97 : (Jvm.Cond.methodLink "CranePlan" (182 : Nat) ({ cls := "java/lang/Math", name := "min", desc := "(II)I" } : Jvm.MethodName)) ∈ bigW := inB 97 (by decide +kernel) rfl
theorem wd_98 : (Jvm.Cond.static ({ cls := "java/lang/Math", name := "min", desc := "(II)I" } : Jvm.MethodName)) ∈ bigW := inB 98 (by decide +kernel) rfl
theorem wd_99 : (Jvm.Cond.code ({ cls := "java/lang/Math", name := "min", desc := "(II)I" } : Jvm.MethodName) prog_13_method_69_code (2 : Nat) (Option.some Jvm.ClassFile.FieldType.int)) ∈ bigW := inB 99 (by decide +kernel) rfl
theorem wd_100 : (Jvm.Cond.methodLink "CranePlan" (153 : Nat) ({ cls := "java/lang/Math", name := "max", desc := "(II)I" } : Jvm.MethodName)) ∈ bigW := inB 100 (by decide +kernel) rfl
theorem wd_101 : (Jvm.Cond.static ({ cls := "java/lang/Math", name := "max", desc := "(II)I" } : Jvm.MethodName)) ∈ bigW := inB 101 (by decide +kernel) rfl
theorem wd_102 : (Jvm.Cond.code ({ cls := "java/lang/Math", name := "max", desc := "(II)I" } : Jvm.MethodName) prog_13_method_65_code (2 : Nat) (Option.some Jvm.ClassFile.FieldType.int)) ∈ bigW := inB 102 (by decide +kernel) rfl
theorem nd_103 : (Jvm.Cond.methodLinkNest "CranePlan" (22 : Nat) ({ cls := "CranePlan$Cranes", name := "<init>", desc := "(II)V" } : Jvm.MethodName) "CranePlan") ∈ nwW := inN 103 (by decide +kernel) rfl
theorem wd_104 : (Jvm.Cond.instanceMethod ({ cls := "CranePlan$Cranes", name := "<init>", desc := "(II)V" } : Jvm.MethodName)) ∈ bigW := inB 104 (by decide +kernel) rfl
theorem wd_105 : (Jvm.Cond.code ({ cls := "CranePlan$Cranes", name := "<init>", desc := "(II)V" } : Jvm.MethodName) prog_3_method_1_code (3 : Nat) (Option.none : Option Jvm.ClassFile.FieldType)) ∈ bigW := inB 105 (by decide +kernel) rfl
theorem wd_106 : (Jvm.Cond.methodLink "CranePlan$Cranes" (3 : Nat) ({ cls := "java/lang/Object", name := "<init>", desc := "()V" } : Jvm.MethodName)) ∈ bigW := inB 106 (by decide +kernel) rfl
theorem wd_107 : (Jvm.Cond.methodLink "CranePlan$Cranes" (32 : Nat) ({ cls := "java/util/Arrays", name := "fill", desc := "([II)V" } : Jvm.MethodName)) ∈ bigW := inB 107 (by decide +kernel) rfl
theorem wd_108 : (Jvm.Cond.static ({ cls := "java/util/Arrays", name := "fill", desc := "([II)V" } : Jvm.MethodName)) ∈ bigW := inB 108 (by decide +kernel) rfl
theorem wd_109 : (Jvm.Cond.code ({ cls := "java/util/Arrays", name := "fill", desc := "([II)V" } : Jvm.MethodName) prog_18_method_103_code (4 : Nat) (Option.none : Option Jvm.ClassFile.FieldType)) ∈ bigW := inB 109 (by decide +kernel) rfl
theorem wd_110 : (Jvm.Cond.fieldLink "CranePlan$Cranes" (26 : Nat) "CranePlan$Cranes" "total" "I") ∈ bigW := inB 110 (by decide +kernel) rfl
theorem wd_111 : (Jvm.Cond.fieldLink "CranePlan$Cranes" (29 : Nat) "CranePlan$Cranes" "gap" "I") ∈ bigW := inB 111 (by decide +kernel) rfl
theorem nd_112 : (Jvm.Cond.fieldLinkNest "CranePlan$Timetable" (72 : Nat) "CranePlan$Cranes" "gap" "I" "CranePlan") ∈ nwW := inN 112 (by decide +kernel) rfl
theorem wd_113 : (Jvm.Cond.fieldLink "CranePlan$Cranes" (9 : Nat) "CranePlan$Cranes" "moves" "[I") ∈ bigW := inB 113 (by decide +kernel) rfl
theorem wd_114 : (Jvm.Cond.fieldLink "CranePlan$Cranes" (15 : Nat) "CranePlan$Cranes" "minutes" "[I") ∈ bigW := inB 114 (by decide +kernel) rfl
theorem wd_115 : (Jvm.Cond.fieldLink "CranePlan$Cranes" (18 : Nat) "CranePlan$Cranes" "out" "[Z") ∈ bigW := inB 115 (by decide +kernel) rfl
theorem wd_116 : (Jvm.Cond.fieldLink "CranePlan$Cranes" (22 : Nat) "CranePlan$Cranes" "stepMinutes" "I") ∈ bigW := inB 116 (by decide +kernel) rfl
theorem nd_117 : (Jvm.Cond.fieldLinkNest "CranePlan" (92 : Nat) "CranePlan$Cranes" "stepMinutes" "I" "CranePlan") ∈ nwW := inN 117 (by decide +kernel) rfl
theorem nd_118 : (Jvm.Cond.fieldLinkNest "CranePlan$Timetable" (95 : Nat) "CranePlan$Cranes" "stepMinutes" "I" "CranePlan") ∈ nwW := inN 118 (by decide +kernel) rfl
theorem wd_132 : (Jvm.Cond.arrayClass Jvm.ClassFile.FieldType.boolean) ∈ bigW := inB 132 (by decide +kernel) rfl
theorem wd_133 : (Jvm.Cond.classLink "CranePlan" (29 : Nat) "CranePlan$Timetable") ∈ bigW := inB 133 (by decide +kernel) rfl
theorem wd_134 : (Jvm.Cond.instantiable "CranePlan$Timetable" (12 : Nat)) ∈ bigW := inB 134 (by decide +kernel) rfl
theorem nd_135 : (Jvm.Cond.methodLinkNest "CranePlan" (31 : Nat) ({ cls := "CranePlan$Timetable", name := "<init>", desc := "(LCranePlan$Bays;LCranePlan$Cranes;)V" } : Jvm.MethodName) "CranePlan") ∈ nwW := inN 135 (by decide +kernel) rfl
theorem wd_136 : (Jvm.Cond.instanceMethod ({ cls := "CranePlan$Timetable", name := "<init>", desc := "(LCranePlan$Bays;LCranePlan$Cranes;)V" } : Jvm.MethodName)) ∈ bigW := inB 136 (by decide +kernel) rfl
theorem wd_137 : (Jvm.Cond.code ({ cls := "CranePlan$Timetable", name := "<init>", desc := "(LCranePlan$Bays;LCranePlan$Cranes;)V" } : Jvm.MethodName) prog_5_method_1_code (3 : Nat) (Option.none : Option Jvm.ClassFile.FieldType)) ∈ bigW := inB 137 (by decide +kernel) rfl
theorem wd_138 : (Jvm.Cond.methodLink "CranePlan$Timetable" (3 : Nat) ({ cls := "java/lang/Object", name := "<init>", desc := "()V" } : Jvm.MethodName)) ∈ bigW := inB 138 (by decide +kernel) rfl
theorem wd_139 : (Jvm.Cond.classLink "CranePlan$Timetable" (27 : Nat) "[[I") ∈ bigW := inB 139 (by decide +kernel) rfl
theorem wd_141 : (Jvm.Cond.fieldLink "CranePlan$Timetable" (45 : Nat) "CranePlan$Timetable" "bays" "LCranePlan$Bays;") ∈ bigW := inB 141 (by decide +kernel) rfl
theorem wd_142 : (Jvm.Cond.fieldLink "CranePlan$Timetable" (49 : Nat) "CranePlan$Timetable" "cranes" "LCranePlan$Cranes;") ∈ bigW := inB 142 (by decide +kernel) rfl
theorem wd_143 : (Jvm.Cond.fieldLink "CranePlan$Timetable" (9 : Nat) "CranePlan$Timetable" "craneOf" "[I") ∈ bigW := inB 143 (by decide +kernel) rfl
theorem nd_144 : (Jvm.Cond.fieldLinkNest "CranePlan" (176 : Nat) "CranePlan$Timetable" "craneOf" "[I" "CranePlan") ∈ nwW := inN 144 (by decide +kernel) rfl
theorem wd_145 : (Jvm.Cond.fieldLink "CranePlan$Timetable" (15 : Nat) "CranePlan$Timetable" "begin" "[I") ∈ bigW := inB 145 (by decide +kernel) rfl
theorem wd_146 : (Jvm.Cond.fieldLink "CranePlan$Timetable" (18 : Nat) "CranePlan$Timetable" "end" "[I") ∈ bigW := inB 146 (by decide +kernel) rfl
theorem wd_147 : (Jvm.Cond.fieldLink "CranePlan$Timetable" (21 : Nat) "CranePlan$Timetable" "first" "[I") ∈ bigW := inB 147 (by decide +kernel) rfl
theorem wd_148 : (Jvm.Cond.fieldLink "CranePlan$Timetable" (24 : Nat) "CranePlan$Timetable" "last" "[I") ∈ bigW := inB 148 (by decide +kernel) rfl
theorem wd_149 : (Jvm.Cond.fieldLink "CranePlan$Timetable" (29 : Nat) "CranePlan$Timetable" "came" "[[I") ∈ bigW := inB 149 (by decide +kernel) rfl
theorem wd_150 : (Jvm.Cond.fieldLink "CranePlan$Timetable" (32 : Nat) "CranePlan$Timetable" "bayOfRow" "[I") ∈ bigW := inB 150 (by decide +kernel) rfl
theorem wd_151 : (Jvm.Cond.fieldLink "CranePlan$Timetable" (35 : Nat) "CranePlan$Timetable" "rows" "I") ∈ bigW := inB 151 (by decide +kernel) rfl
theorem nd_152 : (Jvm.Cond.fieldLinkNest "CranePlan" (158 : Nat) "CranePlan$Timetable" "rows" "I" "CranePlan") ∈ nwW := inN 152 (by decide +kernel) rfl
theorem wd_153 : (Jvm.Cond.fieldLink "CranePlan$Timetable" (39 : Nat) "CranePlan$Timetable" "finish" "I") ∈ bigW := inB 153 (by decide +kernel) rfl
theorem nd_154 : (Jvm.Cond.fieldLinkNest "CranePlan$Search" (64 : Nat) "CranePlan$Timetable" "finish" "I" "CranePlan") ∈ nwW := inN 154 (by decide +kernel) rfl
theorem nd_155 : (Jvm.Cond.fieldLinkNest "CranePlan" (99 : Nat) "CranePlan$Timetable" "finish" "I" "CranePlan") ∈ nwW := inN 155 (by decide +kernel) rfl
theorem wd_156 : (Jvm.Cond.fieldLink "CranePlan$Timetable" (42 : Nat) "CranePlan$Timetable" "steps" "I") ∈ bigW := inB 156 (by decide +kernel) rfl
theorem nd_157 : (Jvm.Cond.fieldLinkNest "CranePlan$Search" (67 : Nat) "CranePlan$Timetable" "steps" "I" "CranePlan") ∈ nwW := inN 157 (by decide +kernel) rfl
theorem nd_158 : (Jvm.Cond.fieldLinkNest "CranePlan" (179 : Nat) "CranePlan$Timetable" "steps" "I" "CranePlan") ∈ nwW := inN 158 (by decide +kernel) rfl
theorem wd_184 : (Jvm.Cond.classLink "CranePlan" (38 : Nat) "CranePlan$Search") ∈ bigW := inB 184 (by decide +kernel) rfl
theorem wd_185 : (Jvm.Cond.instantiable "CranePlan$Search" (9 : Nat)) ∈ bigW := inB 185 (by decide +kernel) rfl
theorem nd_186 : (Jvm.Cond.methodLinkNest "CranePlan" (40 : Nat) ({ cls := "CranePlan$Search", name := "<init>", desc := "(LCranePlan$Bays;LCranePlan$Cranes;LCranePlan$Timetable;)V" } : Jvm.MethodName) "CranePlan") ∈ nwW := inN 186 (by decide +kernel) rfl
theorem wd_187 : (Jvm.Cond.instanceMethod ({ cls := "CranePlan$Search", name := "<init>", desc := "(LCranePlan$Bays;LCranePlan$Cranes;LCranePlan$Timetable;)V" } : Jvm.MethodName)) ∈ bigW := inB 187 (by decide +kernel) rfl
theorem wd_188 : (Jvm.Cond.code ({ cls := "CranePlan$Search", name := "<init>", desc := "(LCranePlan$Bays;LCranePlan$Cranes;LCranePlan$Timetable;)V" } : Jvm.MethodName) prog_4_method_1_code (4 : Nat) (Option.none : Option Jvm.ClassFile.FieldType)) ∈ bigW := inB 188 (by decide +kernel) rfl
theorem wd_189 : (Jvm.Cond.methodLink "CranePlan$Search" (3 : Nat) ({ cls := "java/lang/Object", name := "<init>", desc := "()V" } : Jvm.MethodName)) ∈ bigW := inB 189 (by decide +kernel) rfl
theorem wd_190 : (Jvm.Cond.fieldLink "CranePlan$Search" (31 : Nat) "CranePlan$Search" "bays" "LCranePlan$Bays;") ∈ bigW := inB 190 (by decide +kernel) rfl
theorem wd_191 : (Jvm.Cond.fieldLink "CranePlan$Search" (35 : Nat) "CranePlan$Search" "cranes" "LCranePlan$Cranes;") ∈ bigW := inB 191 (by decide +kernel) rfl
theorem wd_192 : (Jvm.Cond.fieldLink "CranePlan$Search" (39 : Nat) "CranePlan$Search" "timetable" "LCranePlan$Timetable;") ∈ bigW := inB 192 (by decide +kernel) rfl
theorem wd_193 : (Jvm.Cond.fieldLink "CranePlan$Search" (9 : Nat) "CranePlan$Search" "busy" "[I") ∈ bigW := inB 193 (by decide +kernel) rfl
theorem wd_194 : (Jvm.Cond.fieldLink "CranePlan$Search" (15 : Nat) "CranePlan$Search" "able" "[I") ∈ bigW := inB 194 (by decide +kernel) rfl
theorem wd_195 : (Jvm.Cond.fieldLink "CranePlan$Search" (18 : Nat) "CranePlan$Search" "choice" "[I") ∈ bigW := inB 195 (by decide +kernel) rfl
theorem wd_196 : (Jvm.Cond.fieldLink "CranePlan$Search" (21 : Nat) "CranePlan$Search" "best" "[I") ∈ bigW := inB 196 (by decide +kernel) rfl
theorem wd_197 : (Jvm.Cond.fieldLink "CranePlan$Search" (24 : Nat) "CranePlan$Search" "busyBays" "I") ∈ bigW := inB 197 (by decide +kernel) rfl
theorem wd_198 : (Jvm.Cond.fieldLink "CranePlan$Search" (28 : Nat) "CranePlan$Search" "ableCranes" "I") ∈ bigW := inB 198 (by decide +kernel) rfl
theorem wd_218 : (Jvm.Cond.fieldLink "CranePlan" (10 : Nat) "CranePlan" "bays" "LCranePlan$Bays;") ∈ bigW := inB 218 (by decide +kernel) rfl
theorem wd_219 : (Jvm.Cond.fieldLink "CranePlan" (25 : Nat) "CranePlan" "cranes" "LCranePlan$Cranes;") ∈ bigW := inB 219 (by decide +kernel) rfl
theorem wd_220 : (Jvm.Cond.fieldLink "CranePlan" (34 : Nat) "CranePlan" "timetable" "LCranePlan$Timetable;") ∈ bigW := inB 220 (by decide +kernel) rfl
theorem wd_221 : (Jvm.Cond.fieldLink "CranePlan" (43 : Nat) "CranePlan" "search" "LCranePlan$Search;") ∈ bigW := inB 221 (by decide +kernel) rfl
theorem wd_222 : (Jvm.Cond.fieldLink "CranePlan" (47 : Nat) "CranePlan" "planned" "Z") ∈ bigW := inB 222 (by decide +kernel) rfl
theorem wd_234 : (Jvm.Cond.methodLink "CranePlanLaw" (64 : Nat) ({ cls := "CranePlan", name := "step", desc := "(I)Z" } : Jvm.MethodName)) ∈ bigW := inB 234 (by decide +kernel) rfl
theorem wd_235 : (Jvm.Cond.instanceMethod ({ cls := "CranePlan", name := "step", desc := "(I)Z" } : Jvm.MethodName)) ∈ bigW := inB 235 (by decide +kernel) rfl
theorem wd_236 : (Jvm.Cond.selects "CranePlan" ({ cls := "CranePlan", name := "step", desc := "(I)Z" } : Jvm.MethodName) ({ cls := "CranePlan", name := "step", desc := "(I)Z" } : Jvm.MethodName)) ∈ bigW := inB 236 (by decide +kernel) rfl
theorem wd_237 : (Jvm.Cond.code ({ cls := "CranePlan", name := "step", desc := "(I)Z" } : Jvm.MethodName) prog_1_method_4_code (2 : Nat) (Option.some Jvm.ClassFile.FieldType.boolean)) ∈ bigW := inB 237 (by decide +kernel) rfl
theorem wd_238 : (Jvm.Cond.methodLink "CranePlan" (51 : Nat) ({ cls := "CranePlan", name := "within", desc := "(III)Z" } : Jvm.MethodName)) ∈ bigW := inB 238 (by decide +kernel) rfl
theorem wd_239 : (Jvm.Cond.static ({ cls := "CranePlan", name := "within", desc := "(III)Z" } : Jvm.MethodName)) ∈ bigW := inB 239 (by decide +kernel) rfl
theorem wd_240 : (Jvm.Cond.code ({ cls := "CranePlan", name := "within", desc := "(III)Z" } : Jvm.MethodName) prog_1_method_13_code (3 : Nat) (Option.some Jvm.ClassFile.FieldType.boolean)) ∈ bigW := inB 240 (by decide +kernel) rfl
theorem wd_241 : (Jvm.Cond.methodLink "CranePlanLaw" (69 : Nat) ({ cls := "CranePlan", name := "plan", desc := "()I" } : Jvm.MethodName)) ∈ bigW := inB 241 (by decide +kernel) rfl
theorem wd_242 : (Jvm.Cond.instanceMethod ({ cls := "CranePlan", name := "plan", desc := "()I" } : Jvm.MethodName)) ∈ bigW := inB 242 (by decide +kernel) rfl
theorem wd_243 : (Jvm.Cond.selects "CranePlan" ({ cls := "CranePlan", name := "plan", desc := "()I" } : Jvm.MethodName) ({ cls := "CranePlan", name := "plan", desc := "()I" } : Jvm.MethodName)) ∈ bigW := inB 243 (by decide +kernel) rfl
theorem wd_244 : (Jvm.Cond.code ({ cls := "CranePlan", name := "plan", desc := "()I" } : Jvm.MethodName) prog_1_method_5_code (1 : Nat) (Option.some Jvm.ClassFile.FieldType.int)) ∈ bigW := inB 244 (by decide +kernel) rfl
theorem nd_245 : (Jvm.Cond.methodLinkNest "CranePlan" (96 : Nat) ({ cls := "CranePlan$Search", name := "makeBest", desc := "()Z" } : Jvm.MethodName) "CranePlan") ∈ nwW := inN 245 (by decide +kernel) rfl
theorem wd_247 : (Jvm.Cond.instanceMethod ({ cls := "CranePlan$Search", name := "makeBest", desc := "()Z" } : Jvm.MethodName)) ∈ bigW := inB 247 (by decide +kernel) rfl
theorem wd_248 : (Jvm.Cond.code ({ cls := "CranePlan$Search", name := "makeBest", desc := "()Z" } : Jvm.MethodName) prog_4_method_2_code (5 : Nat) (Option.some Jvm.ClassFile.FieldType.boolean)) ∈ bigW := inB 248 (by decide +kernel) rfl
theorem wd_249 : (Jvm.Cond.methodLink "CranePlan$Search" (43 : Nat) ({ cls := "CranePlan$Search", name := "gather", desc := "()V" } : Jvm.MethodName)) ∈ bigW := inB 249 (by decide +kernel) rfl
theorem wd_251 : (Jvm.Cond.instanceMethod ({ cls := "CranePlan$Search", name := "gather", desc := "()V" } : Jvm.MethodName)) ∈ bigW := inB 251 (by decide +kernel) rfl
theorem wd_252 : (Jvm.Cond.code ({ cls := "CranePlan$Search", name := "gather", desc := "()V" } : Jvm.MethodName) prog_4_method_3_code (2 : Nat) (Option.none : Option Jvm.ClassFile.FieldType)) ∈ bigW := inB 252 (by decide +kernel) rfl
theorem wd_253 : (Jvm.Cond.methodLink "CranePlan$Search" (82 : Nat) ({ cls := "java/util/Arrays", name := "fill", desc := "([II)V" } : Jvm.MethodName)) ∈ bigW := inB 253 (by decide +kernel) rfl
theorem nd_254 : (Jvm.Cond.methodLinkNest "CranePlan$Search" (88 : Nat) ({ cls := "CranePlan$Bays", name := "movesOf", desc := "(I)I" } : Jvm.MethodName) "CranePlan") ∈ nwW := inN 254 (by decide +kernel) rfl
theorem wd_256 : (Jvm.Cond.instanceMethod ({ cls := "CranePlan$Bays", name := "movesOf", desc := "(I)I" } : Jvm.MethodName)) ∈ bigW := inB 256 (by decide +kernel) rfl
theorem wd_257 : (Jvm.Cond.code ({ cls := "CranePlan$Bays", name := "movesOf", desc := "(I)I" } : Jvm.MethodName) prog_2_method_5_code (2 : Nat) (Option.some Jvm.ClassFile.FieldType.int)) ∈ bigW := inB 257 (by decide +kernel) rfl
theorem wd_258 : (Jvm.Cond.methodLink "CranePlan$Bays" (26 : Nat) ({ cls := "CranePlan$Bays", name := "has", desc := "(I)Z" } : Jvm.MethodName)) ∈ bigW := inB 258 (by decide +kernel) rfl
theorem wd_260 : (Jvm.Cond.instanceMethod ({ cls := "CranePlan$Bays", name := "has", desc := "(I)Z" } : Jvm.MethodName)) ∈ bigW := inB 260 (by decide +kernel) rfl
theorem wd_261 : (Jvm.Cond.code ({ cls := "CranePlan$Bays", name := "has", desc := "(I)Z" } : Jvm.MethodName) prog_2_method_2_code (2 : Nat) (Option.some Jvm.ClassFile.FieldType.boolean)) ∈ bigW := inB 261 (by decide +kernel) rfl
theorem nd_262 : (Jvm.Cond.methodLinkNest "CranePlan$Search" (94 : Nat) ({ cls := "CranePlan$Cranes", name := "isOut", desc := "(I)Z" } : Jvm.MethodName) "CranePlan") ∈ nwW := inN 262 (by decide +kernel) rfl
theorem wd_264 : (Jvm.Cond.instanceMethod ({ cls := "CranePlan$Cranes", name := "isOut", desc := "(I)Z" } : Jvm.MethodName)) ∈ bigW := inB 264 (by decide +kernel) rfl
theorem wd_265 : (Jvm.Cond.code ({ cls := "CranePlan$Cranes", name := "isOut", desc := "(I)Z" } : Jvm.MethodName) prog_3_method_3_code (2 : Nat) (Option.some Jvm.ClassFile.FieldType.boolean)) ∈ bigW := inB 265 (by decide +kernel) rfl
theorem wd_266 : (Jvm.Cond.methodLink "CranePlan$Cranes" (38 : Nat) ({ cls := "CranePlan$Cranes", name := "has", desc := "(I)Z" } : Jvm.MethodName)) ∈ bigW := inB 266 (by decide +kernel) rfl
theorem wd_268 : (Jvm.Cond.instanceMethod ({ cls := "CranePlan$Cranes", name := "has", desc := "(I)Z" } : Jvm.MethodName)) ∈ bigW := inB 268 (by decide +kernel) rfl
theorem wd_269 : (Jvm.Cond.code ({ cls := "CranePlan$Cranes", name := "has", desc := "(I)Z" } : Jvm.MethodName) prog_3_method_2_code (2 : Nat) (Option.some Jvm.ClassFile.FieldType.boolean)) ∈ bigW := inB 269 (by decide +kernel) rfl
theorem wd_270 : (Jvm.Cond.constant "CranePlan$Search" (46 : Nat) (1000000 : Int32)) ∈ bigW := inB 270 (by decide +kernel) rfl
theorem wd_271 : (Jvm.Cond.methodLink "CranePlan$Search" (47 : Nat) ({ cls := "CranePlan$Search", name := "share", desc := "([I)V" } : Jvm.MethodName)) ∈ bigW := inB 271 (by decide +kernel) rfl
theorem wd_273 : (Jvm.Cond.instanceMethod ({ cls := "CranePlan$Search", name := "share", desc := "([I)V" } : Jvm.MethodName)) ∈ bigW := inB 273 (by decide +kernel) rfl
theorem wd_274 : (Jvm.Cond.code ({ cls := "CranePlan$Search", name := "share", desc := "([I)V" } : Jvm.MethodName) prog_4_method_4_code (3 : Nat) (Option.none : Option Jvm.ClassFile.FieldType)) ∈ bigW := inB 274 (by decide +kernel) rfl
theorem nd_275 : (Jvm.Cond.methodLinkNest "CranePlan$Search" (100 : Nat) ({ cls := "CranePlan$Timetable", name := "clear", desc := "()V" } : Jvm.MethodName) "CranePlan") ∈ nwW := inN 275 (by decide +kernel) rfl
theorem wd_277 : (Jvm.Cond.instanceMethod ({ cls := "CranePlan$Timetable", name := "clear", desc := "()V" } : Jvm.MethodName)) ∈ bigW := inB 277 (by decide +kernel) rfl
theorem wd_278 : (Jvm.Cond.code ({ cls := "CranePlan$Timetable", name := "clear", desc := "()V" } : Jvm.MethodName) prog_5_method_2_code (1 : Nat) (Option.none : Option Jvm.ClassFile.FieldType)) ∈ bigW := inB 278 (by decide +kernel) rfl
theorem wd_279 : (Jvm.Cond.methodLink "CranePlan$Timetable" (53 : Nat) ({ cls := "java/util/Arrays", name := "fill", desc := "([II)V" } : Jvm.MethodName)) ∈ bigW := inB 279 (by decide +kernel) rfl
theorem nd_280 : (Jvm.Cond.methodLinkNest "CranePlan$Search" (103 : Nat) ({ cls := "CranePlan$Timetable", name := "give", desc := "(II)V" } : Jvm.MethodName) "CranePlan") ∈ nwW := inN 280 (by decide +kernel) rfl
theorem wd_282 : (Jvm.Cond.instanceMethod ({ cls := "CranePlan$Timetable", name := "give", desc := "(II)V" } : Jvm.MethodName)) ∈ bigW := inB 282 (by decide +kernel) rfl
theorem wd_283 : (Jvm.Cond.code ({ cls := "CranePlan$Timetable", name := "give", desc := "(II)V" } : Jvm.MethodName) prog_5_method_3_code (3 : Nat) (Option.none : Option Jvm.ClassFile.FieldType)) ∈ bigW := inB 283 (by decide +kernel) rfl
theorem nd_284 : (Jvm.Cond.methodLinkNest "CranePlan$Timetable" (59 : Nat) ({ cls := "CranePlan$Bays", name := "has", desc := "(I)Z" } : Jvm.MethodName) "CranePlan") ∈ nwW := inN 284 (by decide +kernel) rfl
theorem nd_285 : (Jvm.Cond.methodLinkNest "CranePlan$Timetable" (65 : Nat) ({ cls := "CranePlan$Cranes", name := "has", desc := "(I)Z" } : Jvm.MethodName) "CranePlan") ∈ nwW := inN 285 (by decide +kernel) rfl
theorem nd_286 : (Jvm.Cond.methodLinkNest "CranePlan$Search" (51 : Nat) ({ cls := "CranePlan$Timetable", name := "keepsApart", desc := "()Z" } : Jvm.MethodName) "CranePlan") ∈ nwW := inN 286 (by decide +kernel) rfl
theorem wd_288 : (Jvm.Cond.instanceMethod ({ cls := "CranePlan$Timetable", name := "keepsApart", desc := "()Z" } : Jvm.MethodName)) ∈ bigW := inB 288 (by decide +kernel) rfl
theorem wd_289 : (Jvm.Cond.code ({ cls := "CranePlan$Timetable", name := "keepsApart", desc := "()Z" } : Jvm.MethodName) prog_5_method_4_code (3 : Nat) (Option.some Jvm.ClassFile.FieldType.boolean)) ∈ bigW := inB 289 (by decide +kernel) rfl
theorem wd_290 : (Jvm.Cond.methodLink "CranePlan$Timetable" (68 : Nat) ({ cls := "CranePlan$Timetable", name := "tooNear", desc := "(II)Z" } : Jvm.MethodName)) ∈ bigW := inB 290 (by decide +kernel) rfl
theorem wd_292 : (Jvm.Cond.instanceMethod ({ cls := "CranePlan$Timetable", name := "tooNear", desc := "(II)Z" } : Jvm.MethodName)) ∈ bigW := inB 292 (by decide +kernel) rfl
theorem wd_293 : (Jvm.Cond.code ({ cls := "CranePlan$Timetable", name := "tooNear", desc := "(II)Z" } : Jvm.MethodName) prog_5_method_5_code (3 : Nat) (Option.some Jvm.ClassFile.FieldType.boolean)) ∈ bigW := inB 293 (by decide +kernel) rfl
theorem nd_294 : (Jvm.Cond.methodLinkNest "CranePlan$Search" (57 : Nat) ({ cls := "CranePlan$Timetable", name := "setTimes", desc := "()V" } : Jvm.MethodName) "CranePlan") ∈ nwW := inN 294 (by decide +kernel) rfl
theorem wd_296 : (Jvm.Cond.instanceMethod ({ cls := "CranePlan$Timetable", name := "setTimes", desc := "()V" } : Jvm.MethodName)) ∈ bigW := inB 296 (by decide +kernel) rfl
theorem wd_297 : (Jvm.Cond.code ({ cls := "CranePlan$Timetable", name := "setTimes", desc := "()V" } : Jvm.MethodName) prog_5_method_6_code (3 : Nat) (Option.none : Option Jvm.ClassFile.FieldType)) ∈ bigW := inB 297 (by decide +kernel) rfl
theorem wd_298 : (Jvm.Cond.methodLink "CranePlan$Timetable" (75 : Nat) ({ cls := "CranePlan$Timetable", name := "setTimesOf", desc := "(II)V" } : Jvm.MethodName)) ∈ bigW := inB 298 (by decide +kernel) rfl
theorem wd_300 : (Jvm.Cond.instanceMethod ({ cls := "CranePlan$Timetable", name := "setTimesOf", desc := "(II)V" } : Jvm.MethodName)) ∈ bigW := inB 300 (by decide +kernel) rfl
theorem wd_301 : (Jvm.Cond.code ({ cls := "CranePlan$Timetable", name := "setTimesOf", desc := "(II)V" } : Jvm.MethodName) prog_5_method_7_code (5 : Nat) (Option.none : Option Jvm.ClassFile.FieldType)) ∈ bigW := inB 301 (by decide +kernel) rfl
theorem wd_302 : (Jvm.Cond.methodLink "CranePlan$Timetable" (79 : Nat) ({ cls := "java/lang/Math", name := "max", desc := "(II)I" } : Jvm.MethodName)) ∈ bigW := inB 302 (by decide +kernel) rfl
theorem nd_303 : (Jvm.Cond.methodLinkNest "CranePlan$Timetable" (85 : Nat) ({ cls := "CranePlan$Bays", name := "movesOf", desc := "(I)I" } : Jvm.MethodName) "CranePlan") ∈ nwW := inN 303 (by decide +kernel) rfl
theorem nd_304 : (Jvm.Cond.methodLinkNest "CranePlan$Timetable" (89 : Nat) ({ cls := "CranePlan$Cranes", name := "timeFor", desc := "(II)I" } : Jvm.MethodName) "CranePlan") ∈ nwW := inN 304 (by decide +kernel) rfl
theorem wd_306 : (Jvm.Cond.instanceMethod ({ cls := "CranePlan$Cranes", name := "timeFor", desc := "(II)I" } : Jvm.MethodName)) ∈ bigW := inB 306 (by decide +kernel) rfl
theorem wd_307 : (Jvm.Cond.code ({ cls := "CranePlan$Cranes", name := "timeFor", desc := "(II)I" } : Jvm.MethodName) prog_3_method_7_code (3 : Nat) (Option.some Jvm.ClassFile.FieldType.int)) ∈ bigW := inB 307 (by decide +kernel) rfl
theorem nd_308 : (Jvm.Cond.methodLinkNest "CranePlan$Cranes" (45 : Nat) ({ cls := "CranePlan", name := "dividedUp", desc := "(JJ)J" } : Jvm.MethodName) "CranePlan") ∈ nwW := inN 308 (by decide +kernel) rfl
theorem wd_309 : (Jvm.Cond.static ({ cls := "CranePlan", name := "dividedUp", desc := "(JJ)J" } : Jvm.MethodName)) ∈ bigW := inB 309 (by decide +kernel) rfl
theorem wd_310 : (Jvm.Cond.code ({ cls := "CranePlan", name := "dividedUp", desc := "(JJ)J" } : Jvm.MethodName) prog_1_method_15_code (4 : Nat) (Option.some Jvm.ClassFile.FieldType.long)) ∈ bigW := inB 310 (by decide +kernel) rfl
theorem wd_311 : (Jvm.Cond.methodLink "CranePlan$Timetable" (92 : Nat) ({ cls := "CranePlan$Timetable", name := "whenCame", desc := "(II)I" } : Jvm.MethodName)) ∈ bigW := inB 311 (by decide +kernel) rfl
theorem wd_313 : (Jvm.Cond.instanceMethod ({ cls := "CranePlan$Timetable", name := "whenCame", desc := "(II)I" } : Jvm.MethodName)) ∈ bigW := inB 313 (by decide +kernel) rfl
theorem wd_314 : (Jvm.Cond.code ({ cls := "CranePlan$Timetable", name := "whenCame", desc := "(II)I" } : Jvm.MethodName) prog_5_method_8_code (3 : Nat) (Option.some Jvm.ClassFile.FieldType.int)) ∈ bigW := inB 314 (by decide +kernel) rfl
theorem nd_315 : (Jvm.Cond.methodLinkNest "CranePlan$Search" (60 : Nat) ({ cls := "CranePlan$Timetable", name := "isBetterThan", desc := "(II)Z" } : Jvm.MethodName) "CranePlan") ∈ nwW := inN 315 (by decide +kernel) rfl
theorem wd_317 : (Jvm.Cond.instanceMethod ({ cls := "CranePlan$Timetable", name := "isBetterThan", desc := "(II)Z" } : Jvm.MethodName)) ∈ bigW := inB 317 (by decide +kernel) rfl
theorem wd_318 : (Jvm.Cond.code ({ cls := "CranePlan$Timetable", name := "isBetterThan", desc := "(II)Z" } : Jvm.MethodName) prog_5_method_9_code (3 : Nat) (Option.some Jvm.ClassFile.FieldType.boolean)) ∈ bigW := inB 318 (by decide +kernel) rfl
theorem wd_319 : (Jvm.Cond.methodLink "CranePlan$Search" (70 : Nat) ({ cls := "java/lang/System", name := "arraycopy", desc := "(Ljava/lang/Object;ILjava/lang/Object;II)V" } : Jvm.MethodName)) ∈ bigW := inB 319 (by decide +kernel) rfl
theorem wd_320 : (Jvm.Cond.static ({ cls := "java/lang/System", name := "arraycopy", desc := "(Ljava/lang/Object;ILjava/lang/Object;II)V" } : Jvm.MethodName)) ∈ bigW := inB 320 (by decide +kernel) rfl
theorem wd_321 : (Jvm.Cond.native ({ cls := "java/lang/System", name := "arraycopy", desc := "(Ljava/lang/Object;ILjava/lang/Object;II)V" } : Jvm.MethodName)) ∈ bigW := inB 321 (by decide +kernel) rfl
theorem wd_322 : (Jvm.Cond.methodLink "CranePlan$Search" (76 : Nat) ({ cls := "CranePlan$Search", name := "nextChoice", desc := "()Z" } : Jvm.MethodName)) ∈ bigW := inB 322 (by decide +kernel) rfl
theorem wd_324 : (Jvm.Cond.instanceMethod ({ cls := "CranePlan$Search", name := "nextChoice", desc := "()Z" } : Jvm.MethodName)) ∈ bigW := inB 324 (by decide +kernel) rfl
theorem wd_325 : (Jvm.Cond.code ({ cls := "CranePlan$Search", name := "nextChoice", desc := "()Z" } : Jvm.MethodName) prog_4_method_5_code (4 : Nat) (Option.some Jvm.ClassFile.FieldType.boolean)) ∈ bigW := inB 325 (by decide +kernel) rfl
theorem nd_326 : (Jvm.Cond.methodLinkNest "CranePlan$Search" (79 : Nat) ({ cls := "CranePlan$Timetable", name := "sortRows", desc := "()V" } : Jvm.MethodName) "CranePlan") ∈ nwW := inN 326 (by decide +kernel) rfl
theorem wd_328 : (Jvm.Cond.instanceMethod ({ cls := "CranePlan$Timetable", name := "sortRows", desc := "()V" } : Jvm.MethodName)) ∈ bigW := inB 328 (by decide +kernel) rfl
theorem wd_329 : (Jvm.Cond.code ({ cls := "CranePlan$Timetable", name := "sortRows", desc := "()V" } : Jvm.MethodName) prog_5_method_10_code (3 : Nat) (Option.none : Option Jvm.ClassFile.FieldType)) ∈ bigW := inB 329 (by decide +kernel) rfl
theorem wd_330 : (Jvm.Cond.methodLink "CranePlan$Timetable" (98 : Nat) ({ cls := "CranePlan$Timetable", name := "beginsAhead", desc := "(II)Z" } : Jvm.MethodName)) ∈ bigW := inB 330 (by decide +kernel) rfl
theorem wd_332 : (Jvm.Cond.instanceMethod ({ cls := "CranePlan$Timetable", name := "beginsAhead", desc := "(II)Z" } : Jvm.MethodName)) ∈ bigW := inB 332 (by decide +kernel) rfl
theorem wd_333 : (Jvm.Cond.code ({ cls := "CranePlan$Timetable", name := "beginsAhead", desc := "(II)Z" } : Jvm.MethodName) prog_5_method_11_code (3 : Nat) (Option.some Jvm.ClassFile.FieldType.boolean)) ∈ bigW := inB 333 (by decide +kernel) rfl
theorem wd_334 : (Jvm.Cond.methodLink "CranePlanLaw" (82 : Nat) ({ cls := "CranePlan", name := "bound", desc := "()I" } : Jvm.MethodName)) ∈ bigW := inB 334 (by decide +kernel) rfl
theorem wd_335 : (Jvm.Cond.instanceMethod ({ cls := "CranePlan", name := "bound", desc := "()I" } : Jvm.MethodName)) ∈ bigW := inB 335 (by decide +kernel) rfl
theorem wd_336 : (Jvm.Cond.selects "CranePlan" ({ cls := "CranePlan", name := "bound", desc := "()I" } : Jvm.MethodName) ({ cls := "CranePlan", name := "bound", desc := "()I" } : Jvm.MethodName)) ∈ bigW := inB 336 (by decide +kernel) rfl
theorem wd_337 : (Jvm.Cond.code ({ cls := "CranePlan", name := "bound", desc := "()I" } : Jvm.MethodName) prog_1_method_9_code (3 : Nat) (Option.some Jvm.ClassFile.FieldType.int)) ∈ bigW := inB 337 (by decide +kernel) rfl
theorem nd_338 : (Jvm.Cond.methodLinkNest "CranePlan" (137 : Nat) ({ cls := "CranePlan$Cranes", name := "able", desc := "()I" } : Jvm.MethodName) "CranePlan") ∈ nwW := inN 338 (by decide +kernel) rfl
theorem wd_340 : (Jvm.Cond.instanceMethod ({ cls := "CranePlan$Cranes", name := "able", desc := "()I" } : Jvm.MethodName)) ∈ bigW := inB 340 (by decide +kernel) rfl
theorem wd_341 : (Jvm.Cond.code ({ cls := "CranePlan$Cranes", name := "able", desc := "()I" } : Jvm.MethodName) prog_3_method_6_code (3 : Nat) (Option.some Jvm.ClassFile.FieldType.int)) ∈ bigW := inB 341 (by decide +kernel) rfl
theorem wd_342 : (Jvm.Cond.methodLink "CranePlan$Cranes" (42 : Nat) ({ cls := "CranePlan$Cranes", name := "isOut", desc := "(I)Z" } : Jvm.MethodName)) ∈ bigW := inB 342 (by decide +kernel) rfl
theorem nd_343 : (Jvm.Cond.methodLinkNest "CranePlan" (140 : Nat) ({ cls := "CranePlan$Bays", name := "allMoves", desc := "()I" } : Jvm.MethodName) "CranePlan") ∈ nwW := inN 343 (by decide +kernel) rfl
theorem wd_345 : (Jvm.Cond.instanceMethod ({ cls := "CranePlan$Bays", name := "allMoves", desc := "()I" } : Jvm.MethodName)) ∈ bigW := inB 345 (by decide +kernel) rfl
theorem wd_346 : (Jvm.Cond.code ({ cls := "CranePlan$Bays", name := "allMoves", desc := "()I" } : Jvm.MethodName) prog_2_method_6_code (3 : Nat) (Option.some Jvm.ClassFile.FieldType.int)) ∈ bigW := inB 346 (by decide +kernel) rfl
theorem wd_347 : (Jvm.Cond.methodLink "CranePlan$Bays" (30 : Nat) ({ cls := "CranePlan$Bays", name := "movesOf", desc := "(I)I" } : Jvm.MethodName)) ∈ bigW := inB 347 (by decide +kernel) rfl
theorem nd_348 : (Jvm.Cond.methodLinkNest "CranePlan" (143 : Nat) ({ cls := "CranePlan$Cranes", name := "timeTogether", desc := "(I)I" } : Jvm.MethodName) "CranePlan") ∈ nwW := inN 348 (by decide +kernel) rfl
theorem wd_350 : (Jvm.Cond.instanceMethod ({ cls := "CranePlan$Cranes", name := "timeTogether", desc := "(I)I" } : Jvm.MethodName)) ∈ bigW := inB 350 (by decide +kernel) rfl
theorem wd_351 : (Jvm.Cond.code ({ cls := "CranePlan$Cranes", name := "timeTogether", desc := "(I)I" } : Jvm.MethodName) prog_3_method_10_code (7 : Nat) (Option.some Jvm.ClassFile.FieldType.int)) ∈ bigW := inB 351 (by decide +kernel) rfl
theorem nd_352 : (Jvm.Cond.methodLinkNest "CranePlan" (147 : Nat) ({ cls := "CranePlan$Bays", name := "movesOf", desc := "(I)I" } : Jvm.MethodName) "CranePlan") ∈ nwW := inN 352 (by decide +kernel) rfl
theorem nd_353 : (Jvm.Cond.methodLinkNest "CranePlan" (150 : Nat) ({ cls := "CranePlan$Cranes", name := "leastTime", desc := "(I)I" } : Jvm.MethodName) "CranePlan") ∈ nwW := inN 353 (by decide +kernel) rfl
theorem wd_355 : (Jvm.Cond.instanceMethod ({ cls := "CranePlan$Cranes", name := "leastTime", desc := "(I)I" } : Jvm.MethodName)) ∈ bigW := inB 355 (by decide +kernel) rfl
theorem wd_356 : (Jvm.Cond.code ({ cls := "CranePlan$Cranes", name := "leastTime", desc := "(I)I" } : Jvm.MethodName) prog_3_method_9_code (4 : Nat) (Option.some Jvm.ClassFile.FieldType.int)) ∈ bigW := inB 356 (by decide +kernel) rfl
theorem wd_357 : (Jvm.Cond.constant "CranePlan$Cranes" (49 : Nat) (1000000 : Int32)) ∈ bigW := inB 357 (by decide +kernel) rfl
theorem wd_358 : (Jvm.Cond.methodLink "CranePlan$Cranes" (50 : Nat) ({ cls := "CranePlan$Cranes", name := "timeFor", desc := "(II)I" } : Jvm.MethodName)) ∈ bigW := inB 358 (by decide +kernel) rfl
theorem wd_359 : (Jvm.Cond.methodLink "CranePlan$Cranes" (54 : Nat) ({ cls := "java/lang/Math", name := "min", desc := "(II)I" } : Jvm.MethodName)) ∈ bigW := inB 359 (by decide +kernel) rfl
theorem wd_360 : (Jvm.Cond.methodLink "CranePlanLaw" (92 : Nat) ({ cls := "CranePlan", name := "count", desc := "(I)I" } : Jvm.MethodName)) ∈ bigW := inB 360 (by decide +kernel) rfl
theorem wd_361 : (Jvm.Cond.instanceMethod ({ cls := "CranePlan", name := "count", desc := "(I)I" } : Jvm.MethodName)) ∈ bigW := inB 361 (by decide +kernel) rfl
theorem wd_362 : (Jvm.Cond.selects "CranePlan" ({ cls := "CranePlan", name := "count", desc := "(I)I" } : Jvm.MethodName) ({ cls := "CranePlan", name := "count", desc := "(I)I" } : Jvm.MethodName)) ∈ bigW := inB 362 (by decide +kernel) rfl
theorem wd_363 : (Jvm.Cond.code ({ cls := "CranePlan", name := "count", desc := "(I)I" } : Jvm.MethodName) prog_1_method_12_code (2 : Nat) (Option.some Jvm.ClassFile.FieldType.int)) ∈ bigW := inB 363 (by decide +kernel) rfl
theorem wd_364 : (Jvm.Cond.methodLink "CranePlanLaw" (40 : Nat) ({ cls := "CranePlanLaw", name := "cell", desc := "([II)I" } : Jvm.MethodName)) ∈ bigW := inB 364 (by decide +kernel) rfl
theorem wd_365 : (Jvm.Cond.static ({ cls := "CranePlanLaw", name := "cell", desc := "([II)I" } : Jvm.MethodName)) ∈ bigW := inB 365 (by decide +kernel) rfl
theorem wd_366 : (Jvm.Cond.code ({ cls := "CranePlanLaw", name := "cell", desc := "([II)I" } : Jvm.MethodName) method_2_code (2 : Nat) (Option.some Jvm.ClassFile.FieldType.int)) ∈ bigW := inB 366 (by decide +kernel) rfl
theorem wd_367 : (Jvm.Cond.methodLink "CranePlanLaw" (52 : Nat) ({ cls := "CranePlanLaw", name := "bay", desc := "(LCranePlan;II[J)I" } : Jvm.MethodName)) ∈ bigW := inB 367 (by decide +kernel) rfl
theorem wd_368 : (Jvm.Cond.static ({ cls := "CranePlanLaw", name := "bay", desc := "(LCranePlan;II[J)I" } : Jvm.MethodName)) ∈ bigW := inB 368 (by decide +kernel) rfl
theorem wd_369 : (Jvm.Cond.codeWith ({ cls := "CranePlanLaw", name := "bay", desc := "(LCranePlan;II[J)I" } : Jvm.MethodName) method_3_code (5 : Nat) (Option.some Jvm.ClassFile.FieldType.int) [((0 : Nat), (10 : Nat), (13 : Nat), (13 : Nat)), ((0 : Nat), (10 : Nat), (17 : Nat), (15 : Nat))]) ∈ bigW := inB 369 (by decide +kernel) rfl
theorem wd_370 : (Jvm.Cond.classLink "CranePlanLaw" (13 : Nat) "java/lang/IllegalArgumentException") ∈ bigW := inB 370 (by decide +kernel) rfl
theorem wd_371 : (Jvm.Cond.classLink "CranePlanLaw" (15 : Nat) "java/lang/IllegalStateException") ∈ bigW := inB 371 (by decide +kernel) rfl
theorem wd_372 : (Jvm.Cond.methodLink "CranePlanLaw" (7 : Nat) ({ cls := "CranePlan", name := "bay", desc := "(II)I" } : Jvm.MethodName)) ∈ bigW := inB 372 (by decide +kernel) rfl
theorem wd_373 : (Jvm.Cond.instanceMethod ({ cls := "CranePlan", name := "bay", desc := "(II)I" } : Jvm.MethodName)) ∈ bigW := inB 373 (by decide +kernel) rfl
theorem wd_374 : (Jvm.Cond.selects "CranePlan" ({ cls := "CranePlan", name := "bay", desc := "(II)I" } : Jvm.MethodName) ({ cls := "CranePlan", name := "bay", desc := "(II)I" } : Jvm.MethodName)) ∈ bigW := inB 374 (by decide +kernel) rfl
theorem wd_375 : (Jvm.Cond.code ({ cls := "CranePlan", name := "bay", desc := "(II)I" } : Jvm.MethodName) prog_1_method_2_code (3 : Nat) (Option.some Jvm.ClassFile.FieldType.int)) ∈ bigW := inB 375 (by decide +kernel) rfl
theorem wd_376 : (Jvm.Cond.classLink "CranePlan" (55 : Nat) "java/lang/IllegalArgumentException") ∈ bigW := inB 376 (by decide +kernel) rfl
theorem wd_377 : (Jvm.Cond.instantiable "java/lang/IllegalArgumentException" (6 : Nat)) ∈ bigW := inB 377 (by decide +kernel) rfl
theorem wd_397 : (Jvm.Cond.fieldLink "java/lang/Throwable" (198 : Nat) "java/lang/Throwable" "backtrace" "Ljava/lang/Object;") ∈ bigW := inB 397 (by decide +kernel) rfl
theorem wd_402 : (Jvm.Cond.fieldLink "java/lang/Throwable" (13 : Nat) "java/lang/Throwable" "UNASSIGNED_STACK" "[Ljava/lang/StackTraceElement;") ∈ bigW := inB 402 (by decide +kernel) rfl
theorem wd_404 : (Jvm.Cond.fieldLink "java/lang/Throwable" (20 : Nat) "java/lang/Throwable" "SUPPRESSED_SENTINEL" "Ljava/util/List;") ∈ bigW := inB 404 (by decide +kernel) rfl
theorem wd_416 : (Jvm.Cond.instantiable "java/lang/Throwable" (6 : Nat)) ∈ bigW := inB 416 (by decide +kernel) rfl
theorem wd_419 : (Jvm.Cond.methodLink "CranePlan" (59 : Nat) ({ cls := "java/lang/IllegalArgumentException", name := "<init>", desc := "(Ljava/lang/String;)V" } : Jvm.MethodName)) ∈ bigW := inB 419 (by decide +kernel) rfl
theorem wd_420 : (Jvm.Cond.instanceMethod ({ cls := "java/lang/IllegalArgumentException", name := "<init>", desc := "(Ljava/lang/String;)V" } : Jvm.MethodName)) ∈ bigW := inB 420 (by decide +kernel) rfl
theorem wd_422 : (Jvm.Cond.methodLink "java/lang/IllegalArgumentException" (7 : Nat) ({ cls := "java/lang/RuntimeException", name := "<init>", desc := "(Ljava/lang/String;)V" } : Jvm.MethodName)) ∈ bigW := inB 422 (by decide +kernel) rfl
theorem wd_423 : (Jvm.Cond.instanceMethod ({ cls := "java/lang/RuntimeException", name := "<init>", desc := "(Ljava/lang/String;)V" } : Jvm.MethodName)) ∈ bigW := inB 423 (by decide +kernel) rfl
theorem wd_425 : (Jvm.Cond.methodLink "java/lang/RuntimeException" (7 : Nat) ({ cls := "java/lang/Exception", name := "<init>", desc := "(Ljava/lang/String;)V" } : Jvm.MethodName)) ∈ bigW := inB 425 (by decide +kernel) rfl
theorem wd_426 : (Jvm.Cond.instanceMethod ({ cls := "java/lang/Exception", name := "<init>", desc := "(Ljava/lang/String;)V" } : Jvm.MethodName)) ∈ bigW := inB 426 (by decide +kernel) rfl
theorem wd_431 : (Jvm.Cond.fieldLink "java/lang/Throwable" (198 : Nat) "java/lang/Throwable" "backtrace" "Ljava/lang/Object;") ∈ bigW := inB 431 (by decide +kernel) rfl
theorem wd_432 : (Jvm.Cond.fieldLink "java/lang/Throwable" (31 : Nat) "java/lang/Throwable" "detailMessage" "Ljava/lang/String;") ∈ bigW := inB 432 (by decide +kernel) rfl
theorem wd_433 : (Jvm.Cond.fieldLink "java/lang/Throwable" (7 : Nat) "java/lang/Throwable" "cause" "Ljava/lang/Throwable;") ∈ bigW := inB 433 (by decide +kernel) rfl
theorem wd_434 : (Jvm.Cond.fieldLink "java/lang/Throwable" (17 : Nat) "java/lang/Throwable" "stackTrace" "[Ljava/lang/StackTraceElement;") ∈ bigW := inB 434 (by decide +kernel) rfl
theorem wd_435 : (Jvm.Cond.fieldLink "java/lang/Throwable" (24 : Nat) "java/lang/Throwable" "suppressedExceptions" "Ljava/util/List;") ∈ bigW := inB 435 (by decide +kernel) rfl
theorem wd_444 : (Jvm.Cond.arrayClass Jvm.ClassFile.FieldType.byte) ∈ bigW := inB 444 (by decide +kernel) rfl
theorem nd_445 : (Jvm.Cond.methodLinkNest "CranePlan" (62 : Nat) ({ cls := "CranePlan$Bays", name := "isFull", desc := "()Z" } : Jvm.MethodName) "CranePlan") ∈ nwW := inN 445 (by decide +kernel) rfl
theorem wd_447 : (Jvm.Cond.instanceMethod ({ cls := "CranePlan$Bays", name := "isFull", desc := "()Z" } : Jvm.MethodName)) ∈ bigW := inB 447 (by decide +kernel) rfl
theorem wd_448 : (Jvm.Cond.code ({ cls := "CranePlan$Bays", name := "isFull", desc := "()Z" } : Jvm.MethodName) prog_2_method_3_code (1 : Nat) (Option.some Jvm.ClassFile.FieldType.boolean)) ∈ bigW := inB 448 (by decide +kernel) rfl
theorem wd_449 : (Jvm.Cond.classLink "CranePlan" (66 : Nat) "java/lang/IllegalStateException") ∈ bigW := inB 449 (by decide +kernel) rfl
theorem wd_450 : (Jvm.Cond.instantiable "java/lang/IllegalStateException" (6 : Nat)) ∈ bigW := inB 450 (by decide +kernel) rfl
theorem wd_459 : (Jvm.Cond.methodLink "CranePlan" (70 : Nat) ({ cls := "java/lang/IllegalStateException", name := "<init>", desc := "(Ljava/lang/String;)V" } : Jvm.MethodName)) ∈ bigW := inB 459 (by decide +kernel) rfl
theorem wd_460 : (Jvm.Cond.instanceMethod ({ cls := "java/lang/IllegalStateException", name := "<init>", desc := "(Ljava/lang/String;)V" } : Jvm.MethodName)) ∈ bigW := inB 460 (by decide +kernel) rfl
theorem wd_462 : (Jvm.Cond.methodLink "java/lang/IllegalStateException" (7 : Nat) ({ cls := "java/lang/RuntimeException", name := "<init>", desc := "(Ljava/lang/String;)V" } : Jvm.MethodName)) ∈ bigW := inB 462 (by decide +kernel) rfl
theorem nd_465 : (Jvm.Cond.methodLinkNest "CranePlan" (71 : Nat) ({ cls := "CranePlan$Bays", name := "add", desc := "(II)I" } : Jvm.MethodName) "CranePlan") ∈ nwW := inN 465 (by decide +kernel) rfl
theorem wd_467 : (Jvm.Cond.instanceMethod ({ cls := "CranePlan$Bays", name := "add", desc := "(II)I" } : Jvm.MethodName)) ∈ bigW := inB 467 (by decide +kernel) rfl
theorem wd_468 : (Jvm.Cond.code ({ cls := "CranePlan$Bays", name := "add", desc := "(II)I" } : Jvm.MethodName) prog_2_method_4_code (3 : Nat) (Option.some Jvm.ClassFile.FieldType.int)) ∈ bigW := inB 468 (by decide +kernel) rfl
theorem wd_469 : (Jvm.Cond.methodLink "CranePlan$Bays" (22 : Nat) ({ cls := "CranePlan$Bays", name := "isFull", desc := "()Z" } : Jvm.MethodName)) ∈ bigW := inB 469 (by decide +kernel) rfl
theorem wd_470 : (Jvm.Cond.methodLink "CranePlanLaw" (60 : Nat) ({ cls := "CranePlanLaw", name := "rate", desc := "(LCranePlan;III[J)I" } : Jvm.MethodName)) ∈ bigW := inB 470 (by decide +kernel) rfl
theorem wd_471 : (Jvm.Cond.static ({ cls := "CranePlanLaw", name := "rate", desc := "(LCranePlan;III[J)I" } : Jvm.MethodName)) ∈ bigW := inB 471 (by decide +kernel) rfl
theorem wd_472 : (Jvm.Cond.codeWith ({ cls := "CranePlanLaw", name := "rate", desc := "(LCranePlan;III[J)I" } : Jvm.MethodName) method_4_code (6 : Nat) (Option.some Jvm.ClassFile.FieldType.int) [((0 : Nat), (19 : Nat), (22 : Nat), (21 : Nat)), ((0 : Nat), (19 : Nat), (26 : Nat), (13 : Nat))]) ∈ bigW := inB 472 (by decide +kernel) rfl
theorem wd_473 : (Jvm.Cond.classLink "CranePlanLaw" (21 : Nat) "java/lang/ArithmeticException") ∈ bigW := inB 473 (by decide +kernel) rfl
theorem wd_474 : (Jvm.Cond.methodLink "CranePlanLaw" (17 : Nat) ({ cls := "CranePlan", name := "rate", desc := "(III)Z" } : Jvm.MethodName)) ∈ bigW := inB 474 (by decide +kernel) rfl
theorem wd_475 : (Jvm.Cond.instanceMethod ({ cls := "CranePlan", name := "rate", desc := "(III)Z" } : Jvm.MethodName)) ∈ bigW := inB 475 (by decide +kernel) rfl
theorem wd_476 : (Jvm.Cond.selects "CranePlan" ({ cls := "CranePlan", name := "rate", desc := "(III)Z" } : Jvm.MethodName) ({ cls := "CranePlan", name := "rate", desc := "(III)Z" } : Jvm.MethodName)) ∈ bigW := inB 476 (by decide +kernel) rfl
theorem wd_477 : (Jvm.Cond.code ({ cls := "CranePlan", name := "rate", desc := "(III)Z" } : Jvm.MethodName) prog_1_method_3_code (4 : Nat) (Option.some Jvm.ClassFile.FieldType.boolean)) ∈ bigW := inB 477 (by decide +kernel) rfl
theorem wd_478 : (Jvm.Cond.classLink "CranePlan" (75 : Nat) "java/lang/ArithmeticException") ∈ bigW := inB 478 (by decide +kernel) rfl
theorem wd_479 : (Jvm.Cond.instantiable "java/lang/ArithmeticException" (6 : Nat)) ∈ bigW := inB 479 (by decide +kernel) rfl
theorem wd_488 : (Jvm.Cond.methodLink "CranePlan" (79 : Nat) ({ cls := "java/lang/ArithmeticException", name := "<init>", desc := "(Ljava/lang/String;)V" } : Jvm.MethodName)) ∈ bigW := inB 488 (by decide +kernel) rfl
theorem wd_489 : (Jvm.Cond.instanceMethod ({ cls := "java/lang/ArithmeticException", name := "<init>", desc := "(Ljava/lang/String;)V" } : Jvm.MethodName)) ∈ bigW := inB 489 (by decide +kernel) rfl
theorem wd_491 : (Jvm.Cond.methodLink "java/lang/ArithmeticException" (7 : Nat) ({ cls := "java/lang/RuntimeException", name := "<init>", desc := "(Ljava/lang/String;)V" } : Jvm.MethodName)) ∈ bigW := inB 491 (by decide +kernel) rfl
theorem nd_494 : (Jvm.Cond.methodLinkNest "CranePlan" (80 : Nat) ({ cls := "CranePlan$Cranes", name := "has", desc := "(I)Z" } : Jvm.MethodName) "CranePlan") ∈ nwW := inN 494 (by decide +kernel) rfl
theorem nd_497 : (Jvm.Cond.methodLinkNest "CranePlan" (88 : Nat) ({ cls := "CranePlan$Cranes", name := "setRate", desc := "(III)V" } : Jvm.MethodName) "CranePlan") ∈ nwW := inN 497 (by decide +kernel) rfl
theorem wd_499 : (Jvm.Cond.instanceMethod ({ cls := "CranePlan$Cranes", name := "setRate", desc := "(III)V" } : Jvm.MethodName)) ∈ bigW := inB 499 (by decide +kernel) rfl
theorem wd_500 : (Jvm.Cond.code ({ cls := "CranePlan$Cranes", name := "setRate", desc := "(III)V" } : Jvm.MethodName) prog_3_method_5_code (4 : Nat) (Option.none : Option Jvm.ClassFile.FieldType)) ∈ bigW := inB 500 (by decide +kernel) rfl
theorem wd_501 : (Jvm.Cond.methodLink "CranePlanLaw" (73 : Nat) ({ cls := "CranePlanLaw", name := "works", desc := "(LCranePlan;II[J)I" } : Jvm.MethodName)) ∈ bigW := inB 501 (by decide +kernel) rfl
theorem wd_502 : (Jvm.Cond.static ({ cls := "CranePlanLaw", name := "works", desc := "(LCranePlan;II[J)I" } : Jvm.MethodName)) ∈ bigW := inB 502 (by decide +kernel) rfl
theorem wd_503 : (Jvm.Cond.codeWith ({ cls := "CranePlanLaw", name := "works", desc := "(LCranePlan;II[J)I" } : Jvm.MethodName) method_5_code (5 : Nat) (Option.some Jvm.ClassFile.FieldType.int) [((0 : Nat), (10 : Nat), (13 : Nat), (26 : Nat)), ((0 : Nat), (10 : Nat), (17 : Nat), (15 : Nat))]) ∈ bigW := inB 503 (by decide +kernel) rfl
theorem wd_504 : (Jvm.Cond.classLink "CranePlanLaw" (26 : Nat) "java/lang/IndexOutOfBoundsException") ∈ bigW := inB 504 (by decide +kernel) rfl
theorem wd_505 : (Jvm.Cond.methodLink "CranePlanLaw" (23 : Nat) ({ cls := "CranePlan", name := "works", desc := "(II)I" } : Jvm.MethodName)) ∈ bigW := inB 505 (by decide +kernel) rfl
theorem wd_506 : (Jvm.Cond.instanceMethod ({ cls := "CranePlan", name := "works", desc := "(II)I" } : Jvm.MethodName)) ∈ bigW := inB 506 (by decide +kernel) rfl
theorem wd_507 : (Jvm.Cond.selects "CranePlan" ({ cls := "CranePlan", name := "works", desc := "(II)I" } : Jvm.MethodName) ({ cls := "CranePlan", name := "works", desc := "(II)I" } : Jvm.MethodName)) ∈ bigW := inB 507 (by decide +kernel) rfl
theorem wd_508 : (Jvm.Cond.code ({ cls := "CranePlan", name := "works", desc := "(II)I" } : Jvm.MethodName) prog_1_method_6_code (3 : Nat) (Option.some Jvm.ClassFile.FieldType.int)) ∈ bigW := inB 508 (by decide +kernel) rfl
theorem wd_509 : (Jvm.Cond.classLink "CranePlan" (102 : Nat) "java/lang/IndexOutOfBoundsException") ∈ bigW := inB 509 (by decide +kernel) rfl
theorem wd_510 : (Jvm.Cond.instantiable "java/lang/IndexOutOfBoundsException" (6 : Nat)) ∈ bigW := inB 510 (by decide +kernel) rfl
theorem wd_518 : (Jvm.Cond.methodLink "CranePlan" (104 : Nat) ({ cls := "java/lang/IndexOutOfBoundsException", name := "<init>", desc := "(Ljava/lang/String;)V" } : Jvm.MethodName)) ∈ bigW := inB 518 (by decide +kernel) rfl
theorem wd_519 : (Jvm.Cond.instanceMethod ({ cls := "java/lang/IndexOutOfBoundsException", name := "<init>", desc := "(Ljava/lang/String;)V" } : Jvm.MethodName)) ∈ bigW := inB 519 (by decide +kernel) rfl
theorem wd_521 : (Jvm.Cond.methodLink "java/lang/IndexOutOfBoundsException" (7 : Nat) ({ cls := "java/lang/RuntimeException", name := "<init>", desc := "(Ljava/lang/String;)V" } : Jvm.MethodName)) ∈ bigW := inB 521 (by decide +kernel) rfl
theorem nd_525 : (Jvm.Cond.methodLinkNest "CranePlan" (107 : Nat) ({ cls := "CranePlan$Timetable", name := "bayWorkedAt", desc := "(II)I" } : Jvm.MethodName) "CranePlan") ∈ nwW := inN 525 (by decide +kernel) rfl
theorem wd_527 : (Jvm.Cond.instanceMethod ({ cls := "CranePlan$Timetable", name := "bayWorkedAt", desc := "(II)I" } : Jvm.MethodName)) ∈ bigW := inB 527 (by decide +kernel) rfl
theorem wd_528 : (Jvm.Cond.code ({ cls := "CranePlan$Timetable", name := "bayWorkedAt", desc := "(II)I" } : Jvm.MethodName) prog_5_method_13_code (4 : Nat) (Option.some Jvm.ClassFile.FieldType.int)) ∈ bigW := inB 528 (by decide +kernel) rfl
theorem wd_529 : (Jvm.Cond.methodLink "CranePlanLaw" (76 : Nat) ({ cls := "CranePlanLaw", name := "where", desc := "(LCranePlan;II[J)I" } : Jvm.MethodName)) ∈ bigW := inB 529 (by decide +kernel) rfl
theorem wd_530 : (Jvm.Cond.static ({ cls := "CranePlanLaw", name := "where", desc := "(LCranePlan;II[J)I" } : Jvm.MethodName)) ∈ bigW := inB 530 (by decide +kernel) rfl
theorem wd_531 : (Jvm.Cond.codeWith ({ cls := "CranePlanLaw", name := "where", desc := "(LCranePlan;II[J)I" } : Jvm.MethodName) method_6_code (5 : Nat) (Option.some Jvm.ClassFile.FieldType.int) [((0 : Nat), (10 : Nat), (13 : Nat), (26 : Nat)), ((0 : Nat), (10 : Nat), (17 : Nat), (15 : Nat))]) ∈ bigW := inB 531 (by decide +kernel) rfl
theorem wd_532 : (Jvm.Cond.methodLink "CranePlanLaw" (28 : Nat) ({ cls := "CranePlan", name := "where", desc := "(II)I" } : Jvm.MethodName)) ∈ bigW := inB 532 (by decide +kernel) rfl
theorem wd_533 : (Jvm.Cond.instanceMethod ({ cls := "CranePlan", name := "where", desc := "(II)I" } : Jvm.MethodName)) ∈ bigW := inB 533 (by decide +kernel) rfl
theorem wd_534 : (Jvm.Cond.selects "CranePlan" ({ cls := "CranePlan", name := "where", desc := "(II)I" } : Jvm.MethodName) ({ cls := "CranePlan", name := "where", desc := "(II)I" } : Jvm.MethodName)) ∈ bigW := inB 534 (by decide +kernel) rfl
theorem wd_535 : (Jvm.Cond.code ({ cls := "CranePlan", name := "where", desc := "(II)I" } : Jvm.MethodName) prog_1_method_7_code (3 : Nat) (Option.some Jvm.ClassFile.FieldType.int)) ∈ bigW := inB 535 (by decide +kernel) rfl
theorem nd_537 : (Jvm.Cond.methodLinkNest "CranePlan" (112 : Nat) ({ cls := "CranePlan$Timetable", name := "bayCameTo", desc := "(II)I" } : Jvm.MethodName) "CranePlan") ∈ nwW := inN 537 (by decide +kernel) rfl
theorem wd_539 : (Jvm.Cond.instanceMethod ({ cls := "CranePlan$Timetable", name := "bayCameTo", desc := "(II)I" } : Jvm.MethodName)) ∈ bigW := inB 539 (by decide +kernel) rfl
theorem wd_540 : (Jvm.Cond.code ({ cls := "CranePlan$Timetable", name := "bayCameTo", desc := "(II)I" } : Jvm.MethodName) prog_5_method_14_code (5 : Nat) (Option.some Jvm.ClassFile.FieldType.int)) ∈ bigW := inB 540 (by decide +kernel) rfl
theorem wd_541 : (Jvm.Cond.methodLink "CranePlanLaw" (79 : Nat) ({ cls := "CranePlanLaw", name := "fails", desc := "(LCranePlan;II[J)I" } : Jvm.MethodName)) ∈ bigW := inB 541 (by decide +kernel) rfl
theorem wd_542 : (Jvm.Cond.static ({ cls := "CranePlanLaw", name := "fails", desc := "(LCranePlan;II[J)I" } : Jvm.MethodName)) ∈ bigW := inB 542 (by decide +kernel) rfl
theorem wd_543 : (Jvm.Cond.codeWith ({ cls := "CranePlanLaw", name := "fails", desc := "(LCranePlan;II[J)I" } : Jvm.MethodName) method_7_code (5 : Nat) (Option.some Jvm.ClassFile.FieldType.int) [((0 : Nat), (10 : Nat), (13 : Nat), (26 : Nat)), ((0 : Nat), (10 : Nat), (17 : Nat), (13 : Nat)), ((0 : Nat), (10 : Nat), (21 : Nat), (15 : Nat))]) ∈ bigW := inB 543 (by decide +kernel) rfl
theorem wd_544 : (Jvm.Cond.methodLink "CranePlanLaw" (31 : Nat) ({ cls := "CranePlan", name := "fails", desc := "(II)I" } : Jvm.MethodName)) ∈ bigW := inB 544 (by decide +kernel) rfl
theorem wd_545 : (Jvm.Cond.instanceMethod ({ cls := "CranePlan", name := "fails", desc := "(II)I" } : Jvm.MethodName)) ∈ bigW := inB 545 (by decide +kernel) rfl
theorem wd_546 : (Jvm.Cond.selects "CranePlan" ({ cls := "CranePlan", name := "fails", desc := "(II)I" } : Jvm.MethodName) ({ cls := "CranePlan", name := "fails", desc := "(II)I" } : Jvm.MethodName)) ∈ bigW := inB 546 (by decide +kernel) rfl
theorem wd_547 : (Jvm.Cond.code ({ cls := "CranePlan", name := "fails", desc := "(II)I" } : Jvm.MethodName) prog_1_method_8_code (4 : Nat) (Option.some Jvm.ClassFile.FieldType.int)) ∈ bigW := inB 547 (by decide +kernel) rfl
theorem nd_548 : (Jvm.Cond.methodLinkNest "CranePlan" (115 : Nat) ({ cls := "CranePlan$Cranes", name := "isOut", desc := "(I)Z" } : Jvm.MethodName) "CranePlan") ∈ nwW := inN 548 (by decide +kernel) rfl
theorem nd_550 : (Jvm.Cond.methodLinkNest "CranePlan" (123 : Nat) ({ cls := "CranePlan$Timetable", name := "doneBy", desc := "(II)I" } : Jvm.MethodName) "CranePlan") ∈ nwW := inN 550 (by decide +kernel) rfl
theorem wd_552 : (Jvm.Cond.instanceMethod ({ cls := "CranePlan$Timetable", name := "doneBy", desc := "(II)I" } : Jvm.MethodName)) ∈ bigW := inB 552 (by decide +kernel) rfl
theorem wd_553 : (Jvm.Cond.code ({ cls := "CranePlan$Timetable", name := "doneBy", desc := "(II)I" } : Jvm.MethodName) prog_5_method_15_code (3 : Nat) (Option.some Jvm.ClassFile.FieldType.int)) ∈ bigW := inB 553 (by decide +kernel) rfl
theorem nd_554 : (Jvm.Cond.methodLinkNest "CranePlan$Timetable" (101 : Nat) ({ cls := "CranePlan$Cranes", name := "movesIn", desc := "(II)I" } : Jvm.MethodName) "CranePlan") ∈ nwW := inN 554 (by decide +kernel) rfl
theorem wd_556 : (Jvm.Cond.instanceMethod ({ cls := "CranePlan$Cranes", name := "movesIn", desc := "(II)I" } : Jvm.MethodName)) ∈ bigW := inB 556 (by decide +kernel) rfl
theorem wd_557 : (Jvm.Cond.code ({ cls := "CranePlan$Cranes", name := "movesIn", desc := "(II)I" } : Jvm.MethodName) prog_3_method_8_code (3 : Nat) (Option.some Jvm.ClassFile.FieldType.int)) ∈ bigW := inB 557 (by decide +kernel) rfl
theorem nd_558 : (Jvm.Cond.methodLinkNest "CranePlan" (126 : Nat) ({ cls := "CranePlan$Bays", name := "takeOff", desc := "(II)V" } : Jvm.MethodName) "CranePlan") ∈ nwW := inN 558 (by decide +kernel) rfl
theorem wd_560 : (Jvm.Cond.instanceMethod ({ cls := "CranePlan$Bays", name := "takeOff", desc := "(II)V" } : Jvm.MethodName)) ∈ bigW := inB 560 (by decide +kernel) rfl
theorem wd_561 : (Jvm.Cond.code ({ cls := "CranePlan$Bays", name := "takeOff", desc := "(II)V" } : Jvm.MethodName) prog_2_method_7_code (4 : Nat) (Option.none : Option Jvm.ClassFile.FieldType)) ∈ bigW := inB 561 (by decide +kernel) rfl
theorem wd_562 : (Jvm.Cond.methodLink "CranePlan$Bays" (34 : Nat) ({ cls := "java/lang/Math", name := "min", desc := "(II)I" } : Jvm.MethodName)) ∈ bigW := inB 562 (by decide +kernel) rfl
theorem nd_563 : (Jvm.Cond.methodLinkNest "CranePlan" (129 : Nat) ({ cls := "CranePlan$Cranes", name := "putOut", desc := "(I)V" } : Jvm.MethodName) "CranePlan") ∈ nwW := inN 563 (by decide +kernel) rfl
theorem wd_565 : (Jvm.Cond.instanceMethod ({ cls := "CranePlan$Cranes", name := "putOut", desc := "(I)V" } : Jvm.MethodName)) ∈ bigW := inB 565 (by decide +kernel) rfl
theorem wd_566 : (Jvm.Cond.code ({ cls := "CranePlan$Cranes", name := "putOut", desc := "(I)V" } : Jvm.MethodName) prog_3_method_4_code (2 : Nat) (Option.none : Option Jvm.ClassFile.FieldType)) ∈ bigW := inB 566 (by decide +kernel) rfl
theorem wd_567 : (Jvm.Cond.methodLink "CranePlan" (133 : Nat) ({ cls := "CranePlan", name := "plan", desc := "()I" } : Jvm.MethodName)) ∈ bigW := inB 567 (by decide +kernel) rfl
theorem wd_568 : (Jvm.Cond.methodLink "CranePlanLaw" (86 : Nat) ({ cls := "CranePlanLaw", name := "row", desc := "(LCranePlan;II[J)I" } : Jvm.MethodName)) ∈ bigW := inB 568 (by decide +kernel) rfl
theorem wd_569 : (Jvm.Cond.static ({ cls := "CranePlanLaw", name := "row", desc := "(LCranePlan;II[J)I" } : Jvm.MethodName)) ∈ bigW := inB 569 (by decide +kernel) rfl
theorem wd_570 : (Jvm.Cond.codeWith ({ cls := "CranePlanLaw", name := "row", desc := "(LCranePlan;II[J)I" } : Jvm.MethodName) method_8_code (5 : Nat) (Option.some Jvm.ClassFile.FieldType.int) [((0 : Nat), (10 : Nat), (13 : Nat), (15 : Nat)), ((0 : Nat), (10 : Nat), (17 : Nat), (26 : Nat))]) ∈ bigW := inB 570 (by decide +kernel) rfl
theorem wd_571 : (Jvm.Cond.methodLink "CranePlanLaw" (34 : Nat) ({ cls := "CranePlan", name := "row", desc := "(II)I" } : Jvm.MethodName)) ∈ bigW := inB 571 (by decide +kernel) rfl
theorem wd_572 : (Jvm.Cond.instanceMethod ({ cls := "CranePlan", name := "row", desc := "(II)I" } : Jvm.MethodName)) ∈ bigW := inB 572 (by decide +kernel) rfl
theorem wd_573 : (Jvm.Cond.selects "CranePlan" ({ cls := "CranePlan", name := "row", desc := "(II)I" } : Jvm.MethodName) ({ cls := "CranePlan", name := "row", desc := "(II)I" } : Jvm.MethodName)) ∈ bigW := inB 573 (by decide +kernel) rfl
theorem wd_574 : (Jvm.Cond.code ({ cls := "CranePlan", name := "row", desc := "(II)I" } : Jvm.MethodName) prog_1_method_10_code (3 : Nat) (Option.some Jvm.ClassFile.FieldType.int)) ∈ bigW := inB 574 (by decide +kernel) rfl
theorem nd_576 : (Jvm.Cond.methodLinkNest "CranePlan" (163 : Nat) ({ cls := "CranePlan$Timetable", name := "ofRow", desc := "(II)I" } : Jvm.MethodName) "CranePlan") ∈ nwW := inN 576 (by decide +kernel) rfl
theorem wd_578 : (Jvm.Cond.instanceMethod ({ cls := "CranePlan$Timetable", name := "ofRow", desc := "(II)I" } : Jvm.MethodName)) ∈ bigW := inB 578 (by decide +kernel) rfl
theorem wd_579 : (Jvm.Cond.code ({ cls := "CranePlan$Timetable", name := "ofRow", desc := "(II)I" } : Jvm.MethodName) prog_5_method_12_code (4 : Nat) (Option.some Jvm.ClassFile.FieldType.int)) ∈ bigW := inB 579 (by decide +kernel) rfl
theorem wd_580 : (Jvm.Cond.methodLink "CranePlanLaw" (89 : Nat) ({ cls := "CranePlanLaw", name := "look", desc := "(LCranePlan;II[J)I" } : Jvm.MethodName)) ∈ bigW := inB 580 (by decide +kernel) rfl
theorem wd_581 : (Jvm.Cond.static ({ cls := "CranePlanLaw", name := "look", desc := "(LCranePlan;II[J)I" } : Jvm.MethodName)) ∈ bigW := inB 581 (by decide +kernel) rfl
theorem wd_582 : (Jvm.Cond.codeWith ({ cls := "CranePlanLaw", name := "look", desc := "(LCranePlan;II[J)I" } : Jvm.MethodName) method_9_code (5 : Nat) (Option.some Jvm.ClassFile.FieldType.int) [((0 : Nat), (10 : Nat), (13 : Nat), (26 : Nat))]) ∈ bigW := inB 582 (by decide +kernel) rfl
theorem wd_583 : (Jvm.Cond.methodLink "CranePlanLaw" (37 : Nat) ({ cls := "CranePlan", name := "look", desc := "(II)I" } : Jvm.MethodName)) ∈ bigW := inB 583 (by decide +kernel) rfl
theorem wd_584 : (Jvm.Cond.instanceMethod ({ cls := "CranePlan", name := "look", desc := "(II)I" } : Jvm.MethodName)) ∈ bigW := inB 584 (by decide +kernel) rfl
theorem wd_585 : (Jvm.Cond.selects "CranePlan" ({ cls := "CranePlan", name := "look", desc := "(II)I" } : Jvm.MethodName) ({ cls := "CranePlan", name := "look", desc := "(II)I" } : Jvm.MethodName)) ∈ bigW := inB 585 (by decide +kernel) rfl
theorem wd_586 : (Jvm.Cond.code ({ cls := "CranePlan", name := "look", desc := "(II)I" } : Jvm.MethodName) prog_1_method_11_code (3 : Nat) (Option.some Jvm.ClassFile.FieldType.int)) ∈ bigW := inB 586 (by decide +kernel) rfl
theorem nd_587 : (Jvm.Cond.methodLinkNest "CranePlan" (166 : Nat) ({ cls := "CranePlan$Bays", name := "has", desc := "(I)Z" } : Jvm.MethodName) "CranePlan") ∈ nwW := inN 587 (by decide +kernel) rfl
theorem wd_589 : (Jvm.Cond.classLink "CranePlanLaw" (49 : Nat) "CranePlanModel") ∈ bigW := inB 589 (by decide +kernel) rfl
theorem wd_590 : (Jvm.Cond.instantiable "CranePlanModel" (16 : Nat)) ∈ bigW := inB 590 (by decide +kernel) rfl
theorem wd_591 : (Jvm.Cond.methodLink "CranePlanLaw" (51 : Nat) ({ cls := "CranePlanModel", name := "<init>", desc := "(II)V" } : Jvm.MethodName)) ∈ bigW := inB 591 (by decide +kernel) rfl
theorem wd_592 : (Jvm.Cond.instanceMethod ({ cls := "CranePlanModel", name := "<init>", desc := "(II)V" } : Jvm.MethodName)) ∈ bigW := inB 592 (by decide +kernel) rfl
theorem wd_593 : (Jvm.Cond.code ({ cls := "CranePlanModel", name := "<init>", desc := "(II)V" } : Jvm.MethodName) prog_7_method_1_code (3 : Nat) (Option.none : Option Jvm.ClassFile.FieldType)) ∈ bigW := inB 593 (by decide +kernel) rfl
theorem wd_594 : (Jvm.Cond.methodLink "CranePlanModel" (1 : Nat) ({ cls := "java/lang/Object", name := "<init>", desc := "()V" } : Jvm.MethodName)) ∈ bigW := inB 594 (by decide +kernel) rfl
theorem wd_595 : (Jvm.Cond.fieldLink "CranePlanModel" (51 : Nat) "CranePlanModel" "thrown" "I") ∈ bigW := inB 595 (by decide +kernel) rfl
theorem wd_596 : (Jvm.Cond.fieldLink "CranePlanModel" (45 : Nat) "CranePlanModel" "cranes" "I") ∈ bigW := inB 596 (by decide +kernel) rfl
theorem wd_597 : (Jvm.Cond.fieldLink "CranePlanModel" (48 : Nat) "CranePlanModel" "gap" "I") ∈ bigW := inB 597 (by decide +kernel) rfl
theorem wd_598 : (Jvm.Cond.fieldLink "CranePlanModel" (62 : Nat) "CranePlanModel" "bays" "I") ∈ bigW := inB 598 (by decide +kernel) rfl
theorem wd_599 : (Jvm.Cond.fieldLink "CranePlanModel" (7 : Nat) "CranePlanModel" "hatch" "[I") ∈ bigW := inB 599 (by decide +kernel) rfl
theorem wd_600 : (Jvm.Cond.fieldLink "CranePlanModel" (13 : Nat) "CranePlanModel" "work" "[I") ∈ bigW := inB 600 (by decide +kernel) rfl
theorem wd_601 : (Jvm.Cond.fieldLink "CranePlanModel" (16 : Nat) "CranePlanModel" "moves" "[I") ∈ bigW := inB 601 (by decide +kernel) rfl
theorem wd_602 : (Jvm.Cond.fieldLink "CranePlanModel" (19 : Nat) "CranePlanModel" "minutes" "[I") ∈ bigW := inB 602 (by decide +kernel) rfl
theorem wd_603 : (Jvm.Cond.fieldLink "CranePlanModel" (22 : Nat) "CranePlanModel" "out" "[Z") ∈ bigW := inB 603 (by decide +kernel) rfl
theorem wd_604 : (Jvm.Cond.fieldLink "CranePlanModel" (26 : Nat) "CranePlanModel" "step" "I") ∈ bigW := inB 604 (by decide +kernel) rfl
theorem wd_605 : (Jvm.Cond.fieldLink "CranePlanModel" (65 : Nat) "CranePlanModel" "planned" "Z") ∈ bigW := inB 605 (by decide +kernel) rfl
theorem wd_606 : (Jvm.Cond.fieldLink "CranePlanModel" (30 : Nat) "CranePlanModel" "tried" "[I") ∈ bigW := inB 606 (by decide +kernel) rfl
theorem wd_607 : (Jvm.Cond.fieldLink "CranePlanModel" (33 : Nat) "CranePlanModel" "best" "[I") ∈ bigW := inB 607 (by decide +kernel) rfl
theorem wd_608 : (Jvm.Cond.fieldLink "CranePlanModel" (36 : Nat) "CranePlanModel" "come" "[I") ∈ bigW := inB 608 (by decide +kernel) rfl
theorem wd_609 : (Jvm.Cond.fieldLink "CranePlanModel" (39 : Nat) "CranePlanModel" "first" "[I") ∈ bigW := inB 609 (by decide +kernel) rfl
theorem wd_610 : (Jvm.Cond.fieldLink "CranePlanModel" (42 : Nat) "CranePlanModel" "last" "[I") ∈ bigW := inB 610 (by decide +kernel) rfl
theorem wd_644 : (Jvm.Cond.methodLink "CranePlanLaw" (56 : Nat) ({ cls := "CranePlanModel", name := "thrown", desc := "()I" } : Jvm.MethodName)) ∈ bigW := inB 644 (by decide +kernel) rfl
theorem wd_645 : (Jvm.Cond.instanceMethod ({ cls := "CranePlanModel", name := "thrown", desc := "()I" } : Jvm.MethodName)) ∈ bigW := inB 645 (by decide +kernel) rfl
theorem wd_646 : (Jvm.Cond.selects "CranePlanModel" ({ cls := "CranePlanModel", name := "thrown", desc := "()I" } : Jvm.MethodName) ({ cls := "CranePlanModel", name := "thrown", desc := "()I" } : Jvm.MethodName)) ∈ bigW := inB 646 (by decide +kernel) rfl
theorem wd_647 : (Jvm.Cond.code ({ cls := "CranePlanModel", name := "thrown", desc := "()I" } : Jvm.MethodName) prog_7_method_2_code (1 : Nat) (Option.some Jvm.ClassFile.FieldType.int)) ∈ bigW := inB 647 (by decide +kernel) rfl
theorem wd_648 : (Jvm.Cond.methodLink "CranePlanLaw" (55 : Nat) ({ cls := "CranePlanModel", name := "bay", desc := "(II)I" } : Jvm.MethodName)) ∈ bigW := inB 648 (by decide +kernel) rfl
theorem wd_649 : (Jvm.Cond.instanceMethod ({ cls := "CranePlanModel", name := "bay", desc := "(II)I" } : Jvm.MethodName)) ∈ bigW := inB 649 (by decide +kernel) rfl
theorem wd_650 : (Jvm.Cond.selects "CranePlanModel" ({ cls := "CranePlanModel", name := "bay", desc := "(II)I" } : Jvm.MethodName) ({ cls := "CranePlanModel", name := "bay", desc := "(II)I" } : Jvm.MethodName)) ∈ bigW := inB 650 (by decide +kernel) rfl
theorem wd_651 : (Jvm.Cond.code ({ cls := "CranePlanModel", name := "bay", desc := "(II)I" } : Jvm.MethodName) prog_7_method_6_code (3 : Nat) (Option.some Jvm.ClassFile.FieldType.int)) ∈ bigW := inB 651 (by decide +kernel) rfl
theorem wd_652 : (Jvm.Cond.methodLink "CranePlanModel" (54 : Nat) ({ cls := "CranePlanModel", name := "in", desc := "(III)Z" } : Jvm.MethodName)) ∈ bigW := inB 652 (by decide +kernel) rfl
theorem wd_653 : (Jvm.Cond.static ({ cls := "CranePlanModel", name := "in", desc := "(III)Z" } : Jvm.MethodName)) ∈ bigW := inB 653 (by decide +kernel) rfl
theorem wd_654 : (Jvm.Cond.code ({ cls := "CranePlanModel", name := "in", desc := "(III)Z" } : Jvm.MethodName) prog_7_method_4_code (3 : Nat) (Option.some Jvm.ClassFile.FieldType.boolean)) ∈ bigW := inB 654 (by decide +kernel) rfl
theorem wd_655 : (Jvm.Cond.methodLink "CranePlanModel" (58 : Nat) ({ cls := "CranePlanModel", name := "refuse", desc := "(I)I" } : Jvm.MethodName)) ∈ bigW := inB 655 (by decide +kernel) rfl
theorem wd_657 : (Jvm.Cond.instanceMethod ({ cls := "CranePlanModel", name := "refuse", desc := "(I)I" } : Jvm.MethodName)) ∈ bigW := inB 657 (by decide +kernel) rfl
theorem wd_658 : (Jvm.Cond.code ({ cls := "CranePlanModel", name := "refuse", desc := "(I)I" } : Jvm.MethodName) prog_7_method_3_code (2 : Nat) (Option.some Jvm.ClassFile.FieldType.int)) ∈ bigW := inB 658 (by decide +kernel) rfl
theorem wd_659 : (Jvm.Cond.methodLink "CranePlanLaw" (63 : Nat) ({ cls := "CranePlanModel", name := "rate", desc := "(III)Z" } : Jvm.MethodName)) ∈ bigW := inB 659 (by decide +kernel) rfl
theorem wd_660 : (Jvm.Cond.instanceMethod ({ cls := "CranePlanModel", name := "rate", desc := "(III)Z" } : Jvm.MethodName)) ∈ bigW := inB 660 (by decide +kernel) rfl
theorem wd_661 : (Jvm.Cond.selects "CranePlanModel" ({ cls := "CranePlanModel", name := "rate", desc := "(III)Z" } : Jvm.MethodName) ({ cls := "CranePlanModel", name := "rate", desc := "(III)Z" } : Jvm.MethodName)) ∈ bigW := inB 661 (by decide +kernel) rfl
theorem wd_662 : (Jvm.Cond.code ({ cls := "CranePlanModel", name := "rate", desc := "(III)Z" } : Jvm.MethodName) prog_7_method_7_code (4 : Nat) (Option.some Jvm.ClassFile.FieldType.boolean)) ∈ bigW := inB 662 (by decide +kernel) rfl
theorem wd_663 : (Jvm.Cond.methodLink "CranePlanModel" (69 : Nat) ({ cls := "CranePlanModel", name := "isCrane", desc := "(I)Z" } : Jvm.MethodName)) ∈ bigW := inB 663 (by decide +kernel) rfl
theorem wd_665 : (Jvm.Cond.instanceMethod ({ cls := "CranePlanModel", name := "isCrane", desc := "(I)Z" } : Jvm.MethodName)) ∈ bigW := inB 665 (by decide +kernel) rfl
theorem wd_666 : (Jvm.Cond.code ({ cls := "CranePlanModel", name := "isCrane", desc := "(I)Z" } : Jvm.MethodName) prog_7_method_5_code (2 : Nat) (Option.some Jvm.ClassFile.FieldType.boolean)) ∈ bigW := inB 666 (by decide +kernel) rfl
theorem wd_667 : (Jvm.Cond.methodLink "CranePlanLaw" (68 : Nat) ({ cls := "CranePlanModel", name := "step", desc := "(I)Z" } : Jvm.MethodName)) ∈ bigW := inB 667 (by decide +kernel) rfl
theorem wd_668 : (Jvm.Cond.instanceMethod ({ cls := "CranePlanModel", name := "step", desc := "(I)Z" } : Jvm.MethodName)) ∈ bigW := inB 668 (by decide +kernel) rfl
theorem wd_669 : (Jvm.Cond.selects "CranePlanModel" ({ cls := "CranePlanModel", name := "step", desc := "(I)Z" } : Jvm.MethodName) ({ cls := "CranePlanModel", name := "step", desc := "(I)Z" } : Jvm.MethodName)) ∈ bigW := inB 669 (by decide +kernel) rfl
theorem wd_670 : (Jvm.Cond.code ({ cls := "CranePlanModel", name := "step", desc := "(I)Z" } : Jvm.MethodName) prog_7_method_8_code (2 : Nat) (Option.some Jvm.ClassFile.FieldType.boolean)) ∈ bigW := inB 670 (by decide +kernel) rfl
theorem wd_671 : (Jvm.Cond.methodLink "CranePlanLaw" (72 : Nat) ({ cls := "CranePlanModel", name := "plan", desc := "()I" } : Jvm.MethodName)) ∈ bigW := inB 671 (by decide +kernel) rfl
theorem wd_672 : (Jvm.Cond.instanceMethod ({ cls := "CranePlanModel", name := "plan", desc := "()I" } : Jvm.MethodName)) ∈ bigW := inB 672 (by decide +kernel) rfl
theorem wd_673 : (Jvm.Cond.selects "CranePlanModel" ({ cls := "CranePlanModel", name := "plan", desc := "()I" } : Jvm.MethodName) ({ cls := "CranePlanModel", name := "plan", desc := "()I" } : Jvm.MethodName)) ∈ bigW := inB 673 (by decide +kernel) rfl
theorem wd_674 : (Jvm.Cond.code ({ cls := "CranePlanModel", name := "plan", desc := "()I" } : Jvm.MethodName) prog_7_method_17_code (1 : Nat) (Option.some Jvm.ClassFile.FieldType.int)) ∈ bigW := inB 674 (by decide +kernel) rfl
theorem wd_675 : (Jvm.Cond.methodLink "CranePlanModel" (101 : Nat) ({ cls := "CranePlanModel", name := "search", desc := "()I" } : Jvm.MethodName)) ∈ bigW := inB 675 (by decide +kernel) rfl
theorem wd_677 : (Jvm.Cond.instanceMethod ({ cls := "CranePlanModel", name := "search", desc := "()I" } : Jvm.MethodName)) ∈ bigW := inB 677 (by decide +kernel) rfl
theorem wd_678 : (Jvm.Cond.code ({ cls := "CranePlanModel", name := "search", desc := "()I" } : Jvm.MethodName) prog_7_method_16_code (7 : Nat) (Option.some Jvm.ClassFile.FieldType.int)) ∈ bigW := inB 678 (by decide +kernel) rfl
theorem wd_679 : (Jvm.Cond.methodLink "CranePlanModel" (73 : Nat) ({ cls := "CranePlanModel", name := "all", desc := "(I)I" } : Jvm.MethodName)) ∈ bigW := inB 679 (by decide +kernel) rfl
theorem wd_681 : (Jvm.Cond.instanceMethod ({ cls := "CranePlanModel", name := "all", desc := "(I)I" } : Jvm.MethodName)) ∈ bigW := inB 681 (by decide +kernel) rfl
theorem wd_682 : (Jvm.Cond.code ({ cls := "CranePlanModel", name := "all", desc := "(I)I" } : Jvm.MethodName) prog_7_method_9_code (2 : Nat) (Option.some Jvm.ClassFile.FieldType.int)) ∈ bigW := inB 682 (by decide +kernel) rfl
theorem wd_683 : (Jvm.Cond.constant "CranePlanModel" (84 : Nat) (1000000000 : Int32)) ∈ bigW := inB 683 (by decide +kernel) rfl
theorem wd_684 : (Jvm.Cond.methodLink "CranePlanModel" (85 : Nat) ({ cls := "CranePlanModel", name := "isAllowed", desc := "()Z" } : Jvm.MethodName)) ∈ bigW := inB 684 (by decide +kernel) rfl
theorem wd_686 : (Jvm.Cond.instanceMethod ({ cls := "CranePlanModel", name := "isAllowed", desc := "()Z" } : Jvm.MethodName)) ∈ bigW := inB 686 (by decide +kernel) rfl
theorem wd_687 : (Jvm.Cond.code ({ cls := "CranePlanModel", name := "isAllowed", desc := "()Z" } : Jvm.MethodName) prog_7_method_15_code (3 : Nat) (Option.some Jvm.ClassFile.FieldType.boolean)) ∈ bigW := inB 687 (by decide +kernel) rfl
theorem wd_688 : (Jvm.Cond.methodLink "CranePlanModel" (80 : Nat) ({ cls := "CranePlanModel", name := "spans", desc := "()Z" } : Jvm.MethodName)) ∈ bigW := inB 688 (by decide +kernel) rfl
theorem wd_690 : (Jvm.Cond.instanceMethod ({ cls := "CranePlanModel", name := "spans", desc := "()Z" } : Jvm.MethodName)) ∈ bigW := inB 690 (by decide +kernel) rfl
theorem wd_691 : (Jvm.Cond.code ({ cls := "CranePlanModel", name := "spans", desc := "()Z" } : Jvm.MethodName) prog_7_method_11_code (5 : Nat) (Option.some Jvm.ClassFile.FieldType.boolean)) ∈ bigW := inB 691 (by decide +kernel) rfl
theorem wd_692 : (Jvm.Cond.methodLink "CranePlanModel" (88 : Nat) ({ cls := "CranePlanModel", name := "times", desc := "()I" } : Jvm.MethodName)) ∈ bigW := inB 692 (by decide +kernel) rfl
theorem wd_694 : (Jvm.Cond.instanceMethod ({ cls := "CranePlanModel", name := "times", desc := "()I" } : Jvm.MethodName)) ∈ bigW := inB 694 (by decide +kernel) rfl
theorem wd_695 : (Jvm.Cond.code ({ cls := "CranePlanModel", name := "times", desc := "()I" } : Jvm.MethodName) prog_7_method_12_code (7 : Nat) (Option.some Jvm.ClassFile.FieldType.int)) ∈ bigW := inB 695 (by decide +kernel) rfl
theorem wd_696 : (Jvm.Cond.methodLink "CranePlanModel" (76 : Nat) ({ cls := "CranePlanModel", name := "takes", desc := "(II)I" } : Jvm.MethodName)) ∈ bigW := inB 696 (by decide +kernel) rfl
theorem wd_698 : (Jvm.Cond.instanceMethod ({ cls := "CranePlanModel", name := "takes", desc := "(II)I" } : Jvm.MethodName)) ∈ bigW := inB 698 (by decide +kernel) rfl
theorem wd_699 : (Jvm.Cond.code ({ cls := "CranePlanModel", name := "takes", desc := "(II)I" } : Jvm.MethodName) prog_7_method_10_code (4 : Nat) (Option.some Jvm.ClassFile.FieldType.int)) ∈ bigW := inB 699 (by decide +kernel) rfl
theorem wd_700 : (Jvm.Cond.methodLink "CranePlanModel" (92 : Nat) ({ cls := "CranePlanModel", name := "steps", desc := "()I" } : Jvm.MethodName)) ∈ bigW := inB 700 (by decide +kernel) rfl
theorem wd_702 : (Jvm.Cond.instanceMethod ({ cls := "CranePlanModel", name := "steps", desc := "()I" } : Jvm.MethodName)) ∈ bigW := inB 702 (by decide +kernel) rfl
theorem wd_703 : (Jvm.Cond.code ({ cls := "CranePlanModel", name := "steps", desc := "()I" } : Jvm.MethodName) prog_7_method_13_code (3 : Nat) (Option.some Jvm.ClassFile.FieldType.int)) ∈ bigW := inB 703 (by decide +kernel) rfl
theorem wd_704 : (Jvm.Cond.methodLink "CranePlanModel" (95 : Nat) ({ cls := "CranePlanModel", name := "goesOn", desc := "()Z" } : Jvm.MethodName)) ∈ bigW := inB 704 (by decide +kernel) rfl
theorem wd_706 : (Jvm.Cond.instanceMethod ({ cls := "CranePlanModel", name := "goesOn", desc := "()Z" } : Jvm.MethodName)) ∈ bigW := inB 706 (by decide +kernel) rfl
theorem wd_707 : (Jvm.Cond.code ({ cls := "CranePlanModel", name := "goesOn", desc := "()Z" } : Jvm.MethodName) prog_7_method_14_code (3 : Nat) (Option.some Jvm.ClassFile.FieldType.boolean)) ∈ bigW := inB 707 (by decide +kernel) rfl
theorem wd_708 : (Jvm.Cond.methodLink "CranePlanModel" (98 : Nat) ({ cls := "CranePlanModel", name := "working", desc := "()I" } : Jvm.MethodName)) ∈ bigW := inB 708 (by decide +kernel) rfl
theorem wd_710 : (Jvm.Cond.instanceMethod ({ cls := "CranePlanModel", name := "working", desc := "()I" } : Jvm.MethodName)) ∈ bigW := inB 710 (by decide +kernel) rfl
theorem wd_711 : (Jvm.Cond.code ({ cls := "CranePlanModel", name := "working", desc := "()I" } : Jvm.MethodName) prog_7_method_22_code (3 : Nat) (Option.some Jvm.ClassFile.FieldType.int)) ∈ bigW := inB 711 (by decide +kernel) rfl
theorem wd_712 : (Jvm.Cond.methodLink "CranePlanLaw" (75 : Nat) ({ cls := "CranePlanModel", name := "works", desc := "(II)I" } : Jvm.MethodName)) ∈ bigW := inB 712 (by decide +kernel) rfl
theorem wd_713 : (Jvm.Cond.instanceMethod ({ cls := "CranePlanModel", name := "works", desc := "(II)I" } : Jvm.MethodName)) ∈ bigW := inB 713 (by decide +kernel) rfl
theorem wd_714 : (Jvm.Cond.selects "CranePlanModel" ({ cls := "CranePlanModel", name := "works", desc := "(II)I" } : Jvm.MethodName) ({ cls := "CranePlanModel", name := "works", desc := "(II)I" } : Jvm.MethodName)) ∈ bigW := inB 714 (by decide +kernel) rfl
theorem wd_715 : (Jvm.Cond.code ({ cls := "CranePlanModel", name := "works", desc := "(II)I" } : Jvm.MethodName) prog_7_method_19_code (5 : Nat) (Option.some Jvm.ClassFile.FieldType.int)) ∈ bigW := inB 715 (by decide +kernel) rfl
theorem wd_716 : (Jvm.Cond.methodLink "CranePlanModel" (104 : Nat) ({ cls := "CranePlanModel", name := "lays", desc := "()I" } : Jvm.MethodName)) ∈ bigW := inB 716 (by decide +kernel) rfl
theorem wd_718 : (Jvm.Cond.instanceMethod ({ cls := "CranePlanModel", name := "lays", desc := "()I" } : Jvm.MethodName)) ∈ bigW := inB 718 (by decide +kernel) rfl
theorem wd_719 : (Jvm.Cond.code ({ cls := "CranePlanModel", name := "lays", desc := "()I" } : Jvm.MethodName) prog_7_method_18_code (2 : Nat) (Option.some Jvm.ClassFile.FieldType.int)) ∈ bigW := inB 719 (by decide +kernel) rfl
theorem wd_720 : (Jvm.Cond.methodLink "CranePlanLaw" (78 : Nat) ({ cls := "CranePlanModel", name := "where", desc := "(II)I" } : Jvm.MethodName)) ∈ bigW := inB 720 (by decide +kernel) rfl
theorem wd_721 : (Jvm.Cond.instanceMethod ({ cls := "CranePlanModel", name := "where", desc := "(II)I" } : Jvm.MethodName)) ∈ bigW := inB 721 (by decide +kernel) rfl
theorem wd_722 : (Jvm.Cond.selects "CranePlanModel" ({ cls := "CranePlanModel", name := "where", desc := "(II)I" } : Jvm.MethodName) ({ cls := "CranePlanModel", name := "where", desc := "(II)I" } : Jvm.MethodName)) ∈ bigW := inB 722 (by decide +kernel) rfl
theorem wd_723 : (Jvm.Cond.code ({ cls := "CranePlanModel", name := "where", desc := "(II)I" } : Jvm.MethodName) prog_7_method_20_code (6 : Nat) (Option.some Jvm.ClassFile.FieldType.int)) ∈ bigW := inB 723 (by decide +kernel) rfl
theorem wd_724 : (Jvm.Cond.methodLink "CranePlanLaw" (81 : Nat) ({ cls := "CranePlanModel", name := "fails", desc := "(II)I" } : Jvm.MethodName)) ∈ bigW := inB 724 (by decide +kernel) rfl
theorem wd_725 : (Jvm.Cond.instanceMethod ({ cls := "CranePlanModel", name := "fails", desc := "(II)I" } : Jvm.MethodName)) ∈ bigW := inB 725 (by decide +kernel) rfl
theorem wd_726 : (Jvm.Cond.selects "CranePlanModel" ({ cls := "CranePlanModel", name := "fails", desc := "(II)I" } : Jvm.MethodName) ({ cls := "CranePlanModel", name := "fails", desc := "(II)I" } : Jvm.MethodName)) ∈ bigW := inB 726 (by decide +kernel) rfl
theorem wd_727 : (Jvm.Cond.code ({ cls := "CranePlanModel", name := "fails", desc := "(II)I" } : Jvm.MethodName) prog_7_method_21_code (11 : Nat) (Option.some Jvm.ClassFile.FieldType.int)) ∈ bigW := inB 727 (by decide +kernel) rfl
theorem wd_728 : (Jvm.Cond.methodLink "CranePlanLaw" (85 : Nat) ({ cls := "CranePlanModel", name := "bound", desc := "()I" } : Jvm.MethodName)) ∈ bigW := inB 728 (by decide +kernel) rfl
theorem wd_729 : (Jvm.Cond.instanceMethod ({ cls := "CranePlanModel", name := "bound", desc := "()I" } : Jvm.MethodName)) ∈ bigW := inB 729 (by decide +kernel) rfl
theorem wd_730 : (Jvm.Cond.selects "CranePlanModel" ({ cls := "CranePlanModel", name := "bound", desc := "()I" } : Jvm.MethodName) ({ cls := "CranePlanModel", name := "bound", desc := "()I" } : Jvm.MethodName)) ∈ bigW := inB 730 (by decide +kernel) rfl
theorem wd_731 : (Jvm.Cond.code ({ cls := "CranePlanModel", name := "bound", desc := "()I" } : Jvm.MethodName) prog_7_method_23_code (9 : Nat) (Option.some Jvm.ClassFile.FieldType.int)) ∈ bigW := inB 731 (by decide +kernel) rfl
theorem wd_732 : (Jvm.Cond.methodLink "CranePlanLaw" (88 : Nat) ({ cls := "CranePlanModel", name := "row", desc := "(II)I" } : Jvm.MethodName)) ∈ bigW := inB 732 (by decide +kernel) rfl
theorem wd_733 : (Jvm.Cond.instanceMethod ({ cls := "CranePlanModel", name := "row", desc := "(II)I" } : Jvm.MethodName)) ∈ bigW := inB 733 (by decide +kernel) rfl
theorem wd_734 : (Jvm.Cond.selects "CranePlanModel" ({ cls := "CranePlanModel", name := "row", desc := "(II)I" } : Jvm.MethodName) ({ cls := "CranePlanModel", name := "row", desc := "(II)I" } : Jvm.MethodName)) ∈ bigW := inB 734 (by decide +kernel) rfl
theorem wd_735 : (Jvm.Cond.code ({ cls := "CranePlanModel", name := "row", desc := "(II)I" } : Jvm.MethodName) prog_7_method_24_code (8 : Nat) (Option.some Jvm.ClassFile.FieldType.int)) ∈ bigW := inB 735 (by decide +kernel) rfl
theorem wd_736 : (Jvm.Cond.methodLink "CranePlanModel" (107 : Nat) ({ cls := "CranePlanModel", name := "ahead", desc := "(I)I" } : Jvm.MethodName)) ∈ bigW := inB 736 (by decide +kernel) rfl
theorem wd_738 : (Jvm.Cond.instanceMethod ({ cls := "CranePlanModel", name := "ahead", desc := "(I)I" } : Jvm.MethodName)) ∈ bigW := inB 738 (by decide +kernel) rfl
theorem wd_739 : (Jvm.Cond.code ({ cls := "CranePlanModel", name := "ahead", desc := "(I)I" } : Jvm.MethodName) prog_7_method_25_code (6 : Nat) (Option.some Jvm.ClassFile.FieldType.int)) ∈ bigW := inB 739 (by decide +kernel) rfl
theorem wd_740 : (Jvm.Cond.methodLink "CranePlanLaw" (91 : Nat) ({ cls := "CranePlanModel", name := "look", desc := "(II)I" } : Jvm.MethodName)) ∈ bigW := inB 740 (by decide +kernel) rfl
theorem wd_741 : (Jvm.Cond.instanceMethod ({ cls := "CranePlanModel", name := "look", desc := "(II)I" } : Jvm.MethodName)) ∈ bigW := inB 741 (by decide +kernel) rfl
theorem wd_742 : (Jvm.Cond.selects "CranePlanModel" ({ cls := "CranePlanModel", name := "look", desc := "(II)I" } : Jvm.MethodName) ({ cls := "CranePlanModel", name := "look", desc := "(II)I" } : Jvm.MethodName)) ∈ bigW := inB 742 (by decide +kernel) rfl
theorem wd_743 : (Jvm.Cond.code ({ cls := "CranePlanModel", name := "look", desc := "(II)I" } : Jvm.MethodName) prog_7_method_26_code (3 : Nat) (Option.some Jvm.ClassFile.FieldType.int)) ∈ bigW := inB 743 (by decide +kernel) rfl
theorem wd_744 : (Jvm.Cond.methodLink "CranePlanLaw" (96 : Nat) ({ cls := "CranePlanModel", name := "count", desc := "(I)I" } : Jvm.MethodName)) ∈ bigW := inB 744 (by decide +kernel) rfl
theorem wd_745 : (Jvm.Cond.instanceMethod ({ cls := "CranePlanModel", name := "count", desc := "(I)I" } : Jvm.MethodName)) ∈ bigW := inB 745 (by decide +kernel) rfl
theorem wd_746 : (Jvm.Cond.selects "CranePlanModel" ({ cls := "CranePlanModel", name := "count", desc := "(I)I" } : Jvm.MethodName) ({ cls := "CranePlanModel", name := "count", desc := "(I)I" } : Jvm.MethodName)) ∈ bigW := inB 746 (by decide +kernel) rfl
theorem wd_747 : (Jvm.Cond.code ({ cls := "CranePlanModel", name := "count", desc := "(I)I" } : Jvm.MethodName) prog_7_method_27_code (5 : Nat) (Option.some Jvm.ClassFile.FieldType.int)) ∈ bigW := inB 747 (by decide +kernel) rfl
theorem wd_748 : (Jvm.Cond.arrayClass Jvm.ClassFile.FieldType.long) ∈ bigW := inB 748 (by decide +kernel) rfl
theorem wd_0 : (Jvm.Cond.selects "CranePlan$Search" ({ cls := "CranePlan$Search", name := "makeBest", desc := "()Z" } : Jvm.MethodName) ({ cls := "CranePlan$Search", name := "makeBest", desc := "()Z" } : Jvm.MethodName)) ∈ bigW := inB 0 (by decide +kernel) rfl
theorem wd_1 : (Jvm.Cond.selects "CranePlan$Search" ({ cls := "CranePlan$Search", name := "gather", desc := "()V" } : Jvm.MethodName) ({ cls := "CranePlan$Search", name := "gather", desc := "()V" } : Jvm.MethodName)) ∈ bigW := inB 1 (by decide +kernel) rfl
theorem wd_2 : (Jvm.Cond.selects "CranePlan$Bays" ({ cls := "CranePlan$Bays", name := "movesOf", desc := "(I)I" } : Jvm.MethodName) ({ cls := "CranePlan$Bays", name := "movesOf", desc := "(I)I" } : Jvm.MethodName)) ∈ bigW := inB 2 (by decide +kernel) rfl
theorem wd_3 : (Jvm.Cond.selects "CranePlan$Bays" ({ cls := "CranePlan$Bays", name := "has", desc := "(I)Z" } : Jvm.MethodName) ({ cls := "CranePlan$Bays", name := "has", desc := "(I)Z" } : Jvm.MethodName)) ∈ bigW := inB 3 (by decide +kernel) rfl
theorem wd_4 : (Jvm.Cond.selects "CranePlan$Cranes" ({ cls := "CranePlan$Cranes", name := "isOut", desc := "(I)Z" } : Jvm.MethodName) ({ cls := "CranePlan$Cranes", name := "isOut", desc := "(I)Z" } : Jvm.MethodName)) ∈ bigW := inB 4 (by decide +kernel) rfl
theorem wd_5 : (Jvm.Cond.selects "CranePlan$Cranes" ({ cls := "CranePlan$Cranes", name := "has", desc := "(I)Z" } : Jvm.MethodName) ({ cls := "CranePlan$Cranes", name := "has", desc := "(I)Z" } : Jvm.MethodName)) ∈ bigW := inB 5 (by decide +kernel) rfl
theorem wd_6 : (Jvm.Cond.selects "CranePlan$Search" ({ cls := "CranePlan$Search", name := "share", desc := "([I)V" } : Jvm.MethodName) ({ cls := "CranePlan$Search", name := "share", desc := "([I)V" } : Jvm.MethodName)) ∈ bigW := inB 6 (by decide +kernel) rfl
theorem wd_7 : (Jvm.Cond.selects "CranePlan$Timetable" ({ cls := "CranePlan$Timetable", name := "clear", desc := "()V" } : Jvm.MethodName) ({ cls := "CranePlan$Timetable", name := "clear", desc := "()V" } : Jvm.MethodName)) ∈ bigW := inB 7 (by decide +kernel) rfl
theorem wd_8 : (Jvm.Cond.selects "CranePlan$Timetable" ({ cls := "CranePlan$Timetable", name := "give", desc := "(II)V" } : Jvm.MethodName) ({ cls := "CranePlan$Timetable", name := "give", desc := "(II)V" } : Jvm.MethodName)) ∈ bigW := inB 8 (by decide +kernel) rfl
theorem wd_9 : (Jvm.Cond.selects "CranePlan$Timetable" ({ cls := "CranePlan$Timetable", name := "keepsApart", desc := "()Z" } : Jvm.MethodName) ({ cls := "CranePlan$Timetable", name := "keepsApart", desc := "()Z" } : Jvm.MethodName)) ∈ bigW := inB 9 (by decide +kernel) rfl
theorem wd_10 : (Jvm.Cond.selects "CranePlan$Timetable" ({ cls := "CranePlan$Timetable", name := "tooNear", desc := "(II)Z" } : Jvm.MethodName) ({ cls := "CranePlan$Timetable", name := "tooNear", desc := "(II)Z" } : Jvm.MethodName)) ∈ bigW := inB 10 (by decide +kernel) rfl
theorem wd_11 : (Jvm.Cond.selects "CranePlan$Timetable" ({ cls := "CranePlan$Timetable", name := "setTimes", desc := "()V" } : Jvm.MethodName) ({ cls := "CranePlan$Timetable", name := "setTimes", desc := "()V" } : Jvm.MethodName)) ∈ bigW := inB 11 (by decide +kernel) rfl
theorem wd_12 : (Jvm.Cond.selects "CranePlan$Timetable" ({ cls := "CranePlan$Timetable", name := "setTimesOf", desc := "(II)V" } : Jvm.MethodName) ({ cls := "CranePlan$Timetable", name := "setTimesOf", desc := "(II)V" } : Jvm.MethodName)) ∈ bigW := inB 12 (by decide +kernel) rfl
theorem wd_13 : (Jvm.Cond.selects "CranePlan$Cranes" ({ cls := "CranePlan$Cranes", name := "timeFor", desc := "(II)I" } : Jvm.MethodName) ({ cls := "CranePlan$Cranes", name := "timeFor", desc := "(II)I" } : Jvm.MethodName)) ∈ bigW := inB 13 (by decide +kernel) rfl
theorem wd_14 : (Jvm.Cond.selects "CranePlan$Timetable" ({ cls := "CranePlan$Timetable", name := "whenCame", desc := "(II)I" } : Jvm.MethodName) ({ cls := "CranePlan$Timetable", name := "whenCame", desc := "(II)I" } : Jvm.MethodName)) ∈ bigW := inB 14 (by decide +kernel) rfl
theorem wd_15 : (Jvm.Cond.selects "CranePlan$Timetable" ({ cls := "CranePlan$Timetable", name := "isBetterThan", desc := "(II)Z" } : Jvm.MethodName) ({ cls := "CranePlan$Timetable", name := "isBetterThan", desc := "(II)Z" } : Jvm.MethodName)) ∈ bigW := inB 15 (by decide +kernel) rfl
theorem wd_16 : (Jvm.Cond.selects "CranePlan$Search" ({ cls := "CranePlan$Search", name := "nextChoice", desc := "()Z" } : Jvm.MethodName) ({ cls := "CranePlan$Search", name := "nextChoice", desc := "()Z" } : Jvm.MethodName)) ∈ bigW := inB 16 (by decide +kernel) rfl
theorem wd_17 : (Jvm.Cond.selects "CranePlan$Timetable" ({ cls := "CranePlan$Timetable", name := "sortRows", desc := "()V" } : Jvm.MethodName) ({ cls := "CranePlan$Timetable", name := "sortRows", desc := "()V" } : Jvm.MethodName)) ∈ bigW := inB 17 (by decide +kernel) rfl
theorem wd_18 : (Jvm.Cond.selects "CranePlan$Timetable" ({ cls := "CranePlan$Timetable", name := "beginsAhead", desc := "(II)Z" } : Jvm.MethodName) ({ cls := "CranePlan$Timetable", name := "beginsAhead", desc := "(II)Z" } : Jvm.MethodName)) ∈ bigW := inB 18 (by decide +kernel) rfl
theorem wd_19 : (Jvm.Cond.selects "CranePlan$Cranes" ({ cls := "CranePlan$Cranes", name := "able", desc := "()I" } : Jvm.MethodName) ({ cls := "CranePlan$Cranes", name := "able", desc := "()I" } : Jvm.MethodName)) ∈ bigW := inB 19 (by decide +kernel) rfl
theorem wd_20 : (Jvm.Cond.selects "CranePlan$Bays" ({ cls := "CranePlan$Bays", name := "allMoves", desc := "()I" } : Jvm.MethodName) ({ cls := "CranePlan$Bays", name := "allMoves", desc := "()I" } : Jvm.MethodName)) ∈ bigW := inB 20 (by decide +kernel) rfl
theorem wd_21 : (Jvm.Cond.selects "CranePlan$Cranes" ({ cls := "CranePlan$Cranes", name := "timeTogether", desc := "(I)I" } : Jvm.MethodName) ({ cls := "CranePlan$Cranes", name := "timeTogether", desc := "(I)I" } : Jvm.MethodName)) ∈ bigW := inB 21 (by decide +kernel) rfl
theorem wd_22 : (Jvm.Cond.selects "CranePlan$Cranes" ({ cls := "CranePlan$Cranes", name := "leastTime", desc := "(I)I" } : Jvm.MethodName) ({ cls := "CranePlan$Cranes", name := "leastTime", desc := "(I)I" } : Jvm.MethodName)) ∈ bigW := inB 22 (by decide +kernel) rfl
theorem wd_24 : (Jvm.Cond.selects "CranePlan$Bays" ({ cls := "CranePlan$Bays", name := "isFull", desc := "()Z" } : Jvm.MethodName) ({ cls := "CranePlan$Bays", name := "isFull", desc := "()Z" } : Jvm.MethodName)) ∈ bigW := inB 24 (by decide +kernel) rfl
theorem wd_25 : (Jvm.Cond.selects "CranePlan$Bays" ({ cls := "CranePlan$Bays", name := "add", desc := "(II)I" } : Jvm.MethodName) ({ cls := "CranePlan$Bays", name := "add", desc := "(II)I" } : Jvm.MethodName)) ∈ bigW := inB 25 (by decide +kernel) rfl
theorem wd_26 : (Jvm.Cond.selects "CranePlan$Cranes" ({ cls := "CranePlan$Cranes", name := "setRate", desc := "(III)V" } : Jvm.MethodName) ({ cls := "CranePlan$Cranes", name := "setRate", desc := "(III)V" } : Jvm.MethodName)) ∈ bigW := inB 26 (by decide +kernel) rfl
theorem wd_27 : (Jvm.Cond.selects "CranePlan$Timetable" ({ cls := "CranePlan$Timetable", name := "bayWorkedAt", desc := "(II)I" } : Jvm.MethodName) ({ cls := "CranePlan$Timetable", name := "bayWorkedAt", desc := "(II)I" } : Jvm.MethodName)) ∈ bigW := inB 27 (by decide +kernel) rfl
theorem wd_28 : (Jvm.Cond.selects "CranePlan$Timetable" ({ cls := "CranePlan$Timetable", name := "bayCameTo", desc := "(II)I" } : Jvm.MethodName) ({ cls := "CranePlan$Timetable", name := "bayCameTo", desc := "(II)I" } : Jvm.MethodName)) ∈ bigW := inB 28 (by decide +kernel) rfl
theorem wd_29 : (Jvm.Cond.selects "CranePlan$Timetable" ({ cls := "CranePlan$Timetable", name := "doneBy", desc := "(II)I" } : Jvm.MethodName) ({ cls := "CranePlan$Timetable", name := "doneBy", desc := "(II)I" } : Jvm.MethodName)) ∈ bigW := inB 29 (by decide +kernel) rfl
theorem wd_30 : (Jvm.Cond.selects "CranePlan$Cranes" ({ cls := "CranePlan$Cranes", name := "movesIn", desc := "(II)I" } : Jvm.MethodName) ({ cls := "CranePlan$Cranes", name := "movesIn", desc := "(II)I" } : Jvm.MethodName)) ∈ bigW := inB 30 (by decide +kernel) rfl
theorem wd_31 : (Jvm.Cond.selects "CranePlan$Bays" ({ cls := "CranePlan$Bays", name := "takeOff", desc := "(II)V" } : Jvm.MethodName) ({ cls := "CranePlan$Bays", name := "takeOff", desc := "(II)V" } : Jvm.MethodName)) ∈ bigW := inB 31 (by decide +kernel) rfl
theorem wd_32 : (Jvm.Cond.selects "CranePlan$Cranes" ({ cls := "CranePlan$Cranes", name := "putOut", desc := "(I)V" } : Jvm.MethodName) ({ cls := "CranePlan$Cranes", name := "putOut", desc := "(I)V" } : Jvm.MethodName)) ∈ bigW := inB 32 (by decide +kernel) rfl
theorem wd_33 : (Jvm.Cond.selects "CranePlan$Timetable" ({ cls := "CranePlan$Timetable", name := "ofRow", desc := "(II)I" } : Jvm.MethodName) ({ cls := "CranePlan$Timetable", name := "ofRow", desc := "(II)I" } : Jvm.MethodName)) ∈ bigW := inB 33 (by decide +kernel) rfl
theorem wd_34 : (Jvm.Cond.selects "CranePlanModel" ({ cls := "CranePlanModel", name := "refuse", desc := "(I)I" } : Jvm.MethodName) ({ cls := "CranePlanModel", name := "refuse", desc := "(I)I" } : Jvm.MethodName)) ∈ bigW := inB 34 (by decide +kernel) rfl
theorem wd_35 : (Jvm.Cond.selects "CranePlanModel" ({ cls := "CranePlanModel", name := "isCrane", desc := "(I)Z" } : Jvm.MethodName) ({ cls := "CranePlanModel", name := "isCrane", desc := "(I)Z" } : Jvm.MethodName)) ∈ bigW := inB 35 (by decide +kernel) rfl
theorem wd_36 : (Jvm.Cond.selects "CranePlanModel" ({ cls := "CranePlanModel", name := "search", desc := "()I" } : Jvm.MethodName) ({ cls := "CranePlanModel", name := "search", desc := "()I" } : Jvm.MethodName)) ∈ bigW := inB 36 (by decide +kernel) rfl
theorem wd_37 : (Jvm.Cond.selects "CranePlanModel" ({ cls := "CranePlanModel", name := "all", desc := "(I)I" } : Jvm.MethodName) ({ cls := "CranePlanModel", name := "all", desc := "(I)I" } : Jvm.MethodName)) ∈ bigW := inB 37 (by decide +kernel) rfl
theorem wd_38 : (Jvm.Cond.selects "CranePlanModel" ({ cls := "CranePlanModel", name := "isAllowed", desc := "()Z" } : Jvm.MethodName) ({ cls := "CranePlanModel", name := "isAllowed", desc := "()Z" } : Jvm.MethodName)) ∈ bigW := inB 38 (by decide +kernel) rfl
theorem wd_39 : (Jvm.Cond.selects "CranePlanModel" ({ cls := "CranePlanModel", name := "spans", desc := "()Z" } : Jvm.MethodName) ({ cls := "CranePlanModel", name := "spans", desc := "()Z" } : Jvm.MethodName)) ∈ bigW := inB 39 (by decide +kernel) rfl
theorem wd_40 : (Jvm.Cond.selects "CranePlanModel" ({ cls := "CranePlanModel", name := "times", desc := "()I" } : Jvm.MethodName) ({ cls := "CranePlanModel", name := "times", desc := "()I" } : Jvm.MethodName)) ∈ bigW := inB 40 (by decide +kernel) rfl
theorem wd_41 : (Jvm.Cond.selects "CranePlanModel" ({ cls := "CranePlanModel", name := "takes", desc := "(II)I" } : Jvm.MethodName) ({ cls := "CranePlanModel", name := "takes", desc := "(II)I" } : Jvm.MethodName)) ∈ bigW := inB 41 (by decide +kernel) rfl
theorem wd_42 : (Jvm.Cond.selects "CranePlanModel" ({ cls := "CranePlanModel", name := "steps", desc := "()I" } : Jvm.MethodName) ({ cls := "CranePlanModel", name := "steps", desc := "()I" } : Jvm.MethodName)) ∈ bigW := inB 42 (by decide +kernel) rfl
theorem wd_43 : (Jvm.Cond.selects "CranePlanModel" ({ cls := "CranePlanModel", name := "goesOn", desc := "()Z" } : Jvm.MethodName) ({ cls := "CranePlanModel", name := "goesOn", desc := "()Z" } : Jvm.MethodName)) ∈ bigW := inB 43 (by decide +kernel) rfl
theorem wd_44 : (Jvm.Cond.selects "CranePlanModel" ({ cls := "CranePlanModel", name := "working", desc := "()I" } : Jvm.MethodName) ({ cls := "CranePlanModel", name := "working", desc := "()I" } : Jvm.MethodName)) ∈ bigW := inB 44 (by decide +kernel) rfl
theorem wd_45 : (Jvm.Cond.selects "CranePlanModel" ({ cls := "CranePlanModel", name := "lays", desc := "()I" } : Jvm.MethodName) ({ cls := "CranePlanModel", name := "lays", desc := "()I" } : Jvm.MethodName)) ∈ bigW := inB 45 (by decide +kernel) rfl
theorem wd_46 : (Jvm.Cond.selects "CranePlanModel" ({ cls := "CranePlanModel", name := "ahead", desc := "(I)I" } : Jvm.MethodName) ({ cls := "CranePlanModel", name := "ahead", desc := "(I)I" } : Jvm.MethodName)) ∈ bigW := inB 46 (by decide +kernel) rfl
end
