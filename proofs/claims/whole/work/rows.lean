section
/-! PURE ROWS: times, sharings, the best of a list, rows in order. No machine here. -/
/-- rounded up -/
def cdv (a b : Nat) : Nat := (a + b - 1) / b
theorem cdv_le {a b : Nat} (hb : 0 < b) : cdv a b ≤ a := by
  unfold cdv
  cases a with
  | zero => rw [Nat.div_eq_of_lt (by omega)]; exact Nat.le_refl 0
  | succ a =>
    have h : a + 1 + b - 1 = a + b := by omega
    rw [h, Nat.add_div_right _ hb]
    have := Nat.div_le_self a b
    omega
theorem cdv_eq {v m : Nat} (hm : 0 < m) : v / m + (if 0 < v % m then 1 else 0) = cdv v m := by
  have h := Nat.div_add_mod v m
  have hlt := Nat.mod_lt v hm
  unfold cdv
  by_cases h0 : 0 < v % m
  · rw [if_pos h0]
    have e : v + m - 1 = m * (v / m + 1) + (v % m - 1) := by rw [Nat.mul_add]; omega
    rw [e, Nat.mul_add_div hm, show (v % m - 1) / m = 0 from Nat.div_eq_of_lt (by omega)]
  · rw [if_neg h0]
    have e : v + m - 1 = m * (v / m) + (m - 1) := by omega
    rw [e, Nat.mul_add_div hm, show (m - 1) / m = 0 from Nat.div_eq_of_lt (by omega)]
theorem cdv_pos {a b : Nat} (ha : 0 < a) (hb : 0 < b) : 0 < cdv a b := by
  unfold cdv
  exact Nat.div_pos (by omega) hb
/-- a crane's first and last bay among the bays below k -/
def fstA (A : Nat → Nat) (c : Nat) : Nat → Option Nat
  | 0 => none
  | k + 1 => match fstA A c k with
    | some b => some b
    | none => if A k = c then some k else none
def lstA (A : Nat → Nat) (c : Nat) : Nat → Option Nat
  | 0 => none
  | k + 1 => if A k = c then some k else lstA A c k
theorem fstA_none {A : Nat → Nat} {c : Nat} : ∀ {k : Nat}, fstA A c k = none ↔ ∀ b, b < k → A b ≠ c
  | 0 => by simp [fstA]
  | k + 1 => by
    have ih := fstA_none (A := A) (c := c) (k := k)
    unfold fstA
    cases hf : fstA A c k with
    | some b =>
      simp only [hf] at ih
      constructor
      · intro h; cases h
      · intro h
        exact absurd (ih.mpr fun b hb => h b (by omega)) (by simp)
    | none =>
      have h0 := ih.mp hf
      by_cases hk : A k = c
      · simp only [if_pos hk]
        constructor
        · intro h; cases h
        · intro h; exact absurd hk (h k (by omega))
      · simp only [if_neg hk, true_iff]
        intro b hb
        rcases (show b < k ∨ b = k by omega) with h | rfl
        · exact h0 b h
        · exact hk
theorem fstA_some {A : Nat → Nat} {c : Nat} : ∀ {k f : Nat}, fstA A c k = some f → f < k ∧ A f = c ∧ ∀ b, b < f → A b ≠ c
  | 0, f, h => by simp [fstA] at h
  | k + 1, f, h => by
    unfold fstA at h
    cases hf : fstA A c k with
    | some b =>
      rw [hf] at h
      cases h
      obtain ⟨h1, h2, h3⟩ := fstA_some hf
      exact ⟨by omega, h2, h3⟩
    | none =>
      rw [hf] at h
      by_cases hk : A k = c
      · simp only [if_pos hk] at h
        cases h
        exact ⟨by omega, hk, fstA_none.mp hf⟩
      · simp [if_neg hk] at h
theorem lstA_none {A : Nat → Nat} {c : Nat} : ∀ {k : Nat}, lstA A c k = none ↔ ∀ b, b < k → A b ≠ c
  | 0 => by simp [lstA]
  | k + 1 => by
    have ih := lstA_none (A := A) (c := c) (k := k)
    unfold lstA
    by_cases hk : A k = c
    · simp only [if_pos hk]
      constructor
      · intro h; cases h
      · intro h; exact absurd hk (h k (by omega))
    · simp only [if_neg hk]
      rw [ih]
      constructor
      · intro h b hb
        rcases (show b < k ∨ b = k by omega) with h1 | rfl
        · exact h b h1
        · exact hk
      · intro h b hb
        exact h b (by omega)
theorem lstA_some {A : Nat → Nat} {c : Nat} : ∀ {k f : Nat}, lstA A c k = some f → f < k ∧ A f = c ∧ ∀ b, f < b → b < k → A b ≠ c
  | 0, f, h => by simp [lstA] at h
  | k + 1, f, h => by
    unfold lstA at h
    by_cases hk : A k = c
    · simp only [if_pos hk] at h
      cases h
      exact ⟨by omega, hk, fun b h1 h2 => by omega⟩
    · simp only [if_neg hk] at h
      obtain ⟨h1, h2, h3⟩ := lstA_some h
      refine ⟨by omega, h2, fun b hb1 hb2 => ?_⟩
      rcases (show b < k ∨ b = k by omega) with q | rfl
      · exact h3 b hb1 q
      · exact hk
/-- when a crane comes to a bay: du its work there, f its first bay, w when the next crane came to a bay -/
def tim (du : Nat → Nat) (f g s : Nat) (w : Nat → Nat) : Nat → Nat
  | 0 => 0
  | b + 1 => if b + 1 ≤ f then 0 else max (tim du f g s w b + du b) (w (b + 2 + g)) + s
theorem tim_low {du : Nat → Nat} {f g s : Nat} {w : Nat → Nat} : ∀ {b : Nat}, b ≤ f → tim du f g s w b = 0
  | 0, _ => rfl
  | b + 1, h => by simp [tim, h]
theorem tim_up {du : Nat → Nat} {f g s : Nat} {w : Nat → Nat} {b : Nat} (h : f ≤ b) : tim du f g s w (b + 1) = max (tim du f g s w b + du b) (w (b + 2 + g)) + s := by
  simp only [tim]
  rw [if_neg (by omega)]
theorem tim_le {du w : Nat → Nat} {f g s K : Nat} (hd : ∀ b, du b ≤ 25000) (hw : ∀ b, w b ≤ 25020 * (b + K)) (hg : g ≤ 3) (hs : s ≤ 20) : ∀ b, tim du f g s w b ≤ 25020 * (b + (K + 5))
  | 0 => by simp [tim]
  | b + 1 => by
    have ih := tim_le (f := f) hd hw hg hs b
    have h1 := hd b
    have h2 := hw (b + 2 + g)
    simp only [tim]
    by_cases hb : b + 1 ≤ f
    · rw [if_pos hb]; omega
    · rw [if_neg hb]
      have h3 : max (tim du f g s w b + du b) (w (b + 2 + g)) ≤ 25020 * (b + (K + 5)) + 25000 := Nat.max_le.mpr ⟨by omega, by omega⟩
      omega
/-- how long a crane works at a bay -/
def tkA (mv mo mi : Nat → Nat) (c b : Nat) : Nat := cdv (mv b * mi c) (mo c)
def duA (A mv mo mi : Nat → Nat) (c b : Nat) : Nat := if A b = c then tkA mv mo mi c b else 0
/-- when the next crane with bays, of the j last ones of four, came to a bay -/
def wtA (A mv mo mi : Nat → Nat) (n g s : Nat) : Nat → Nat → Nat
  | 0 => fun _ => 0
  | j + 1 => match fstA A (3 - j) n with
    | none => wtA A mv mo mi n g s j
    | some f => tim (duA A mv mo mi (3 - j)) f g s (wtA A mv mo mi n g s j)
/-- when crane c comes to bay b -/
def cmA (A mv mo mi : Nat → Nat) (n g s c b : Nat) : Nat := tim (duA A mv mo mi c) ((fstA A c n).getD 0) g s (wtA A mv mo mi n g s (3 - c)) b
theorem tkA_le {mv mo mi : Nat → Nat} {c b : Nat} (h1 : mv b ≤ 250) (h2 : mi c ≤ 100) (h3 : 0 < mo c) : tkA mv mo mi c b ≤ 25000 := by
  have h := cdv_le (a := mv b * mi c) h3
  have h4 : mv b * mi c ≤ 250 * 100 := Nat.mul_le_mul h1 h2
  unfold tkA
  omega
theorem duA_le {A mv mo mi : Nat → Nat} {c : Nat} (h1 : ∀ b, mv b ≤ 250) (h2 : mi c ≤ 100) (h3 : 0 < mo c) (b : Nat) : duA A mv mo mi c b ≤ 25000 := by
  unfold duA
  split
  · exact tkA_le (h1 b) h2 h3
  · omega
theorem wtA_le {A mv mo mi : Nat → Nat} {n g s : Nat} (h1 : ∀ b, mv b ≤ 250) (h2 : ∀ c, c < 4 → mi c ≤ 100) (h3 : ∀ c, c < 4 → 0 < mo c) (hg : g ≤ 3) (hs : s ≤ 20) : ∀ (j : Nat), j ≤ 4 → ∀ b, wtA A mv mo mi n g s j b ≤ 25020 * (b + 5 * j)
  | 0, _, b => by simp [wtA]
  | j + 1, hj, b => by
    have ih := wtA_le (A := A) (n := n) h1 h2 h3 hg hs j (by omega)
    unfold wtA
    cases hf : fstA A (3 - j) n with
    | none =>
      have := ih b
      show wtA A mv mo mi n g s j b ≤ _
      omega
    | some f =>
      have := tim_le (f := f) (K := 5 * j) (duA_le (A := A) h1 (h2 (3 - j) (by omega)) (h3 (3 - j) (by omega))) ih hg hs b
      show tim _ _ _ _ _ b ≤ _
      omega
theorem cmA_le {A mv mo mi : Nat → Nat} {n g s c b : Nat} (h1 : ∀ b, mv b ≤ 250) (h2 : ∀ c, c < 4 → mi c ≤ 100) (h3 : ∀ c, c < 4 → 0 < mo c) (hg : g ≤ 3) (hs : s ≤ 20) (hc : c < 4) (hb : b < 8) : cmA A mv mo mi n g s c b ≤ 675540 := by
  have h := tim_le (f := (fstA A c n).getD 0) (K := 5 * (3 - c)) (duA_le (A := A) h1 (h2 c hc) (h3 c hc)) (wtA_le (A := A) (n := n) h1 h2 h3 hg hs (3 - c) (by omega)) hg hs b
  unfold cmA
  omega
/-- when all work ends: of the bays below k -/
def fiA (A mv mo mi : Nat → Nat) (n g s : Nat) : Nat → Nat
  | 0 => 0
  | k + 1 => if A k < 4 then max (fiA A mv mo mi n g s k) (cmA A mv mo mi n g s (A k) k + tkA mv mo mi (A k) k) else fiA A mv mo mi n g s k
theorem fiA_le {A mv mo mi : Nat → Nat} {n g s : Nat} (h1 : ∀ b, mv b ≤ 250) (h2 : ∀ c, c < 4 → mi c ≤ 100) (h3 : ∀ c, c < 4 → 0 < mo c) (hg : g ≤ 3) (hs : s ≤ 20) : ∀ (k : Nat), k ≤ 8 → fiA A mv mo mi n g s k ≤ 700540
  | 0, _ => by simp [fiA]
  | k + 1, hk => by
    have ih := fiA_le (A := A) (n := n) h1 h2 h3 hg hs k (by omega)
    unfold fiA
    by_cases ha : A k < 4
    · rw [if_pos ha]
      have q1 := cmA_le (A := A) (n := n) h1 h2 h3 hg hs ha (show k < 8 by omega)
      have q2 := tkA_le (mo := mo) (h1 k) (h2 (A k) ha) (h3 (A k) ha)
      exact Nat.max_le.mpr ⟨ih, by omega⟩
    · rw [if_neg ha]; exact ih
/-- the steps of the cranes below k -/
def spA (A : Nat → Nat) (n : Nat) : Nat → Nat
  | 0 => 0
  | c + 1 => spA A n c + ((lstA A c n).getD 0 - (fstA A c n).getD 0)
/-- of the cranes below k: the last one with bays; whether they keep apart -/
def apA (A : Nat → Nat) (n g : Nat) : Nat → Option Nat × Bool
  | 0 => (none, true)
  | c + 1 => match fstA A c n with
    | none => apA A n g c
    | some f => (some c, (apA A n g c).2 && match (apA A n g c).1 with
      | none => true
      | some d => decide ((fstA A d n).getD 0 + g < f) && decide ((lstA A d n).getD 0 + g < (lstA A c n).getD 0))
/-! sharings -/
def lastLt (x : Nat → Nat) (k : Nat) : Nat → Option Nat
  | 0 => none
  | i + 1 => if x i + 1 < k then some i else lastLt x k i
def gDn (xs : List Nat) (i : Nat) : Nat := xs.getD i 0
def nxtL (k : Nat) (xs : List Nat) : Option (List Nat) := (lastLt (gDn xs) k xs.length).map (fun i => (List.range xs.length).map (fun j => if j < i then gDn xs j else gDn xs i + 1))
def enL (k : Nat) : Nat → List Nat → List (List Nat)
  | 0, _ => []
  | f + 1, xs => xs :: (match nxtL k xs with
    | none => []
    | some ys => enL k f ys)
def enE (k : Nat) : Nat → List Nat → Bool
  | 0, _ => false
  | f + 1, xs => match nxtL k xs with
    | none => true
    | some ys => enE k f ys
def zrL (n : Nat) : List Nat := List.replicate n 0
def mskL (m c : Nat) : Bool := m / 2 ^ c % 2 == 0
def ablL (C m : Nat) : List Nat := (List.range C).filter (mskL m)
def chk1 (C n m : Nat) : Bool := (ablL C m).isEmpty || ((enL C 165 (zrL n)).filter (fun xs => xs.all (mskL m)) == (enL (ablL C m).length 165 (zrL n)).map (fun xs => xs.map (gDn (ablL C m))))
def chkA : Bool := (List.range 4).all fun C => (List.range 9).all fun n => (List.range (2 ^ (C + 1))).all fun m => chk1 (C + 1) n m
def chkE : Bool := (List.range 4).all fun C => (List.range 9).all fun n => enE (C + 1) 165 (zrL n)
set_option maxRecDepth 100000 in
theorem chkE_ok : chkE = true := by decide +kernel
set_option maxRecDepth 100000 in
theorem chkA_ok : chkA = true := by decide +kernel
end
section
/-! the best of a list: the first of least finish, then of fewest steps; key none: not allowed -/
def bstS (key : List Nat → Option (Nat × Nat)) (acc : Option (List Nat × Nat × Nat)) (x : List Nat) : Option (List Nat × Nat × Nat) :=
  match key x with
  | none => acc
  | some (f, s) => match acc with
    | none => some (x, f, s)
    | some (y, f', s') => if f < f' ∨ (f = f' ∧ s < s') then some (x, f, s) else some (y, f', s')
def bstL (key : List Nat → Option (Nat × Nat)) (L : List (List Nat)) (acc : Option (List Nat × Nat × Nat)) : Option (List Nat × Nat × Nat) := L.foldl (bstS key) acc
theorem bstL_nil {key : List Nat → Option (Nat × Nat)} {acc : Option (List Nat × Nat × Nat)} : bstL key [] acc = acc := rfl
theorem bstL_cons {key : List Nat → Option (Nat × Nat)} {x : List Nat} {L : List (List Nat)} {acc : Option (List Nat × Nat × Nat)} : bstL key (x :: L) acc = bstL key L (bstS key acc x) := rfl
theorem bstL_filter {key : List Nat → Option (Nat × Nat)} {P : List Nat → Bool} (h : ∀ x, P x = false → key x = none) : ∀ (L : List (List Nat)) (acc : Option (List Nat × Nat × Nat)), bstL key (L.filter P) acc = bstL key L acc
  | [], acc => rfl
  | x :: L, acc => by
    rw [bstL_cons]
    cases hp : P x with
    | true =>
      rw [List.filter_cons_of_pos (by simpa using hp), bstL_cons]
      exact bstL_filter h L _
    | false =>
      rw [List.filter_cons_of_neg (by simp [hp])]
      have e : bstS key acc x = acc := by unfold bstS; rw [h x hp]
      rw [e]
      exact bstL_filter h L _
theorem bstS_map {key : List Nat → Option (Nat × Nat)} {f : List Nat → List Nat} {acc : Option (List Nat × Nat × Nat)} {x : List Nat} : bstS key (acc.map (fun q => (f q.1, q.2))) (f x) = (bstS (fun z => key (f z)) acc x).map (fun q => (f q.1, q.2)) := by
  unfold bstS
  dsimp only
  cases hk : key (f x) with
  | none => rfl
  | some q =>
    obtain ⟨a, b⟩ := q
    cases acc with
    | none => rfl
    | some r =>
      obtain ⟨y, c, d⟩ := r
      simp only [Option.map_some]
      split <;> rfl
theorem bstL_map {key : List Nat → Option (Nat × Nat)} {f : List Nat → List Nat} : ∀ (L : List (List Nat)) (acc : Option (List Nat × Nat × Nat)), bstL key (L.map f) (acc.map (fun q => (f q.1, q.2))) = (bstL (fun z => key (f z)) L acc).map (fun q => (f q.1, q.2))
  | [], acc => rfl
  | x :: L, acc => by
    rw [List.map_cons, bstL_cons, bstL_cons, bstS_map]
    exact bstL_map L _
/-! rows in order -/
def ahd (bg cr : Nat → Nat) (x y : Nat) : Prop := bg x < bg y ∨ (bg x = bg y ∧ cr x < cr y)
theorem ahd_irr {bg cr : Nat → Nat} {x : Nat} : ¬ ahd bg cr x x := by unfold ahd; omega
theorem ahd_tr {bg cr : Nat → Nat} {x y z : Nat} (h1 : ahd bg cr x y) (h2 : ahd bg cr y z) : ahd bg cr x z := by unfold ahd at *; omega
theorem ahd_as {bg cr : Nat → Nat} {x y : Nat} (h1 : ahd bg cr x y) : ¬ ahd bg cr y x := by unfold ahd at *; omega
theorem ins_ok {bg cr : Nat → Nat} {L : List Nat} {k b : Nat} (hs : L.Pairwise (ahd bg cr)) (h1 : ∀ x ∈ L.drop k, ahd bg cr b x) (h2 : ∀ x ∈ L.take k, ahd bg cr x b) : (L.take k ++ b :: L.drop k).Pairwise (ahd bg cr) := by
  have hs' : (L.take k ++ L.drop k).Pairwise (ahd bg cr) := by rw [List.take_append_drop]; exact hs
  obtain ⟨p1, p2, p3⟩ := List.pairwise_append.mp hs'
  refine List.pairwise_append.mpr ⟨p1, List.pairwise_cons.mpr ⟨fun x hx => h1 x hx, p2⟩, fun x hx y hy => ?_⟩
  rcases List.mem_cons.mp hy with rfl | hy
  · exact h2 x hx
  · exact p3 x hx y hy
theorem cnt_sorted {bg cr : Nat → Nat} : ∀ {L : List Nat}, L.Pairwise (ahd bg cr) → ∀ (i : Nat) (h : i < L.length) (q : Nat → Bool), (∀ x, q x = true ↔ ahd bg cr x (L[i])) → L.countP q = i
  | [], _, i, h, _, _ => by simp at h
  | a :: L, hs, 0, h, q, hq => by
    obtain ⟨p1, p2⟩ := List.pairwise_cons.mp hs
    rw [List.countP_eq_zero]
    intro x hx hqx
    have h1 : ahd bg cr x a := (hq x).mp hqx
    rcases List.mem_cons.mp hx with rfl | hx
    · exact ahd_irr h1
    · exact ahd_as (p1 x hx) h1
  | a :: L, hs, i + 1, h, q, hq => by
    obtain ⟨p1, p2⟩ := List.pairwise_cons.mp hs
    have hi : i < L.length := by simpa using h
    have ha : q a = true := (hq a).mpr (p1 _ (List.getElem_mem hi))
    rw [List.countP_cons_of_pos ha, cnt_sorted p2 i hi q hq]
/-! bays with work, and a sharing of them as what each bay has -/
def cntB (bz : Nat → Bool) : Nat → Nat
  | 0 => 0
  | k + 1 => cntB bz k + (if bz k = true then 1 else 0)
def sprB (bz : Nat → Bool) (xs : List Nat) (b : Nat) : Nat := if bz b = true then gDn xs (cntB bz b) else 9
def lastB (bz : Nat → Bool) (x : Nat → Nat) (k : Nat) : Nat → Option Nat
  | 0 => none
  | b + 1 => if bz b = true ∧ x b + 1 < k then some b else lastB bz x k b
theorem cntB_mono {bz : Nat → Bool} {a : Nat} : ∀ {b : Nat}, a ≤ b → cntB bz a ≤ cntB bz b
  | 0, h => by have : a = 0 := by omega
               subst this; exact Nat.le_refl _
  | b + 1, h => by
    rcases (show a ≤ b ∨ a = b + 1 by omega) with h1 | rfl
    · have := cntB_mono (bz := bz) h1
      have e : cntB bz (b + 1) = cntB bz b + (if bz b = true then 1 else 0) := rfl
      rw [e]
      omega
    · exact Nat.le_refl _
theorem cntB_lt {bz : Nat → Bool} {a b : Nat} (ha : bz a = true) : cntB bz a < cntB bz b ↔ a < b := by
  constructor
  · intro h
    rcases Nat.lt_or_ge a b with q | q
    · exact q
    · have := cntB_mono (bz := bz) q
      omega
  · intro h
    have h1 := cntB_mono (bz := bz) (show a + 1 ≤ b from h)
    have h2 : cntB bz (a + 1) = cntB bz a + 1 := by simp [cntB, ha]
    omega
theorem cntB_inj {bz : Nat → Bool} {a b : Nat} (ha : bz a = true) (hb : bz b = true) (h : cntB bz a = cntB bz b) : a = b := by
  rcases Nat.lt_trichotomy a b with q | q | q
  · have := (cntB_lt (b := b) ha).mpr q; omega
  · exact q
  · have := (cntB_lt (b := a) hb).mpr q; omega
theorem cntB_le {bz : Nat → Bool} : ∀ (k : Nat), cntB bz k ≤ k
  | 0 => Nat.le_refl _
  | k + 1 => by
    have := cntB_le (bz := bz) k
    have e : cntB bz (k + 1) = cntB bz k + (if bz k = true then 1 else 0) := rfl
    rw [e]
    split <;> omega
theorem cntB_has {bz : Nat → Bool} : ∀ {n i : Nat}, i < cntB bz n → ∃ b, b < n ∧ bz b = true ∧ cntB bz b = i
  | 0, i, h => by simp [cntB] at h
  | n + 1, i, h => by
    unfold cntB at h
    rcases Nat.lt_or_ge i (cntB bz n) with q | q
    · obtain ⟨b, h1, h2, h3⟩ := cntB_has q
      exact ⟨b, by omega, h2, h3⟩
    · by_cases hb : bz n = true
      · rw [if_pos hb] at h
        exact ⟨n, by omega, hb, by omega⟩
      · rw [if_neg hb] at h
        omega
theorem lastB_eq {bz : Nat → Bool} {xs : List Nat} {k : Nat} : ∀ (b : Nat), lastLt (gDn xs) k (cntB bz b) = (lastB bz (sprB bz xs) k b).map (cntB bz)
  | 0 => rfl
  | b + 1 => by
    have ih := lastB_eq (bz := bz) (xs := xs) (k := k) b
    by_cases hb : bz b = true
    · have e : cntB bz (b + 1) = cntB bz b + 1 := by simp [cntB, hb]
      have e2 : sprB bz xs b = gDn xs (cntB bz b) := by simp [sprB, hb]
      rw [e]
      unfold lastLt lastB
      rw [e2]
      by_cases hx : gDn xs (cntB bz b) + 1 < k
      · rw [if_pos hx, if_pos ⟨hb, hx⟩]; rfl
      · rw [if_neg hx, if_neg (fun q => hx q.2)]; exact ih
    · have e : cntB bz (b + 1) = cntB bz b := by simp [cntB, hb]
      rw [e]
      unfold lastB
      rw [if_neg (fun q => hb q.1)]
      exact ih
theorem lastB_some {bz : Nat → Bool} {x : Nat → Nat} {k : Nat} : ∀ {n b : Nat}, lastB bz x k n = some b → b < n ∧ bz b = true ∧ x b + 1 < k
  | 0, b, h => by simp [lastB] at h
  | n + 1, b, h => by
    unfold lastB at h
    by_cases hq : bz n = true ∧ x n + 1 < k
    · rw [if_pos hq] at h
      cases h
      exact ⟨by omega, hq.1, hq.2⟩
    · rw [if_neg hq] at h
      obtain ⟨h1, h2, h3⟩ := lastB_some h
      exact ⟨by omega, h2, h3⟩
theorem gDn_map {n i : Nat} {f : Nat → Nat} (h : i < n) : gDn ((List.range n).map f) i = f i := by
  unfold gDn
  simp [List.getD_eq_getElem?_getD, h]
theorem nxtL_none {bz : Nat → Bool} {xs : List Nat} {k n : Nat} (hn : xs.length = cntB bz n) (h : lastB bz (sprB bz xs) k n = none) : nxtL k xs = none := by
  unfold nxtL
  rw [hn, lastB_eq, h]; rfl
theorem nxtL_some {bz : Nat → Bool} {xs : List Nat} {k n b0 : Nat} (hn : xs.length = cntB bz n) (h : lastB bz (sprB bz xs) k n = some b0) :
    ∃ ys, nxtL k xs = some ys ∧ ys.length = xs.length ∧ ∀ b, b < n → sprB bz ys b = if bz b = true then (if b < b0 then sprB bz xs b else sprB bz xs b0 + 1) else 9 := by
  obtain ⟨h1, h2, h3⟩ := lastB_some h
  refine ⟨(List.range xs.length).map (fun j => if j < cntB bz b0 then gDn xs j else gDn xs (cntB bz b0) + 1), ?_, by simp, fun b hb => ?_⟩
  · unfold nxtL
    rw [hn, lastB_eq, h]; rfl
  · by_cases hz : bz b = true
    · have hlt : cntB bz b < xs.length := by rw [hn]; exact (cntB_lt hz).mpr hb
      rw [if_pos hz]
      unfold sprB
      rw [if_pos hz, gDn_map hlt, if_pos h2]
      by_cases hq : b < b0
      · rw [if_pos hq, if_pos ((cntB_lt hz).mpr hq), if_pos hz]
      · rw [if_neg hq, if_neg (fun q => hq ((cntB_lt hz).mp q))]
    · rw [if_neg hz]
      unfold sprB
      rw [if_neg hz]
end
section
/-! one more bay is given; the sharings of the able cranes among all -/
theorem fstA_is {A : Nat → Nat} {c k f : Nat} (h1 : f < k) (h2 : A f = c) (h3 : ∀ b, b < f → A b ≠ c) : fstA A c k = some f := by
  cases h : fstA A c k with
  | none => exact absurd h2 (fstA_none.mp h f h1)
  | some g =>
    obtain ⟨q1, q2, q3⟩ := fstA_some h
    rcases Nat.lt_trichotomy f g with q | q | q
    · exact absurd h2 (q3 f q)
    · rw [q]
    · exact absurd q2 (h3 g q)
theorem lstA_is {A : Nat → Nat} {c k f : Nat} (h1 : f < k) (h2 : A f = c) (h3 : ∀ b, f < b → b < k → A b ≠ c) : lstA A c k = some f := by
  cases h : lstA A c k with
  | none => exact absurd h2 (lstA_none.mp h f h1)
  | some g =>
    obtain ⟨q1, q2, q3⟩ := lstA_some h
    rcases Nat.lt_trichotomy f g with q | q | q
    · exact absurd q2 (h3 g q q1)
    · rw [q]
    · exact absurd h2 (q3 f q h1)
theorem fstA_congr {A B : Nat → Nat} {c : Nat} : ∀ {k : Nat}, (∀ b, b < k → A b = B b) → fstA A c k = fstA B c k
  | 0, _ => rfl
  | k + 1, h => by
    unfold fstA
    rw [fstA_congr (k := k) (fun b hb => h b (by omega)), h k (by omega)]
theorem lstA_congr {A B : Nat → Nat} {c : Nat} : ∀ {k : Nat}, (∀ b, b < k → A b = B b) → lstA A c k = lstA B c k
  | 0, _ => rfl
  | k + 1, h => by
    unfold lstA
    rw [lstA_congr (k := k) (fun b hb => h b (by omega)), h k (by omega)]
theorem lst_of_fst {A : Nat → Nat} {c k f : Nat} (h : fstA A c k = some f) : ∃ l, lstA A c k = some l ∧ f ≤ l ∧ l < k ∧ A l = c := by
  obtain ⟨h1, h2, h3⟩ := fstA_some h
  cases hl : lstA A c k with
  | none => exact absurd h2 (lstA_none.mp hl f h1)
  | some l =>
    obtain ⟨q1, q2, q3⟩ := lstA_some hl
    refine ⟨l, rfl, ?_, q1, q2⟩
    rcases Nat.lt_or_ge l f with q | q
    · exact absurd q2 (h3 l q)
    · exact q
theorem lst_none_fst {A : Nat → Nat} {c k : Nat} (h : fstA A c k = none) : lstA A c k = none := lstA_none.mpr (fstA_none.mp h)
def upA (A : Nat → Nat) (b c : Nat) : Nat → Nat := fun x => if x = b then c else A x
theorem fstA_up {A : Nat → Nat} {b c k : Nat} (hA : ∀ x, b ≤ x → 4 ≤ A x) (hb : b < k) (hc : c < 4) : fstA (upA A b c) c k = some ((fstA A c k).getD b) := by
  cases h : fstA A c k with
  | none =>
    show _ = some b
    refine fstA_is hb (by simp [upA]) (fun x hx => ?_)
    have := fstA_none.mp h x (by omega)
    simp [upA, show x ≠ b by omega, this]
  | some f =>
    obtain ⟨q1, q2, q3⟩ := fstA_some h
    have hfb : f < b := by
      rcases Nat.lt_or_ge f b with q | q
      · exact q
      · have := hA f q; omega
    show _ = some f
    refine fstA_is q1 (by simp [upA, show f ≠ b by omega, q2]) (fun x hx => ?_)
    simp [upA, show x ≠ b by omega, q3 x hx]
theorem fstA_up' {A : Nat → Nat} {b c d k : Nat} (hd : d ≠ c) (hA : 4 ≤ A b) (hd4 : d < 4) : fstA (upA A b c) d k = fstA A d k := by
  cases h : fstA A d k with
  | none =>
    refine fstA_none.mpr (fun x hx => ?_)
    have := fstA_none.mp h x hx
    by_cases hx : x = b
    · simp [upA, hx]; omega
    · simp [upA, hx, this]
  | some f =>
    obtain ⟨q1, q2, q3⟩ := fstA_some h
    have hfb : f ≠ b := fun q => by rw [q] at q2; omega
    refine fstA_is q1 (by simp [upA, hfb, q2]) (fun x hx => ?_)
    by_cases hx : x = b
    · simp [upA, hx]; omega
    · simp [upA, hx, q3 x (by assumption)]
theorem lstA_up {A : Nat → Nat} {b c k : Nat} (hA : ∀ x, b ≤ x → 4 ≤ A x) (hb : b < k) (hc : c < 4) : lstA (upA A b c) c k = some b := by
  refine lstA_is hb (by simp [upA]) (fun x hx _ => ?_)
  have := hA x (by omega)
  simp [upA, show x ≠ b by omega]
  omega
theorem lstA_up' {A : Nat → Nat} {b c d k : Nat} (hd : d ≠ c) (hA : 4 ≤ A b) (hd4 : d < 4) : lstA (upA A b c) d k = lstA A d k := by
  cases h : lstA A d k with
  | none =>
    refine lstA_none.mpr (fun x hx => ?_)
    have := lstA_none.mp h x hx
    by_cases hx : x = b
    · simp [upA, hx]; omega
    · simp [upA, hx, this]
  | some f =>
    obtain ⟨q1, q2, q3⟩ := lstA_some h
    have hfb : f ≠ b := fun q => by rw [q] at q2; omega
    refine lstA_is q1 (by simp [upA, hfb, q2]) (fun x hx1 hx2 => ?_)
    by_cases hx : x = b
    · simp [upA, hx]; omega
    · simp [upA, hx, q3 x hx1 hx2]
theorem spA_up {A : Nat → Nat} {b c n : Nat} (hA : ∀ x, b ≤ x → 4 ≤ A x) (hb : b < n) (hc : c < 4) : ∀ {k : Nat}, k ≤ 4 → spA (upA A b c) n k = spA A n k + (if c < k then b - (lstA A c n).getD b else 0)
  | 0, _ => by simp [spA]
  | k + 1, hk => by
    have ih := spA_up hA hb hc (k := k) (by omega)
    unfold spA
    rw [ih]
    by_cases hck : c = k
    · subst hck
      rw [if_neg (by omega), if_pos (by omega), lstA_up hA hb hc, fstA_up hA hb hc]
      cases h : fstA A c n with
      | none =>
        rw [lst_none_fst h]
        simp
      | some f =>
        obtain ⟨l, h1, h2, h3, h4⟩ := lst_of_fst h
        rw [h1]
        have hlb : l < b := by
          rcases Nat.lt_or_ge l b with q | q
          · exact q
          · have := hA l q; omega
        simp only [Option.getD_some]
        omega
    · rw [lstA_up' (fun q => hck q.symm) (hA b (Nat.le_refl b)) (by omega), fstA_up' (fun q => hck q.symm) (hA b (Nat.le_refl b)) (by omega)]
      by_cases h1 : c < k
      · rw [if_pos h1, if_pos (by omega)]; omega
      · rw [if_neg h1, if_neg (by omega), Nat.add_zero, Nat.add_zero]
/-- the first i bays with work are given -/
def prA (bz : Nat → Bool) (xs : List Nat) (i b : Nat) : Nat := if bz b = true ∧ cntB bz b < i then gDn xs (cntB bz b) else 9
theorem prA_0 {bz : Nat → Bool} {xs : List Nat} : prA bz xs 0 = fun _ => 9 := by
  funext b; simp [prA]
theorem prA_succ {bz : Nat → Bool} {xs : List Nat} {i b : Nat} (hz : bz b = true) (hi : cntB bz b = i) : prA bz xs (i + 1) = upA (prA bz xs i) b (gDn xs i) := by
  funext x
  unfold upA
  dsimp only [prA]
  by_cases hx : x = b
  · subst hx
    rw [if_pos rfl, if_pos ⟨hz, by omega⟩, hi]
  · rw [if_neg hx]
    by_cases hzx : bz x = true
    · have hne : cntB bz x ≠ i := fun q => hx (cntB_inj hzx hz (by omega))
      by_cases hlt : cntB bz x < i
      · rw [if_pos ⟨hzx, by omega⟩, if_pos ⟨hzx, hlt⟩]
      · rw [if_neg (fun q => hlt (by omega)), if_neg (fun q => hlt q.2)]
    · rw [if_neg (fun q => hzx q.1), if_neg (fun q => hzx q.1)]
theorem prA_above {bz : Nat → Bool} {xs : List Nat} {i b : Nat} (hz : bz b = true) (hi : cntB bz b = i) : ∀ x, b ≤ x → 4 ≤ prA bz xs i x := by
  intro x hx
  unfold prA
  have := cntB_mono (bz := bz) hx
  rw [if_neg (fun q => by omega)]
  omega
theorem prA_all {bz : Nat → Bool} {xs : List Nat} {n b : Nat} (h : ∀ x, bz x = true → x < n) : prA bz xs (cntB bz n) b = sprB bz xs b := by
  unfold prA sprB
  by_cases hz : bz b = true
  · rw [if_pos hz, if_pos ⟨hz, (cntB_lt hz).mpr (h b hz)⟩]
  · rw [if_neg hz, if_neg (fun q => hz q.1)]
theorem bstL_congr {key key' : List Nat → Option (Nat × Nat)} : ∀ {L : List (List Nat)} {acc : Option (List Nat × Nat × Nat)}, (∀ x ∈ L, key x = key' x) → bstL key L acc = bstL key' L acc
  | [], _, _ => rfl
  | x :: L, acc, h => by
    have e : bstS key acc x = bstS key' acc x := by unfold bstS; rw [h x List.mem_cons_self]
    rw [bstL_cons, bstL_cons, e]
    exact bstL_congr (fun y hy => h y (List.mem_cons_of_mem _ hy))
theorem chk_of {C n m : Nat} (h1 : 1 ≤ C) (h4 : C ≤ 4) (hn : n ≤ 8) (hm : m < 2 ^ C) (hab : (ablL C m).isEmpty = false) : (enL C 165 (zrL n)).filter (fun xs => xs.all (mskL m)) = (enL (ablL C m).length 165 (zrL n)).map (fun xs => xs.map (gDn (ablL C m))) := by
  have h := chkA_ok
  unfold chkA at h
  rw [List.all_eq_true] at h
  have q1 := h (C - 1) (List.mem_range.mpr (by omega))
  rw [List.all_eq_true] at q1
  have q2 := q1 n (List.mem_range.mpr (by omega))
  rw [List.all_eq_true] at q2
  have e : C - 1 + 1 = C := by omega
  rw [e] at q2
  have q3 := q2 m (List.mem_range.mpr hm)
  unfold chk1 at q3
  rw [hab, Bool.false_or] at q3
  exact eq_of_beq q3
theorem end_of {C n : Nat} (h1 : 1 ≤ C) (h4 : C ≤ 4) (hn : n ≤ 8) : enE C 165 (zrL n) = true := by
  have h := chkE_ok
  unfold chkE at h
  rw [List.all_eq_true] at h
  have q1 := h (C - 1) (List.mem_range.mpr (by omega))
  rw [List.all_eq_true] at q1
  have q2 := q1 n (List.mem_range.mpr (by omega))
  have e : C - 1 + 1 = C := by omega
  rw [e] at q2
  exact q2
/-- the able cranes' best sharing is the best of all cranes' sharings, those with a crane that is out left aside -/
theorem best_same {keyA : List Nat → Option (Nat × Nat)} {C n m : Nat} (h1 : 1 ≤ C) (h4 : C ≤ 4) (hn : n ≤ 8) (hm : m < 2 ^ C) (hab : (ablL C m).isEmpty = false) :
    bstL (fun xs => if xs.all (mskL m) = true then keyA xs else none) (enL C 165 (zrL n)) none = (bstL (fun xs => keyA (xs.map (gDn (ablL C m)))) (enL (ablL C m).length 165 (zrL n)) none).map (fun q => (q.1.map (gDn (ablL C m)), q.2)) := by
  have h := chk_of h1 h4 hn hm hab
  rw [← bstL_filter (P := fun xs => xs.all (mskL m)) (fun x hx => by simp [hx]), h]
  have e := bstL_map (key := fun xs => if xs.all (mskL m) = true then keyA xs else none) (f := fun xs => xs.map (gDn (ablL C m))) (enL (ablL C m).length 165 (zrL n)) none
  rw [show (none : Option (List Nat × Nat × Nat)).map (fun q => (q.1.map (gDn (ablL C m)), q.2)) = none from rfl] at e
  rw [e]
  congr 1
  refine bstL_congr (fun x hx => ?_)
  have hmem : x.map (gDn (ablL C m)) ∈ (enL C 165 (zrL n)).filter (fun xs => xs.all (mskL m)) := by
    rw [h]; exact List.mem_map.mpr ⟨x, hx, rfl⟩
  have := (List.mem_filter.mp hmem).2
  simp only [this, if_true]
/-! the work done by a time -/
theorem cdv_lt {x v m : Nat} (hm : 0 < m) (h : x < cdv v m) : x * m < v := by
  unfold cdv at h
  have h1 : x + 1 ≤ (v + m - 1) / m := h
  have h2 := (Nat.le_div_iff_mul_le hm).mp h1
  rw [Nat.add_mul] at h2
  omega
theorem done_le {t a mo mi : Nat} (hm : 0 < mo) (hi : 0 < mi) (h : t < cdv (a * mi) mo) : t * mo / mi ≤ a := by
  have h1 := cdv_lt hm h
  have h2 : t * mo / mi ≤ a * mi / mi := Nat.div_le_div_right (Nat.le_of_lt h1)
  rw [Nat.mul_div_cancel _ hi] at h2
  exact h2
end
section
/-! the greatest of some numbers, one more of them -/
def fiG (P : Nat → Bool) (E : Nat → Nat) : Nat → Nat
  | 0 => 0
  | k + 1 => if P k = true then max (fiG P E k) (E k) else fiG P E k
theorem fiG_congr {P P' : Nat → Bool} {E E' : Nat → Nat} : ∀ {k : Nat}, (∀ b, b < k → P b = P' b) → (∀ b, b < k → P b = true → E b = E' b) → fiG P E k = fiG P' E' k
  | 0, _, _ => rfl
  | k + 1, h1, h2 => by
    have ih := fiG_congr (P := P) (P' := P') (E := E) (E' := E') (k := k) (fun b hb => h1 b (by omega)) (fun b hb => h2 b (by omega))
    unfold fiG
    rw [ih, h1 k (by omega)]
    by_cases hp : P' k = true
    · rw [if_pos hp, if_pos hp, h2 k (by omega) (by rw [h1 k (by omega)]; exact hp)]
    · rw [if_neg hp, if_neg hp]
theorem fiG_add {P : Nat → Bool} {E : Nat → Nat} {b0 : Nat} : ∀ {k : Nat}, fiG (fun b => P b || b == b0) E k = if b0 < k then max (fiG P E k) (E b0) else fiG P E k
  | 0 => by simp [fiG]
  | k + 1 => by
    have ih := fiG_add (P := P) (E := E) (b0 := b0) (k := k)
    unfold fiG
    rw [ih]
    by_cases hk : k = b0
    · subst hk
      have e : (P k || k == k) = true := by simp
      rw [if_pos e, if_neg (Nat.lt_irrefl k), if_pos (Nat.lt_succ_self k)]
      by_cases hp : P k = true
      · rw [if_pos hp]; omega
      · rw [if_neg hp]
    · have e : (P k || k == b0) = P k := by simp [hk]
      rw [e]
      by_cases hb : b0 < k
      · have hb1 : b0 < k + 1 := by omega
        rw [if_pos hb, if_pos hb1]
        by_cases hp : P k = true
        · rw [if_pos hp, if_pos hp]; omega
        · rw [if_neg hp, if_neg hp]
      · have hb1 : ¬ b0 < k + 1 := by omega
        rw [if_neg hb, if_neg hb1]
theorem fiG_le {P : Nat → Bool} {E : Nat → Nat} {M : Nat} : ∀ {k : Nat}, (∀ b, b < k → P b = true → E b ≤ M) → fiG P E k ≤ M
  | 0, _ => Nat.zero_le _
  | k + 1, h => by
    have ih := fiG_le (P := P) (E := E) (M := M) (k := k) (fun b hb => h b (by omega))
    unfold fiG
    by_cases hp : P k = true
    · rw [if_pos hp]; exact Nat.max_le.mpr ⟨ih, h k (by omega) hp⟩
    · rw [if_neg hp]; exact ih
/-! all cranes' rates together: the class adds fractions, the reference multiplies all minutes first -/
def prM (ab : Nat → Bool) (mi : Nat → Nat) : Nat → Nat
  | 0 => 1
  | c + 1 => if ab c = true then prM ab mi c * mi c else prM ab mi c
def abv (ab : Nat → Bool) (mo mi : Nat → Nat) : Nat → Nat
  | 0 => 0
  | c + 1 => if ab c = true then abv ab mo mi c * mi c + mo c * prM ab mi c else abv ab mo mi c
def ratS (ab : Nat → Bool) (mo mi : Nat → Nat) (P : Nat) : Nat → Nat
  | 0 => 0
  | c + 1 => ratS ab mo mi P c + (if ab c = true then P / mi c * mo c else 0)
theorem prM_pos {ab : Nat → Bool} {mi : Nat → Nat} (h : ∀ c, 0 < mi c) : ∀ c, 0 < prM ab mi c
  | 0 => by simp [prM]
  | c + 1 => by
    unfold prM
    split
    · exact Nat.mul_pos (prM_pos h c) (h c)
    · exact prM_pos h c
theorem rat_same {ab : Nat → Bool} {mo mi : Nat → Nat} (h : ∀ c, 0 < mi c) {P : Nat} : ∀ (c q : Nat), P = prM ab mi c * q → abv ab mo mi c * q = ratS ab mo mi P c
  | 0, q, _ => by simp [abv, ratS]
  | c + 1, q, hP => by
    unfold abv ratS
    by_cases ha : ab c = true
    · have e : prM ab mi (c + 1) = prM ab mi c * mi c := by simp [prM, ha]
      rw [e] at hP
      have ih := rat_same (ab := ab) (mo := mo) (P := P) h c (mi c * q) (by rw [hP, Nat.mul_assoc])
      rw [if_pos ha, if_pos ha, ← ih]
      have hd : P / mi c = prM ab mi c * q := by
        rw [hP, Nat.mul_right_comm]
        exact Nat.mul_div_cancel _ (h c)
      rw [hd, Nat.add_mul, Nat.mul_assoc, Nat.mul_assoc, Nat.mul_comm (mo c)]
    · have e : prM ab mi (c + 1) = prM ab mi c := by simp [prM, ha]
      rw [e] at hP
      rw [if_neg ha, if_neg ha, Nat.add_zero]
      exact rat_same h c q hP
theorem rat_eq {ab : Nat → Bool} {mo mi : Nat → Nat} (h : ∀ c, 0 < mi c) (c : Nat) : ratS ab mo mi (prM ab mi c) c = abv ab mo mi c := by
  have := rat_same (mo := mo) h c 1 (by rw [Nat.mul_one] : prM ab mi c = prM ab mi c * 1)
  rw [Nat.mul_one] at this
  exact this.symm
theorem prM_le {ab : Nat → Bool} {mi : Nat → Nat} (h : ∀ c, mi c ≤ 100) : ∀ c, prM ab mi c ≤ 100 ^ c
  | 0 => by simp [prM]
  | c + 1 => by
    have ih := prM_le (ab := ab) h c
    unfold prM
    rw [Nat.pow_succ]
    split
    · exact Nat.mul_le_mul ih (h c)
    · omega
theorem abv_le {ab : Nat → Bool} {mo mi : Nat → Nat} (h : ∀ c, mi c ≤ 100) (ho : ∀ c, mo c ≤ 100) : ∀ c, abv ab mo mi c ≤ c * 100 ^ c
  | 0 => by simp [abv]
  | c + 1 => by
    have ih := abv_le (ab := ab) h ho c
    have hp := prM_le (ab := ab) h c
    have h1 : abv ab mo mi c * mi c ≤ c * 100 ^ c * 100 := Nat.mul_le_mul ih (h c)
    have h2 : mo c * prM ab mi c ≤ 100 * 100 ^ c := Nat.mul_le_mul (ho c) hp
    have e : (c + 1) * 100 ^ (c + 1) = c * 100 ^ c * 100 + 100 * 100 ^ c := by
      rw [Nat.pow_succ, Nat.add_mul, Nat.mul_assoc, Nat.one_mul, Nat.mul_comm (100 ^ c) 100, Nat.mul_comm 100 (100 ^ c)]
    unfold abv
    rw [e]
    split
    · omega
    · have : c * 100 ^ c ≤ c * 100 ^ c * 100 := Nat.le_mul_of_pos_right _ (by omega)
      omega
end
section
/-! ONE JUDGEMENT FOR A WALK IN A WHOLE WORLD. X .. ws vs pc st: with the world ws, the locals vs (.null: nothing known), at pc with the stack st. -/
abbrev xSg : Type := Nat → Nat → Int32
def sst (σ : xSg) (q i : Nat) (v : Int32) : xSg := fun a j => if a = q ∧ j = i then v else σ a j
theorem sst_same {σ : xSg} {q i : Nat} {v : Int32} : sst σ q i v q i = v := by simp [sst]
theorem sst_q {σ : xSg} {q i a j : Nat} {v : Int32} (h : a ≠ q) : sst σ q i v a j = σ a j := by simp [sst, h]
theorem sst_i {σ : xSg} {q i a j : Nat} {v : Int32} (h : j ≠ i) : sst σ q i v a j = σ a j := by simp [sst, h]
def xLV (ls : Array Slot) (nL : Nat) (vs : List Value) : Prop := ls.size = nL ∧ lv_wf ls ∧ ∀ (i : Nat) (v : Value), vs[i]? = some v → v ≠ .null → ls[i]? = some (.val v)
def asP (vs : List Value) (j : Nat) : Option (Nat × Value) := match vs[j]? with
  | none => none
  | some .null => none
  | some v => some (j, v)
def asL (vs : List Value) : List (Nat × Value) := (List.range vs.length).filterMap (asP vs)
theorem asP_some {vs : List Value} {j : Nat} {q : Nat × Value} : asP vs j = some q ↔ q.1 = j ∧ vs[j]? = some q.2 ∧ q.2 ≠ .null := by
  obtain ⟨a, b⟩ := q
  cases h : vs[j]? with
  | none =>
    have e : asP vs j = none := by unfold asP; rw [h]
    rw [e]; simp
  | some v =>
    by_cases hv : v = .null
    · subst hv
      have e : asP vs j = none := by unfold asP; rw [h]
      rw [e]
      constructor
      · intro h1; cases h1
      · rintro ⟨-, h2, h3⟩; exact absurd (Option.some.inj h2).symm h3
    · have e : asP vs j = some (j, v) := by
        unfold asP; rw [h]
        cases v <;> first | rfl | exact absurd rfl hv
      rw [e]
      constructor
      · intro h1; cases h1; exact ⟨rfl, rfl, hv⟩
      · rintro ⟨h1, h2, -⟩
        cases h2
        have h1 : a = j := h1
        rw [h1]
theorem asL_mem {vs : List Value} {j : Nat} {v : Value} : (j, v) ∈ asL vs ↔ vs[j]? = some v ∧ v ≠ .null := by
  unfold asL
  rw [List.mem_filterMap]
  constructor
  · rintro ⟨a, -, h⟩
    obtain ⟨h1, h2, h3⟩ := asP_some.mp h
    cases h1
    exact ⟨h2, h3⟩
  · rintro ⟨h1, h2⟩
    exact ⟨j, List.mem_range.mpr (List.getElem?_eq_some_iff.mp h1).1, asP_some.mpr ⟨rfl, h1, h2⟩⟩
theorem xLV.has {ls : Array Slot} {nL : Nat} {vs : List Value} (h : xLV ls nL vs) : lv_has ls nL (asL vs) := ⟨h.1, h.2.1, fun q hq => h.2.2 q.1 q.2 (asL_mem.mp hq).1 (asL_mem.mp hq).2⟩
theorem xLV.of {ls : Array Slot} {nL : Nat} {vs : List Value} (h : lv_has ls nL (asL vs)) : xLV ls nL vs := ⟨h.1, h.2.1, fun i v h1 h2 => h.2.2 (i, v) (asL_mem.mpr ⟨h1, h2⟩)⟩
def lkill (vs : List Value) : Nat → List Value
  | 0 => vs
  | i + 1 => match vs[i]? with
    | some (.long _) => vs.set i .null
    | some (.double _) => vs.set i .null
    | _ => vs
def lset (vs : List Value) (i : Nat) (v : Value) : List Value := (lkill vs i).set i v
def lset2 (vs : List Value) (i : Nat) (v : Value) : List Value := ((lkill vs i).set i v).set (i + 1) .null
theorem lkill_spec {vs : List Value} {j : Nat} {v : Value} (hv : v ≠ .null) : ∀ {i : Nat}, (lkill vs i)[j]? = some v → vs[j]? = some v ∧ ¬ (j + 1 = i ∧ v.category = 2)
  | 0, h => ⟨h, fun q => by omega⟩
  | i + 1, h => by
    have key : ∀ (x : Value), (vs.set i .null)[j]? = some v → vs[j]? = some v ∧ ¬ (j + 1 = i + 1 ∧ v.category = 2) := by
      intro x hx
      by_cases hj : j = i
      · subst hj
        rw [List.getElem?_set_self'] at hx
        cases hy : vs[j]? with
        | none => rw [hy] at hx; cases hx
        | some y => rw [hy] at hx; cases hx; exact absurd rfl hv
      · rw [List.getElem?_set_ne (fun q => hj q.symm)] at hx
        exact ⟨hx, fun q => hj (by omega)⟩
    have h : (match vs[i]? with
      | some (.long _) => vs.set i .null
      | some (.double _) => vs.set i .null
      | _ => vs)[j]? = some v := h
    cases hi : vs[i]? with
    | none =>
      rw [hi] at h
      refine ⟨h, fun q => ?_⟩
      have : j = i := by omega
      subst this
      rw [hi] at h; cases h
    | some y =>
      rw [hi] at h
      cases y with
      | long z => exact key .null h
      | double z => exact key .null h
      | int z => exact ⟨h, fun q => by have : j = i := by omega
                                       subst this
                                       rw [hi] at h; cases h; exact absurd q.2 (by simp [Value.category])⟩
      | float z => exact ⟨h, fun q => by have : j = i := by omega
                                         subst this
                                         rw [hi] at h; cases h; exact absurd q.2 (by simp [Value.category])⟩
      | ref z => exact ⟨h, fun q => by have : j = i := by omega
                                       subst this
                                       rw [hi] at h; cases h; exact absurd q.2 (by simp [Value.category])⟩
      | retAddr z => exact ⟨h, fun q => by have : j = i := by omega
                                           subst this
                                           rw [hi] at h; cases h; exact absurd q.2 (by simp [Value.category])⟩
      | null => exact ⟨h, fun q => by have : j = i := by omega
                                      subst this
                                      rw [hi] at h; cases h; exact absurd q.2 (by simp [Value.category])⟩
theorem lset_of {ls : Array Slot} {nL : Nat} {vs : List Value} {i : Nat} {v : Value} (h : lv_has ls nL ((i, v) :: (asL vs).filter (fun q => !(q.1 == i) && !(q.1 + 1 == i && q.2.category == 2)))) : xLV ls nL (lset vs i v) := by
  refine ⟨h.1, h.2.1, fun j x hj hx => ?_⟩
  unfold lset at hj
  by_cases hji : j = i
  · subst hji
    have e : x = v := by
      rw [List.getElem?_set_self'] at hj
      cases hy : (lkill vs j)[j]? with
      | none => rw [hy] at hj; cases hj
      | some y => rw [hy] at hj; cases hj; rfl
    subst e
    exact h.2.2 (j, x) List.mem_cons_self
  · rw [List.getElem?_set_ne (fun q => hji q.symm)] at hj
    obtain ⟨h1, h2⟩ := lkill_spec hx hj
    refine h.2.2 (j, x) (List.mem_cons_of_mem _ (List.mem_filter.mpr ⟨asL_mem.mpr ⟨h1, hx⟩, ?_⟩))
    simp only [Bool.and_eq_true, Bool.not_eq_true', beq_eq_false_iff_ne, ne_eq, Bool.and_eq_false_iff]
    refine ⟨hji, ?_⟩
    by_cases hq : j + 1 = i
    · exact Or.inr (fun q => h2 ⟨hq, q⟩)
    · exact Or.inl hq
theorem lset2_of {ls : Array Slot} {nL : Nat} {vs : List Value} {i : Nat} {v : Value} (h : lv_has ls nL ((i, v) :: (asL vs).filter (fun q => !(q.1 == i) && (!(q.1 == i + 1) && !(q.1 + 1 == i && q.2.category == 2))))) : xLV ls nL (lset2 vs i v) := by
  refine ⟨h.1, h.2.1, fun j x hj hx => ?_⟩
  unfold lset2 at hj
  by_cases hj1 : j = i + 1
  · subst hj1
    rw [List.getElem?_set_self'] at hj
    cases hy : ((lkill vs i).set i v)[i + 1]? with
    | none => rw [hy] at hj; cases hj
    | some y => rw [hy] at hj; cases hj; exact absurd rfl hx
  rw [List.getElem?_set_ne (fun q => hj1 q.symm)] at hj
  by_cases hji : j = i
  · subst hji
    have e : x = v := by
      rw [List.getElem?_set_self'] at hj
      cases hy : (lkill vs j)[j]? with
      | none => rw [hy] at hj; cases hj
      | some y => rw [hy] at hj; cases hj; rfl
    subst e
    exact h.2.2 (j, x) List.mem_cons_self
  · rw [List.getElem?_set_ne (fun q => hji q.symm)] at hj
    obtain ⟨h1, h2⟩ := lkill_spec hx hj
    refine h.2.2 (j, x) (List.mem_cons_of_mem _ (List.mem_filter.mpr ⟨asL_mem.mpr ⟨h1, hx⟩, ?_⟩))
    simp only [Bool.and_eq_true, Bool.not_eq_true', beq_eq_false_iff_ne, ne_eq, Bool.and_eq_false_iff]
    refine ⟨hji, hj1, ?_⟩
    by_cases hq : j + 1 = i
    · exact Or.inr (fun q => h2 ⟨hq, q⟩)
    · exact Or.inl hq
def isNest : Cond → Bool
  | .fieldLinkNest .. => true
  | .methodLinkNest .. => true
  | _ => false
theorem nest_warm {c : Cond} (h : isNest c = true) {s U : State} (hW : s.WarmedH U.vm) (hZ : va_Nw c s) : va_Nw c U := by
  cases c <;> first | exact va_Nw.warmF hW hZ | exact va_Nw.warmM hW hZ | (simp [isNest] at h)
theorem nest_same {c : Cond} (h : isNest c = true) {s U : State} (hW : s.vm = U.vm) (hZ : va_Nw c s) : va_Nw c U := by
  cases c <;> first | exact va_Nw.same rfl hW hZ | (simp [isNest] at h)
theorem nest_use {c : Cond} (h : isNest c = true) {s : State} (hZ : va_Nw c s) {a : Array Value} : c.before a s = true := by
  cases c <;> first | exact va_Nw.use rfl hZ | (simp [isNest] at h)
def xG (p : Program) (s : State) (m : MethodId) (args : Array Value) (c : Code) (cc : ByteArray) (nL : Nat) (own : String) (Ts NW : List Cond) (D : va_G) (cl : List vw_C) (tys : List (ClassId × FieldType)) (A : Nat → Prop) : Prop :=
  p.tables.exec = Jvm.exec ∧ c.code = cc ∧ c.maxLocals = nL ∧ s.vm.findClass own = some m.cls ∧ (∀ w ∈ Ts, w.before args s = true) ∧ va_K D cl tys s ∧ (∀ c ∈ NW, isNest c = true ∧ va_Nw c s) ∧ ∀ q : Nat, s.heap.size ≤ q → A q
def xJ (p : Program) (l : Launch) (e : Env) (R : Room) (s : State) (m : MethodId) (args : Array Value) (below : List Frame) (meth : Method) (c : Code) (cells slots : Nat) (Q : State → Prop) (D : va_G) (cl : List vw_C) (A : Nat → Prop) (nL : Nat) (S : Heap → List Loc → Prop) (ws : va_W) (vs : List Value) (pc : Nat) (st : List Value) : Prop :=
  ∀ (H : Heap) (locs : List Loc) (ls : Array Slot), va_P D cl ws H → va_D A ws → S H locs → xLV ls nL vs → W p l e R s m args below meth c H locs cells slots Q (F0 m pc ls st)
section XL
variable {p : Program} {l : Launch} {e : Env} {R : Room} {s : State} {m : MethodId} {args : Array Value} {below : List Frame} {meth : Method} {c : Code} {cells slots : Nat} {Q : State → Prop} {D : va_G} {cl : List vw_C} {A : Nat → Prop} {nL : Nat} {S : Heap → List Loc → Prop} {ws : va_W} {vs : List Value} {pc : Nat} {st : List Value} {cc : ByteArray} {own : String} {Ts NW : List Cond} {tys : List (ClassId × FieldType)}
theorem x_iconst (G : xG p s m args c cc nL own Ts NW D cl tys A) {n : Int} (v : Int32) (d : decode cc pc = .ok (.iconst n, 1)) (hv : Int32.ofInt n = v) (k : xJ p l e R s m args below meth c cells slots Q D cl A nL (S) (ws) (vs) (pc + 1) (.int v :: st)) : xJ p l e R s m args below meth c cells slots Q D cl A nL (S) (ws) (vs) (pc) (st) := fun H locs ls hP hD hS hl => lv_iconst G.1 G.2.1 d hv (k H locs ls hP hD hS hl)
theorem x_bipush (G : xG p s m args c cc nL own Ts NW D cl tys A) {n : Int} (v : Int32) (d : decode cc pc = .ok (.bipush n, 2)) (hv : (Int8.ofInt n).toInt32 = v) (k : xJ p l e R s m args below meth c cells slots Q D cl A nL (S) (ws) (vs) (pc + 2) (.int v :: st)) : xJ p l e R s m args below meth c cells slots Q D cl A nL (S) (ws) (vs) (pc) (st) := fun H locs ls hP hD hS hl => lv_bipush G.1 G.2.1 d hv (k H locs ls hP hD hS hl)
theorem x_sipush (G : xG p s m args c cc nL own Ts NW D cl tys A) {n : Int} (v : Int32) (d : decode cc pc = .ok (.sipush n, 3)) (hv : (Int16.ofInt n).toInt32 = v) (k : xJ p l e R s m args below meth c cells slots Q D cl A nL (S) (ws) (vs) (pc + 3) (.int v :: st)) : xJ p l e R s m args below meth c cells slots Q D cl A nL (S) (ws) (vs) (pc) (st) := fun H locs ls hP hD hS hl => lv_sipush G.1 G.2.1 d hv (k H locs ls hP hD hS hl)
theorem x_lconst (G : xG p s m args c cc nL own Ts NW D cl tys A) {n : Fin 2} (v : Int64) (d : decode cc pc = .ok (.lconst n, 1)) (hv : Int64.ofNat (n : Nat) = v) (k : xJ p l e R s m args below meth c cells slots Q D cl A nL (S) (ws) (vs) (pc + 1) (.long v :: st)) : xJ p l e R s m args below meth c cells slots Q D cl A nL (S) (ws) (vs) (pc) (st) := fun H locs ls hP hD hS hl => lv_lconst G.1 G.2.1 d hv (k H locs ls hP hD hS hl)
theorem x_ldc (G : xG p s m args c cc nL own Ts NW D cl tys A) {index : Nat} (v : Int32) (d : decode cc pc = .ok (.ldc index, 2)) (hc : Cond.constant own index v ∈ Ts) (k : xJ p l e R s m args below meth c cells slots Q D cl A nL (S) (ws) (vs) (pc + 2) (.int v :: st)) : xJ p l e R s m args below meth c cells slots Q D cl A nL (S) (ws) (vs) (pc) (st) := fun H locs ls hP hD hS hl => lv_ldc G.1 G.2.1 G.2.2.2.1 (G.2.2.2.2.1 _ hc) d (k H locs ls hP hD hS hl)
theorem x_iload_n (G : xG p s m args c cc nL own Ts NW D cl tys A) {kk : Fin 4} {x : Int32} (i : Nat) (d : decode cc pc = .ok (.iload_n kk, 1)) (hi : (kk : Nat) = i) (hv : vs[i]? = some (.int x)) (k : xJ p l e R s m args below meth c cells slots Q D cl A nL (S) (ws) (vs) (pc + 1) (.int x :: st)) : xJ p l e R s m args below meth c cells slots Q D cl A nL (S) (ws) (vs) (pc) (st) := fun H locs ls hP hD hS hl => lv_iload_n G.1 G.2.1 d hi (hl.2.2 i (.int x) hv (fun h => by cases h)) (k H locs ls hP hD hS hl)
theorem x_iload (G : xG p s m args c cc nL own Ts NW D cl tys A) {i : Nat} {x : Int32} (d : decode cc pc = .ok (.iload i, 2)) (hv : vs[i]? = some (.int x)) (k : xJ p l e R s m args below meth c cells slots Q D cl A nL (S) (ws) (vs) (pc + 2) (.int x :: st)) : xJ p l e R s m args below meth c cells slots Q D cl A nL (S) (ws) (vs) (pc) (st) := fun H locs ls hP hD hS hl => lv_iload G.1 G.2.1 d (hl.2.2 i (.int x) hv (fun h => by cases h)) (k H locs ls hP hD hS hl)
theorem x_istore_n (G : xG p s m args c cc nL own Ts NW D cl tys A) {kk : Fin 4} {x : Int32} (i : Nat) (d : decode cc pc = .ok (.istore_n kk, 1)) (hi : (kk : Nat) = i) (hn : i < nL) (k : xJ p l e R s m args below meth c cells slots Q D cl A nL (S) (ws) (lset vs i (.int x)) (pc + 1) (st)) : xJ p l e R s m args below meth c cells slots Q D cl A nL (S) (ws) (vs) (pc) (.int x :: st) := fun H locs ls hP hD hS hl => lv_istore_n G.1 G.2.1 d hi hl.has hn rfl (fun ls' hl' => k H locs ls' hP hD hS (lset_of hl'))
theorem x_istore (G : xG p s m args c cc nL own Ts NW D cl tys A) {i : Nat} {x : Int32} (d : decode cc pc = .ok (.istore i, 2)) (hn : i < nL) (k : xJ p l e R s m args below meth c cells slots Q D cl A nL (S) (ws) (lset vs i (.int x)) (pc + 2) (st)) : xJ p l e R s m args below meth c cells slots Q D cl A nL (S) (ws) (vs) (pc) (.int x :: st) := fun H locs ls hP hD hS hl => lv_istore G.1 G.2.1 d hl.has hn rfl (fun ls' hl' => k H locs ls' hP hD hS (lset_of hl'))
theorem x_lload_n (G : xG p s m args c cc nL own Ts NW D cl tys A) {kk : Fin 4} {x : Int64} (i : Nat) (d : decode cc pc = .ok (.lload_n kk, 1)) (hi : (kk : Nat) = i) (hv : vs[i]? = some (.long x)) (k : xJ p l e R s m args below meth c cells slots Q D cl A nL (S) (ws) (vs) (pc + 1) (.long x :: st)) : xJ p l e R s m args below meth c cells slots Q D cl A nL (S) (ws) (vs) (pc) (st) := fun H locs ls hP hD hS hl => lv_lload_n G.1 G.2.1 d hi (hl.2.2 i (.long x) hv (fun h => by cases h)) (k H locs ls hP hD hS hl)
theorem x_lload (G : xG p s m args c cc nL own Ts NW D cl tys A) {i : Nat} {x : Int64} (d : decode cc pc = .ok (.lload i, 2)) (hv : vs[i]? = some (.long x)) (k : xJ p l e R s m args below meth c cells slots Q D cl A nL (S) (ws) (vs) (pc + 2) (.long x :: st)) : xJ p l e R s m args below meth c cells slots Q D cl A nL (S) (ws) (vs) (pc) (st) := fun H locs ls hP hD hS hl => lv_lload G.1 G.2.1 d (hl.2.2 i (.long x) hv (fun h => by cases h)) (k H locs ls hP hD hS hl)
theorem x_lstore_n (G : xG p s m args c cc nL own Ts NW D cl tys A) {kk : Fin 4} {x : Int64} (i : Nat) (d : decode cc pc = .ok (.lstore_n kk, 1)) (hi : (kk : Nat) = i) (hn : i + 1 < nL) (k : xJ p l e R s m args below meth c cells slots Q D cl A nL (S) (ws) (lset2 vs i (.long x)) (pc + 1) (st)) : xJ p l e R s m args below meth c cells slots Q D cl A nL (S) (ws) (vs) (pc) (.long x :: st) := fun H locs ls hP hD hS hl => lv_lstore_n G.1 G.2.1 d hi hl.has hn rfl (fun ls' hl' => k H locs ls' hP hD hS (lset2_of hl'))
theorem x_lstore (G : xG p s m args c cc nL own Ts NW D cl tys A) {i : Nat} {x : Int64} (d : decode cc pc = .ok (.lstore i, 2)) (hn : i + 1 < nL) (k : xJ p l e R s m args below meth c cells slots Q D cl A nL (S) (ws) (lset2 vs i (.long x)) (pc + 2) (st)) : xJ p l e R s m args below meth c cells slots Q D cl A nL (S) (ws) (vs) (pc) (.long x :: st) := fun H locs ls hP hD hS hl => lv_lstore G.1 G.2.1 d hl.has hn rfl (fun ls' hl' => k H locs ls' hP hD hS (lset2_of hl'))
theorem x_aload_n (G : xG p s m args c cc nL own Ts NW D cl tys A) {kk : Fin 4} {x : Nat} (i : Nat) (d : decode cc pc = .ok (.aload_n kk, 1)) (hi : (kk : Nat) = i) (hv : vs[i]? = some (.ref x)) (k : xJ p l e R s m args below meth c cells slots Q D cl A nL (S) (ws) (vs) (pc + 1) (.ref x :: st)) : xJ p l e R s m args below meth c cells slots Q D cl A nL (S) (ws) (vs) (pc) (st) := fun H locs ls hP hD hS hl => lv_aload_n G.1 G.2.1 d hi (hl.2.2 i (.ref x) hv (fun h => by cases h)) (k H locs ls hP hD hS hl)
theorem x_aload (G : xG p s m args c cc nL own Ts NW D cl tys A) {i : Nat} {x : Nat} (d : decode cc pc = .ok (.aload i, 2)) (hv : vs[i]? = some (.ref x)) (k : xJ p l e R s m args below meth c cells slots Q D cl A nL (S) (ws) (vs) (pc + 2) (.ref x :: st)) : xJ p l e R s m args below meth c cells slots Q D cl A nL (S) (ws) (vs) (pc) (st) := fun H locs ls hP hD hS hl => lv_aload G.1 G.2.1 d (hl.2.2 i (.ref x) hv (fun h => by cases h)) (k H locs ls hP hD hS hl)
theorem x_astore_n (G : xG p s m args c cc nL own Ts NW D cl tys A) {kk : Fin 4} {x : Nat} (i : Nat) (d : decode cc pc = .ok (.astore_n kk, 1)) (hi : (kk : Nat) = i) (hn : i < nL) (k : xJ p l e R s m args below meth c cells slots Q D cl A nL (S) (ws) (lset vs i (.ref x)) (pc + 1) (st)) : xJ p l e R s m args below meth c cells slots Q D cl A nL (S) (ws) (vs) (pc) (.ref x :: st) := fun H locs ls hP hD hS hl => lv_astore_n G.1 G.2.1 d hi hl.has hn rfl (fun ls' hl' => k H locs ls' hP hD hS (lset_of hl'))
theorem x_astore (G : xG p s m args c cc nL own Ts NW D cl tys A) {i : Nat} {x : Nat} (d : decode cc pc = .ok (.astore i, 2)) (hn : i < nL) (k : xJ p l e R s m args below meth c cells slots Q D cl A nL (S) (ws) (lset vs i (.ref x)) (pc + 2) (st)) : xJ p l e R s m args below meth c cells slots Q D cl A nL (S) (ws) (vs) (pc) (.ref x :: st) := fun H locs ls hP hD hS hl => lv_astore G.1 G.2.1 d hl.has hn rfl (fun ls' hl' => k H locs ls' hP hD hS (lset_of hl'))
theorem x_iinc (G : xG p s m args c cc nL own Ts NW D cl tys A) {i : Nat} {n : Int} {x : Int32} (v : Int32) (d : decode cc pc = .ok (.iinc i n, 3)) (hv : vs[i]? = some (.int x)) (he : x + Int32.ofInt n = v) (hn : i < nL) (k : xJ p l e R s m args below meth c cells slots Q D cl A nL (S) (ws) (lset vs i (.int v)) (pc + 3) (st)) : xJ p l e R s m args below meth c cells slots Q D cl A nL (S) (ws) (vs) (pc) (st) := fun H locs ls hP hD hS hl => by
  obtain ⟨j, hj⟩ := List.mem_iff_getElem?.mp (asL_mem.mpr ⟨hv, fun h => by cases h⟩)
  exact lv_iinc G.1 G.2.1 d hl.has hj he hn rfl (fun ls' hl' => k H locs ls' hP hD hS (lset_of hl'))
theorem x_iadd (G : xG p s m args c cc nL own Ts NW D cl tys A) {x y : Int32} (d : decode cc pc = .ok (.iadd, 1)) (k : xJ p l e R s m args below meth c cells slots Q D cl A nL (S) (ws) (vs) (pc + 1) (.int (x + y) :: st)) : xJ p l e R s m args below meth c cells slots Q D cl A nL (S) (ws) (vs) (pc) (.int y :: .int x :: st) := fun H locs ls hP hD hS hl => lv_iadd G.1 G.2.1 d (k H locs ls hP hD hS hl)
theorem x_isub (G : xG p s m args c cc nL own Ts NW D cl tys A) {x y : Int32} (d : decode cc pc = .ok (.isub, 1)) (k : xJ p l e R s m args below meth c cells slots Q D cl A nL (S) (ws) (vs) (pc + 1) (.int (x - y) :: st)) : xJ p l e R s m args below meth c cells slots Q D cl A nL (S) (ws) (vs) (pc) (.int y :: .int x :: st) := fun H locs ls hP hD hS hl => lv_isub G.1 G.2.1 d (k H locs ls hP hD hS hl)
theorem x_imul (G : xG p s m args c cc nL own Ts NW D cl tys A) {x y : Int32} (d : decode cc pc = .ok (.imul, 1)) (k : xJ p l e R s m args below meth c cells slots Q D cl A nL (S) (ws) (vs) (pc + 1) (.int (x * y) :: st)) : xJ p l e R s m args below meth c cells slots Q D cl A nL (S) (ws) (vs) (pc) (.int y :: .int x :: st) := fun H locs ls hP hD hS hl => lv_imul G.1 G.2.1 d (k H locs ls hP hD hS hl)
theorem x_iand (G : xG p s m args c cc nL own Ts NW D cl tys A) {x y : Int32} (d : decode cc pc = .ok (.iand, 1)) (k : xJ p l e R s m args below meth c cells slots Q D cl A nL (S) (ws) (vs) (pc + 1) (.int (x &&& y) :: st)) : xJ p l e R s m args below meth c cells slots Q D cl A nL (S) (ws) (vs) (pc) (.int y :: .int x :: st) := fun H locs ls hP hD hS hl => lv_iand G.1 G.2.1 d (k H locs ls hP hD hS hl)
theorem x_idiv (G : xG p s m args c cc nL own Ts NW D cl tys A) {x y : Int32} (d : decode cc pc = .ok (.idiv, 1)) (hne : ¬ y = 0) (k : xJ p l e R s m args below meth c cells slots Q D cl A nL (S) (ws) (vs) (pc + 1) (.int (x / y) :: st)) : xJ p l e R s m args below meth c cells slots Q D cl A nL (S) (ws) (vs) (pc) (.int y :: .int x :: st) := fun H locs ls hP hD hS hl => lv_idiv G.1 G.2.1 d hne (k H locs ls hP hD hS hl)
theorem x_irem (G : xG p s m args c cc nL own Ts NW D cl tys A) {x y : Int32} (d : decode cc pc = .ok (.irem, 1)) (hne : ¬ y = 0) (k : xJ p l e R s m args below meth c cells slots Q D cl A nL (S) (ws) (vs) (pc + 1) (.int (x - x / y * y) :: st)) : xJ p l e R s m args below meth c cells slots Q D cl A nL (S) (ws) (vs) (pc) (.int y :: .int x :: st) := fun H locs ls hP hD hS hl => lv_irem G.1 G.2.1 d hne (k H locs ls hP hD hS hl)
theorem x_ladd (G : xG p s m args c cc nL own Ts NW D cl tys A) {x y : Int64} (d : decode cc pc = .ok (.ladd, 1)) (k : xJ p l e R s m args below meth c cells slots Q D cl A nL (S) (ws) (vs) (pc + 1) (.long (x + y) :: st)) : xJ p l e R s m args below meth c cells slots Q D cl A nL (S) (ws) (vs) (pc) (.long y :: .long x :: st) := fun H locs ls hP hD hS hl => lv_ladd G.1 G.2.1 d (k H locs ls hP hD hS hl)
theorem x_lsub (G : xG p s m args c cc nL own Ts NW D cl tys A) {x y : Int64} (d : decode cc pc = .ok (.lsub, 1)) (k : xJ p l e R s m args below meth c cells slots Q D cl A nL (S) (ws) (vs) (pc + 1) (.long (x - y) :: st)) : xJ p l e R s m args below meth c cells slots Q D cl A nL (S) (ws) (vs) (pc) (.long y :: .long x :: st) := fun H locs ls hP hD hS hl => lv_lsub G.1 G.2.1 d (k H locs ls hP hD hS hl)
theorem x_lmul (G : xG p s m args c cc nL own Ts NW D cl tys A) {x y : Int64} (d : decode cc pc = .ok (.lmul, 1)) (k : xJ p l e R s m args below meth c cells slots Q D cl A nL (S) (ws) (vs) (pc + 1) (.long (x * y) :: st)) : xJ p l e R s m args below meth c cells slots Q D cl A nL (S) (ws) (vs) (pc) (.long y :: .long x :: st) := fun H locs ls hP hD hS hl => lv_lmul G.1 G.2.1 d (k H locs ls hP hD hS hl)
theorem x_ldiv (G : xG p s m args c cc nL own Ts NW D cl tys A) {x y : Int64} (d : decode cc pc = .ok (.ldiv, 1)) (hne : ¬ y = 0) (k : xJ p l e R s m args below meth c cells slots Q D cl A nL (S) (ws) (vs) (pc + 1) (.long (x / y) :: st)) : xJ p l e R s m args below meth c cells slots Q D cl A nL (S) (ws) (vs) (pc) (.long y :: .long x :: st) := fun H locs ls hP hD hS hl => lv_ldiv G.1 G.2.1 d hne (k H locs ls hP hD hS hl)
theorem x_lcmp (G : xG p s m args c cc nL own Ts NW D cl tys A) {x y : Int64} (d : decode cc pc = .ok (.lcmp, 1)) (k : xJ p l e R s m args below meth c cells slots Q D cl A nL (S) (ws) (vs) (pc + 1) (.int (lg_cmp x y) :: st)) : xJ p l e R s m args below meth c cells slots Q D cl A nL (S) (ws) (vs) (pc) (.long y :: .long x :: st) := fun H locs ls hP hD hS hl => W.lcmp G.1 G.2.1 d (k H locs ls hP hD hS hl)
theorem x_i2l (G : xG p s m args c cc nL own Ts NW D cl tys A) {x : Int32} (d : decode cc pc = .ok (.i2l, 1)) (k : xJ p l e R s m args below meth c cells slots Q D cl A nL (S) (ws) (vs) (pc + 1) (.long x.toInt64 :: st)) : xJ p l e R s m args below meth c cells slots Q D cl A nL (S) (ws) (vs) (pc) (.int x :: st) := fun H locs ls hP hD hS hl => lv_i2l G.1 G.2.1 d rfl (k H locs ls hP hD hS hl)
theorem x_l2i (G : xG p s m args c cc nL own Ts NW D cl tys A) {x : Int64} (d : decode cc pc = .ok (.l2i, 1)) (k : xJ p l e R s m args below meth c cells slots Q D cl A nL (S) (ws) (vs) (pc + 1) (.int x.toInt32 :: st)) : xJ p l e R s m args below meth c cells slots Q D cl A nL (S) (ws) (vs) (pc) (.long x :: st) := fun H locs ls hP hD hS hl => lv_l2i G.1 G.2.1 d rfl (k H locs ls hP hD hS hl)
theorem x_dup (G : xG p s m args c cc nL own Ts NW D cl tys A) {v : Value} (d : decode cc pc = .ok (.dup, 1)) (h1 : v.category = 1) (k : xJ p l e R s m args below meth c cells slots Q D cl A nL (S) (ws) (vs) (pc + 1) (v :: v :: st)) : xJ p l e R s m args below meth c cells slots Q D cl A nL (S) (ws) (vs) (pc) (v :: st) := fun H locs ls hP hD hS hl => lv_dup G.1 G.2.1 d h1 (k H locs ls hP hD hS hl)
theorem x_pop (G : xG p s m args c cc nL own Ts NW D cl tys A) {v : Value} (d : decode cc pc = .ok (.pop, 1)) (h1 : v.category = 1) (k : xJ p l e R s m args below meth c cells slots Q D cl A nL (S) (ws) (vs) (pc + 1) (st)) : xJ p l e R s m args below meth c cells slots Q D cl A nL (S) (ws) (vs) (pc) (v :: st) := fun H locs ls hP hD hS hl => lv_pop G.1 G.2.1 d h1 (k H locs ls hP hD hS hl)
theorem x_dup_x1 (G : xG p s m args c cc nL own Ts NW D cl tys A) {v u : Value} (d : decode cc pc = .ok (.dup_x1, 1)) (h1 : v.category = 1) (h2 : u.category = 1) (k : xJ p l e R s m args below meth c cells slots Q D cl A nL (S) (ws) (vs) (pc + 1) (v :: u :: v :: st)) : xJ p l e R s m args below meth c cells slots Q D cl A nL (S) (ws) (vs) (pc) (v :: u :: st) := fun H locs ls hP hD hS hl => lv_dup_x1 G.1 G.2.1 d h1 h2 (k H locs ls hP hD hS hl)
theorem x_dup2 (G : xG p s m args c cc nL own Ts NW D cl tys A) {v u : Value} (d : decode cc pc = .ok (.dup2, 1)) (h1 : v.category = 1) (h2 : u.category = 1) (k : xJ p l e R s m args below meth c cells slots Q D cl A nL (S) (ws) (vs) (pc + 1) (v :: u :: v :: u :: st)) : xJ p l e R s m args below meth c cells slots Q D cl A nL (S) (ws) (vs) (pc) (v :: u :: st) := fun H locs ls hP hD hS hl => lv_dup2_11 G.1 G.2.1 d h1 h2 (k H locs ls hP hD hS hl)
theorem x_if_eq (G : xG p s m args c cc nL own Ts NW D cl tys A) {x : Int32} {off : Int} (tgt : Nat) (d : decode cc pc = .ok (.ifCond .eq off, 3)) (ht : (pc : Int) + off = (tgt : Int)) (kt : x = 0 → xJ p l e R s m args below meth c cells slots Q D cl A nL (S) (ws) (vs) (tgt) (st)) (kf : ¬ x = 0 → xJ p l e R s m args below meth c cells slots Q D cl A nL (S) (ws) (vs) (pc + 3) (st)) : xJ p l e R s m args below meth c cells slots Q D cl A nL (S) (ws) (vs) (pc) (.int x :: st) := fun H locs ls hP hD hS hl => lv_if_eq G.1 G.2.1 d ht (fun h => kt h H locs ls hP hD hS hl) (fun h => kf h H locs ls hP hD hS hl)
theorem x_icmp_eq (G : xG p s m args c cc nL own Ts NW D cl tys A) {x y : Int32} {off : Int} (tgt : Nat) (d : decode cc pc = .ok (.if_icmp .eq off, 3)) (ht : (pc : Int) + off = (tgt : Int)) (kt : x = y → xJ p l e R s m args below meth c cells slots Q D cl A nL (S) (ws) (vs) (tgt) (st)) (kf : ¬ x = y → xJ p l e R s m args below meth c cells slots Q D cl A nL (S) (ws) (vs) (pc + 3) (st)) : xJ p l e R s m args below meth c cells slots Q D cl A nL (S) (ws) (vs) (pc) (.int y :: .int x :: st) := fun H locs ls hP hD hS hl => lv_icmp_eq G.1 G.2.1 d ht (fun h => kt h H locs ls hP hD hS hl) (fun h => kf h H locs ls hP hD hS hl)
theorem x_if_ne (G : xG p s m args c cc nL own Ts NW D cl tys A) {x : Int32} {off : Int} (tgt : Nat) (d : decode cc pc = .ok (.ifCond .ne off, 3)) (ht : (pc : Int) + off = (tgt : Int)) (kt : ¬ x = 0 → xJ p l e R s m args below meth c cells slots Q D cl A nL (S) (ws) (vs) (tgt) (st)) (kf : x = 0 → xJ p l e R s m args below meth c cells slots Q D cl A nL (S) (ws) (vs) (pc + 3) (st)) : xJ p l e R s m args below meth c cells slots Q D cl A nL (S) (ws) (vs) (pc) (.int x :: st) := fun H locs ls hP hD hS hl => lv_if_ne G.1 G.2.1 d ht (fun h => kt h H locs ls hP hD hS hl) (fun h => kf h H locs ls hP hD hS hl)
theorem x_icmp_ne (G : xG p s m args c cc nL own Ts NW D cl tys A) {x y : Int32} {off : Int} (tgt : Nat) (d : decode cc pc = .ok (.if_icmp .ne off, 3)) (ht : (pc : Int) + off = (tgt : Int)) (kt : ¬ x = y → xJ p l e R s m args below meth c cells slots Q D cl A nL (S) (ws) (vs) (tgt) (st)) (kf : x = y → xJ p l e R s m args below meth c cells slots Q D cl A nL (S) (ws) (vs) (pc + 3) (st)) : xJ p l e R s m args below meth c cells slots Q D cl A nL (S) (ws) (vs) (pc) (.int y :: .int x :: st) := fun H locs ls hP hD hS hl => lv_icmp_ne G.1 G.2.1 d ht (fun h => kt h H locs ls hP hD hS hl) (fun h => kf h H locs ls hP hD hS hl)
theorem x_if_lt (G : xG p s m args c cc nL own Ts NW D cl tys A) {x : Int32} {off : Int} (tgt : Nat) (d : decode cc pc = .ok (.ifCond .lt off, 3)) (ht : (pc : Int) + off = (tgt : Int)) (kt : x < 0 → xJ p l e R s m args below meth c cells slots Q D cl A nL (S) (ws) (vs) (tgt) (st)) (kf : ¬ x < 0 → xJ p l e R s m args below meth c cells slots Q D cl A nL (S) (ws) (vs) (pc + 3) (st)) : xJ p l e R s m args below meth c cells slots Q D cl A nL (S) (ws) (vs) (pc) (.int x :: st) := fun H locs ls hP hD hS hl => lv_if_lt G.1 G.2.1 d ht (fun h => kt h H locs ls hP hD hS hl) (fun h => kf h H locs ls hP hD hS hl)
theorem x_icmp_lt (G : xG p s m args c cc nL own Ts NW D cl tys A) {x y : Int32} {off : Int} (tgt : Nat) (d : decode cc pc = .ok (.if_icmp .lt off, 3)) (ht : (pc : Int) + off = (tgt : Int)) (kt : x < y → xJ p l e R s m args below meth c cells slots Q D cl A nL (S) (ws) (vs) (tgt) (st)) (kf : ¬ x < y → xJ p l e R s m args below meth c cells slots Q D cl A nL (S) (ws) (vs) (pc + 3) (st)) : xJ p l e R s m args below meth c cells slots Q D cl A nL (S) (ws) (vs) (pc) (.int y :: .int x :: st) := fun H locs ls hP hD hS hl => lv_icmp_lt G.1 G.2.1 d ht (fun h => kt h H locs ls hP hD hS hl) (fun h => kf h H locs ls hP hD hS hl)
theorem x_if_ge (G : xG p s m args c cc nL own Ts NW D cl tys A) {x : Int32} {off : Int} (tgt : Nat) (d : decode cc pc = .ok (.ifCond .ge off, 3)) (ht : (pc : Int) + off = (tgt : Int)) (kt : 0 ≤ x → xJ p l e R s m args below meth c cells slots Q D cl A nL (S) (ws) (vs) (tgt) (st)) (kf : ¬ 0 ≤ x → xJ p l e R s m args below meth c cells slots Q D cl A nL (S) (ws) (vs) (pc + 3) (st)) : xJ p l e R s m args below meth c cells slots Q D cl A nL (S) (ws) (vs) (pc) (.int x :: st) := fun H locs ls hP hD hS hl => lv_if_ge G.1 G.2.1 d ht (fun h => kt h H locs ls hP hD hS hl) (fun h => kf h H locs ls hP hD hS hl)
theorem x_icmp_ge (G : xG p s m args c cc nL own Ts NW D cl tys A) {x y : Int32} {off : Int} (tgt : Nat) (d : decode cc pc = .ok (.if_icmp .ge off, 3)) (ht : (pc : Int) + off = (tgt : Int)) (kt : y ≤ x → xJ p l e R s m args below meth c cells slots Q D cl A nL (S) (ws) (vs) (tgt) (st)) (kf : ¬ y ≤ x → xJ p l e R s m args below meth c cells slots Q D cl A nL (S) (ws) (vs) (pc + 3) (st)) : xJ p l e R s m args below meth c cells slots Q D cl A nL (S) (ws) (vs) (pc) (.int y :: .int x :: st) := fun H locs ls hP hD hS hl => lv_icmp_ge G.1 G.2.1 d ht (fun h => kt h H locs ls hP hD hS hl) (fun h => kf h H locs ls hP hD hS hl)
theorem x_if_gt (G : xG p s m args c cc nL own Ts NW D cl tys A) {x : Int32} {off : Int} (tgt : Nat) (d : decode cc pc = .ok (.ifCond .gt off, 3)) (ht : (pc : Int) + off = (tgt : Int)) (kt : 0 < x → xJ p l e R s m args below meth c cells slots Q D cl A nL (S) (ws) (vs) (tgt) (st)) (kf : ¬ 0 < x → xJ p l e R s m args below meth c cells slots Q D cl A nL (S) (ws) (vs) (pc + 3) (st)) : xJ p l e R s m args below meth c cells slots Q D cl A nL (S) (ws) (vs) (pc) (.int x :: st) := fun H locs ls hP hD hS hl => lv_if_gt G.1 G.2.1 d ht (fun h => kt h H locs ls hP hD hS hl) (fun h => kf h H locs ls hP hD hS hl)
theorem x_icmp_gt (G : xG p s m args c cc nL own Ts NW D cl tys A) {x y : Int32} {off : Int} (tgt : Nat) (d : decode cc pc = .ok (.if_icmp .gt off, 3)) (ht : (pc : Int) + off = (tgt : Int)) (kt : y < x → xJ p l e R s m args below meth c cells slots Q D cl A nL (S) (ws) (vs) (tgt) (st)) (kf : ¬ y < x → xJ p l e R s m args below meth c cells slots Q D cl A nL (S) (ws) (vs) (pc + 3) (st)) : xJ p l e R s m args below meth c cells slots Q D cl A nL (S) (ws) (vs) (pc) (.int y :: .int x :: st) := fun H locs ls hP hD hS hl => lv_icmp_gt G.1 G.2.1 d ht (fun h => kt h H locs ls hP hD hS hl) (fun h => kf h H locs ls hP hD hS hl)
theorem x_if_le (G : xG p s m args c cc nL own Ts NW D cl tys A) {x : Int32} {off : Int} (tgt : Nat) (d : decode cc pc = .ok (.ifCond .le off, 3)) (ht : (pc : Int) + off = (tgt : Int)) (kt : x ≤ 0 → xJ p l e R s m args below meth c cells slots Q D cl A nL (S) (ws) (vs) (tgt) (st)) (kf : ¬ x ≤ 0 → xJ p l e R s m args below meth c cells slots Q D cl A nL (S) (ws) (vs) (pc + 3) (st)) : xJ p l e R s m args below meth c cells slots Q D cl A nL (S) (ws) (vs) (pc) (.int x :: st) := fun H locs ls hP hD hS hl => lv_if_le G.1 G.2.1 d ht (fun h => kt h H locs ls hP hD hS hl) (fun h => kf h H locs ls hP hD hS hl)
theorem x_icmp_le (G : xG p s m args c cc nL own Ts NW D cl tys A) {x y : Int32} {off : Int} (tgt : Nat) (d : decode cc pc = .ok (.if_icmp .le off, 3)) (ht : (pc : Int) + off = (tgt : Int)) (kt : x ≤ y → xJ p l e R s m args below meth c cells slots Q D cl A nL (S) (ws) (vs) (tgt) (st)) (kf : ¬ x ≤ y → xJ p l e R s m args below meth c cells slots Q D cl A nL (S) (ws) (vs) (pc + 3) (st)) : xJ p l e R s m args below meth c cells slots Q D cl A nL (S) (ws) (vs) (pc) (.int y :: .int x :: st) := fun H locs ls hP hD hS hl => lv_icmp_le G.1 G.2.1 d ht (fun h => kt h H locs ls hP hD hS hl) (fun h => kf h H locs ls hP hD hS hl)
theorem x_goto (G : xG p s m args c cc nL own Ts NW D cl tys A) {off : Int} (tgt : Nat) (d : decode cc pc = .ok (.goto off, 3)) (ht : (pc : Int) + off = (tgt : Int)) (k : xJ p l e R s m args below meth c cells slots Q D cl A nL (S) (ws) (vs) (tgt) (st)) : xJ p l e R s m args below meth c cells slots Q D cl A nL (S) (ws) (vs) (pc) (st) := fun H locs ls hP hD hS hl => lv_goto G.1 G.2.1 d ht (k H locs ls hP hD hS hl)
theorem x_tableOut (G : xG p s m args c cc nL own Ts NW D cl tys A) {dflt lo hi : Int} {offs : Array Int} {len : Nat} {x : Int32} (tgt : Nat) (d : decode cc pc = .ok (.tableswitch dflt lo hi offs, len)) (h : x.toInt < lo ∨ hi < x.toInt) (ht : (pc : Int) + dflt = (tgt : Int)) (k : xJ p l e R s m args below meth c cells slots Q D cl A nL (S) (ws) (vs) (tgt) (st)) : xJ p l e R s m args below meth c cells slots Q D cl A nL (S) (ws) (vs) (pc) (.int x :: st) := fun H locs ls hP hD hS hl => lv_tableOut G.1 G.2.1 d h ht (k H locs ls hP hD hS hl)
theorem x_tableIn (G : xG p s m args c cc nL own Ts NW D cl tys A) {dflt lo hi : Int} {offs : Array Int} {len : Nat} {x : Int32} {off : Int} (tgt : Nat) (d : decode cc pc = .ok (.tableswitch dflt lo hi offs, len)) (h1 : ¬ x.toInt < lo) (h2 : ¬ hi < x.toInt) (ho : offs[(x.toInt - lo).toNat]? = some off) (ht : (pc : Int) + off = (tgt : Int)) (k : xJ p l e R s m args below meth c cells slots Q D cl A nL (S) (ws) (vs) (tgt) (st)) : xJ p l e R s m args below meth c cells slots Q D cl A nL (S) (ws) (vs) (pc) (.int x :: st) := fun H locs ls hP hD hS hl => lv_tableIn G.1 G.2.1 d h1 h2 ho ht (k H locs ls hP hD hS hl)
theorem x_get (G : xG p s m args c cc nL own Ts NW D cl tys A) {ref C : String} {T : u_T} {N ci index : Nat} {a : Nat} (q0 : Nat) {fs : List Value} {v : Value} (he : ws[q0]? = some (a, .inr (ci, fs))) (hc : cl[ci]? = some (C, T, N)) (kf : Nat) (hk : kf < N) (hv : fs[kf]? = some v) (hin : ∀ w ∈ u_ws C T N, w ∈ Ts) (hlink : Cond.fieldLink own index ref (T kf).2.1 (T kf).2.2.1 ∈ Ts) (hsame : ref = (T kf).1) (d : decode cc pc = .ok (.getfield index, 3)) (k : xJ p l e R s m args below meth c cells slots Q D cl A nL (S) (ws) (vs) (pc + 3) (v :: st)) : xJ p l e R s m args below meth c cells slots Q D cl A nL (S) (ws) (vs) (pc) (.ref a :: st) := fun H locs ls hP hD hS hl => va_get G.1 G.2.1 G.2.2.2.2.1 hin G.2.2.2.1 G.2.2.2.2.2.1 hP q0 he hc kf hk (G.2.2.2.2.1 _ hlink) (fun _ h => by rw [hsame]; exact h) hv d (k H locs ls hP hD hS hl)
theorem x_getN (G : xG p s m args c cc nL own Ts NW D cl tys A) {ref C : String} {T : u_T} {N ci index : Nat} {a : Nat} {host : String} (q0 : Nat) {fs : List Value} {v : Value} (he : ws[q0]? = some (a, .inr (ci, fs))) (hc : cl[ci]? = some (C, T, N)) (kf : Nat) (hk : kf < N) (hv : fs[kf]? = some v) (hin : ∀ w ∈ u_ws C T N, w ∈ Ts) (hlink : Cond.fieldLinkNest own index ref (T kf).2.1 (T kf).2.2.1 host ∈ NW) (hsame : ref = (T kf).1) (d : decode cc pc = .ok (.getfield index, 3)) (k : xJ p l e R s m args below meth c cells slots Q D cl A nL (S) (ws) (vs) (pc + 3) (v :: st)) : xJ p l e R s m args below meth c cells slots Q D cl A nL (S) (ws) (vs) (pc) (.ref a :: st) := fun H locs ls hP hD hS hl => va_getN G.1 G.2.1 G.2.2.2.2.1 hin G.2.2.2.1 G.2.2.2.2.2.1 hP q0 he hc kf hk (nest_use (G.2.2.2.2.2.2.1 _ hlink).1 (G.2.2.2.2.2.2.1 _ hlink).2) (fun _ h => by rw [hsame]; exact h) hv d (k H locs ls hP hD hS hl)
theorem x_put (G : xG p s m args c cc nL own Ts NW D cl tys A) {ref C : String} {T : u_T} {N ci index : Nat} {a : Nat} {ty0 : Nat → FieldType} (q0 : Nat) {fs : List Value} {v : Value} {ty : FieldType} {ws' : va_W} (he : ws[q0]? = some (a, .inr (ci, fs))) (hc : cl[ci]? = some (C, T, N)) (kf : Nat) (hk : kf < N) (hl0 : kf < fs.length) (hw : ws.set q0 (a, .inr (ci, fs.set kf v)) = ws') (hin : ∀ w ∈ u_ws C T N, w ∈ Ts) (hty : ∀ k, k < N → parseFieldDescriptor (T k).2.2.1 = some (ty0 k)) (hnm : ∀ a, a < N → ∀ b, b < N → a ≠ b → (T a).2.1 ≠ (T b).2.1) (hlink : Cond.fieldLink own index ref (T kf).2.1 (T kf).2.2.1 ∈ Ts) (hsame : ref = (T kf).1) (hfin : (T kf).2.2.2 = false) (hd : parseFieldDescriptor (T kf).2.2.1 = some ty) (hn : narrow ty v = v) (hfit : fits ty v = true) (d : decode cc pc = .ok (.putfield index, 3)) (k : xJ p l e R s m args below meth c cells slots Q D cl A nL (va_S A s.heap) (ws') (vs) (pc + 3) (st)) : xJ p l e R s m args below meth c cells slots Q D cl A nL (va_S A s.heap) (ws) (vs) (pc) (v :: .ref a :: st) := fun H locs ls hP hD hS hl => va_put G.1 G.2.1 G.2.2.2.2.1 hin ty0 hty hnm G.2.2.2.1 G.2.2.2.2.2.1 hP hD hS q0 he hc kf hk (G.2.2.2.2.1 _ hlink) (fun _ h => by rw [hsame]; exact h) hfin hd hn hfit hl0 d (fun H1 locs1 hP hD hS => k H1 locs1 ls (hw ▸ hP) (hw ▸ hD) hS hl)
theorem x_putN (G : xG p s m args c cc nL own Ts NW D cl tys A) {ref C : String} {T : u_T} {N ci index : Nat} {a : Nat} {ty0 : Nat → FieldType} (q0 : Nat) {fs : List Value} {v : Value} {ty : FieldType} {ws' : va_W} (he : ws[q0]? = some (a, .inr (ci, fs))) (hc : cl[ci]? = some (C, T, N)) (kf : Nat) (hk : kf < N) (hl0 : kf < fs.length) (hw : ws.set q0 (a, .inr (ci, fs.set kf v)) = ws') (hin : ∀ w ∈ u_ws C T N, w ∈ Ts) (hty : ∀ k, k < N → parseFieldDescriptor (T k).2.2.1 = some (ty0 k)) (hnm : ∀ a, a < N → ∀ b, b < N → a ≠ b → (T a).2.1 ≠ (T b).2.1) {host : String} (hlink : Cond.fieldLinkNest own index ref (T kf).2.1 (T kf).2.2.1 host ∈ NW) (hsame : ref = (T kf).1) (hfin : (T kf).2.2.2 = false) (hd : parseFieldDescriptor (T kf).2.2.1 = some ty) (hn : narrow ty v = v) (hfit : fits ty v = true) (d : decode cc pc = .ok (.putfield index, 3)) (k : xJ p l e R s m args below meth c cells slots Q D cl A nL (va_S A s.heap) (ws') (vs) (pc + 3) (st)) : xJ p l e R s m args below meth c cells slots Q D cl A nL (va_S A s.heap) (ws) (vs) (pc) (v :: .ref a :: st) := fun H locs ls hP hD hS hl => va_putN G.1 G.2.1 G.2.2.2.2.1 hin ty0 hty hnm G.2.2.2.1 G.2.2.2.2.2.1 hP hD hS q0 he hc kf hk (nest_use (G.2.2.2.2.2.2.1 _ hlink).1 (G.2.2.2.2.2.2.1 _ hlink).2) (fun _ h => by rw [hsame]; exact h) hfin hd hn hfit hl0 d (fun H1 locs1 hP hD hS => k H1 locs1 ls (hw ▸ hP) (hw ▸ hD) hS hl)
theorem x_iald (G : xG p s m args c cc nL own Ts NW D cl tys A) {a : Nat} (q0 t0 : Nat) {cA : ClassId} {n : Nat} {f : Nat → Int32} (ha : ws[q0]? = some (a, .inl (cA, n, .inl f))) (ht : tys[t0]? = some (cA, .int)) {i : Int32} (hin : vp_in i n) (d : decode cc pc = .ok (.iaload, 1)) (k : xJ p l e R s m args below meth c cells slots Q D cl A nL (S) (ws) (vs) (pc + 1) (.int (f i.toNatClampNeg) :: st)) : xJ p l e R s m args below meth c cells slots Q D cl A nL (S) (ws) (vs) (pc) (.int i :: .ref a :: st) := fun H locs ls hP hD hS hl => va_iald G.1 G.2.1 G.2.2.2.2.2.1 hP q0 t0 ha ht hin d (k H locs ls hP hD hS hl)
theorem x_zald (G : xG p s m args c cc nL own Ts NW D cl tys A) {a : Nat} (q0 t0 : Nat) {cA : ClassId} {n : Nat} {f : Nat → Int32} (ha : ws[q0]? = some (a, .inl (cA, n, .inl f))) (ht : tys[t0]? = some (cA, .boolean)) {i : Int32} (hin : vp_in i n) (d : decode cc pc = .ok (.baload, 1)) (k : xJ p l e R s m args below meth c cells slots Q D cl A nL (S) (ws) (vs) (pc + 1) (.int (f i.toNatClampNeg) :: st)) : xJ p l e R s m args below meth c cells slots Q D cl A nL (S) (ws) (vs) (pc) (.int i :: .ref a :: st) := fun H locs ls hP hD hS hl => va_zald G.1 G.2.1 G.2.2.2.2.2.1 hP q0 t0 ha ht hin d (k H locs ls hP hD hS hl)
theorem x_lald (G : xG p s m args c cc nL own Ts NW D cl tys A) {a : Nat} (q0 t0 : Nat) {cA : ClassId} {n : Nat} {f : Nat → Int64} (ha : ws[q0]? = some (a, .inl (cA, n, .inr (.inl f)))) (ht : tys[t0]? = some (cA, .long)) {i : Int32} (hin : vp_in i n) (d : decode cc pc = .ok (.laload, 1)) (k : xJ p l e R s m args below meth c cells slots Q D cl A nL (S) (ws) (vs) (pc + 1) (.long (f i.toNatClampNeg) :: st)) : xJ p l e R s m args below meth c cells slots Q D cl A nL (S) (ws) (vs) (pc) (.int i :: .ref a :: st) := fun H locs ls hP hD hS hl => va_lald G.1 G.2.1 G.2.2.2.2.2.1 hP q0 t0 ha ht hin d (k H locs ls hP hD hS hl)
theorem x_iast (G : xG p s m args c cc nL own Ts NW D cl tys A) {a : Nat} (q0 t0 : Nat) {cA : ClassId} {n : Nat} {f : Nat → Int32} {ws' : va_W} {i x : Int32} (ha : ws[q0]? = some (a, .inl (cA, n, .inl f))) (ht : tys[t0]? = some (cA, .int)) (hw : ws.set q0 (a, .inl (cA, n, .inl (upd f i.toNatClampNeg x))) = ws') (hin : vp_in i n) (d : decode cc pc = .ok (.iastore, 1)) (k : xJ p l e R s m args below meth c cells slots Q D cl A nL (va_S A s.heap) (ws') (vs) (pc + 1) (st)) : xJ p l e R s m args below meth c cells slots Q D cl A nL (va_S A s.heap) (ws) (vs) (pc) (.int x :: .int i :: .ref a :: st) := fun H locs ls hP hD hS hl => va_iast G.1 G.2.1 G.2.2.2.2.2.1 hP hD hS q0 t0 ha ht hin d (fun H1 locs1 hP hD hS => k H1 locs1 ls (hw ▸ hP) (hw ▸ hD) hS hl)
theorem x_zast (G : xG p s m args c cc nL own Ts NW D cl tys A) {a : Nat} (q0 t0 : Nat) {cA : ClassId} {n : Nat} {f : Nat → Int32} {ws' : va_W} {i x : Int32} (ha : ws[q0]? = some (a, .inl (cA, n, .inl f))) (ht : tys[t0]? = some (cA, .boolean)) (hx : vp_nar .boolean x = x) (hw : ws.set q0 (a, .inl (cA, n, .inl (upd f i.toNatClampNeg x))) = ws') (hin : vp_in i n) (d : decode cc pc = .ok (.bastore, 1)) (k : xJ p l e R s m args below meth c cells slots Q D cl A nL (va_S A s.heap) (ws') (vs) (pc + 1) (st)) : xJ p l e R s m args below meth c cells slots Q D cl A nL (va_S A s.heap) (ws) (vs) (pc) (.int x :: .int i :: .ref a :: st) := fun H locs ls hP hD hS hl => va_zast G.1 G.2.1 G.2.2.2.2.2.1 hP hD hS q0 t0 ha ht hin d (fun H1 locs1 hP hD hS => k H1 locs1 ls (hw ▸ (hx ▸ hP)) (hw ▸ (hx ▸ hD)) hS hl)
theorem x_last (G : xG p s m args c cc nL own Ts NW D cl tys A) {a : Nat} (q0 t0 : Nat) {cA : ClassId} {n : Nat} {f : Nat → Int64} {ws' : va_W} {i : Int32} {x : Int64} (ha : ws[q0]? = some (a, .inl (cA, n, .inr (.inl f)))) (ht : tys[t0]? = some (cA, .long)) (hw : ws.set q0 (a, .inl (cA, n, .inr (.inl (vp_updL f i.toNatClampNeg x)))) = ws') (hin : vp_in i n) (d : decode cc pc = .ok (.lastore, 1)) (k : xJ p l e R s m args below meth c cells slots Q D cl A nL (va_S A s.heap) (ws') (vs) (pc + 1) (st)) : xJ p l e R s m args below meth c cells slots Q D cl A nL (va_S A s.heap) (ws) (vs) (pc) (.long x :: .int i :: .ref a :: st) := fun H locs ls hP hD hS hl => va_last G.1 G.2.1 G.2.2.2.2.2.1 hP hD hS q0 t0 ha ht hin d (fun H1 locs1 hP hD hS => k H1 locs1 ls (hw ▸ hP) (hw ▸ hD) hS hl)
theorem x_alen (G : xG p s m args c cc nL own Ts NW D cl tys A) {a : Nat} (q0 t0 : Nat) {cA : ClassId} {x : vp_A} (ha : ws[q0]? = some (a, .inl (cA, x))) {ty : FieldType} (ht : tys[t0]? = some (cA, ty)) (v : Int32) (hv : Int32.ofNat x.1 = v) (d : decode cc pc = .ok (.arraylength, 1)) (k : xJ p l e R s m args below meth c cells slots Q D cl A nL (S) (ws) (vs) (pc + 1) (.int v :: st)) : xJ p l e R s m args below meth c cells slots Q D cl A nL (S) (ws) (vs) (pc) (.ref a :: st) := fun H locs ls hP hD hS hl => va_alen G.1 G.2.1 G.2.2.2.2.2.1 hP q0 t0 ha ht hv d (k H locs ls hP hD hS hl)
theorem x_mmax (G : xG p s m args c cc nL own Ts NW D cl tys A) {index : Nat} {x y : Int32} (hlink : Cond.methodLink own index Lib.Math.max.name ∈ Ts) (hstat : Cond.static Lib.Math.max.name ∈ Ts) (hini : Cond.initialized "java/lang/Math" ∈ Ts) (hcode : Cond.code Lib.Math.max.name Lib.Math.max.code 2 (some .int) ∈ Ts) (hR : 1 ≤ R.frames ∧ (st.map fun v => v.category).sum + 13 ≤ R.locals ∧ cells ≤ R.cells ∧ slots ≤ R.slots) (d : decode cc pc = .ok (.invokestatic index, 3)) (k : xJ p l e R s m args below meth c cells slots Q D cl A nL (S) (ws) (vs) (pc + 3) (.int (if x < y then y else x) :: st)) : xJ p l e R s m args below meth c cells slots Q D cl A nL (S) (ws) (vs) (pc) (.int y :: .int x :: st) := fun H locs ls hP hD hS hl => va_mmax G.1 G.2.1 (G.2.2.1.trans hl.1.symm) G.2.2.2.1 (G.2.2.2.2.1 _ hlink) (G.2.2.2.2.1 _ hstat) (G.2.2.2.2.1 _ hini) (G.2.2.2.2.1 _ hcode) hR.1 hR.2.1 hR.2.2.1 hR.2.2.2 d (k H locs ls hP hD hS hl)
theorem x_mmin (G : xG p s m args c cc nL own Ts NW D cl tys A) {index : Nat} {x y : Int32} (hlink : Cond.methodLink own index Lib.Math.min.name ∈ Ts) (hstat : Cond.static Lib.Math.min.name ∈ Ts) (hini : Cond.initialized "java/lang/Math" ∈ Ts) (hcode : Cond.code Lib.Math.min.name Lib.Math.min.code 2 (some .int) ∈ Ts) (hR : 1 ≤ R.frames ∧ (st.map fun v => v.category).sum + 13 ≤ R.locals ∧ cells ≤ R.cells ∧ slots ≤ R.slots) (d : decode cc pc = .ok (.invokestatic index, 3)) (k : xJ p l e R s m args below meth c cells slots Q D cl A nL (S) (ws) (vs) (pc + 3) (.int (if y < x then y else x) :: st)) : xJ p l e R s m args below meth c cells slots Q D cl A nL (S) (ws) (vs) (pc) (.int y :: .int x :: st) := fun H locs ls hP hD hS hl => va_mmin G.1 G.2.1 (G.2.2.1.trans hl.1.symm) G.2.2.2.1 (G.2.2.2.2.1 _ hlink) (G.2.2.2.2.1 _ hstat) (G.2.2.2.2.1 _ hini) (G.2.2.2.2.1 _ hcode) hR.1 hR.2.1 hR.2.2.1 hR.2.2.2 d (k H locs ls hP hD hS hl)
theorem x_name {x : Int32} (k : ∀ z : Int32, z = x → xJ p l e R s m args below meth c cells slots Q D cl A nL (S) (ws) (vs) (pc) (.int z :: st)) : xJ p l e R s m args below meth c cells slots Q D cl A nL (S) (ws) (vs) (pc) (.int x :: st) := k x rfl
theorem x_top {x z : Int32} (h : x = z) (k : xJ p l e R s m args below meth c cells slots Q D cl A nL (S) (ws) (vs) (pc) (.int z :: st)) : xJ p l e R s m args below meth c cells slots Q D cl A nL (S) (ws) (vs) (pc) (.int x :: st) := h ▸ k
theorem x_topl {x z : Int64} (h : x = z) (k : xJ p l e R s m args below meth c cells slots Q D cl A nL (S) (ws) (vs) (pc) (.long z :: st)) : xJ p l e R s m args below meth c cells slots Q D cl A nL (S) (ws) (vs) (pc) (.long x :: st) := h ▸ k
theorem x_eq {ws2 : va_W} {vs2 : List Value} {pc2 : Nat} {st2 : List Value} (hw : ws = ws2) (hv : vs = vs2) (hp : pc = pc2) (ht : st = st2) (k : xJ p l e R s m args below meth c cells slots Q D cl A nL (S) (ws2) (vs2) (pc2) (st2)) : xJ p l e R s m args below meth c cells slots Q D cl A nL (S) (ws) (vs) (pc) (st) := by subst hw; subst hv; subst hp; subst ht; exact k
def xCi (l : Launch) (D : va_G) (cl : List vw_C) (tys : List (ClassId × FieldType)) (NW : List Cond) (wf : xSg → va_W) (y : MethodName) (Ts : List Cond) (d : Nat) (as : List Value) (σ : xSg) (post : Int32 → xSg → Prop) : Prop := ∀ sz : Nat, Met l y Ts { frames := d, cells := 0, slots := 0, locals := 40 * d } (va_Pc as (fun U => U.heap.size = sz ∧ va_P D cl (wf σ) U.heap ∧ va_K D cl tys U ∧ (∀ c ∈ NW, isNest c = true ∧ va_Nw c U) ∧ va_D (fun _ => True) (wf σ))) (va_Qi post (fun u t => va_P D cl (wf u) t.heap ∧ va_D (va_A (wf σ) sz) (wf u)) (va_A (wf σ) sz)) 0 0 (va_A (wf σ) sz)
theorem x_reti (G : xG p s m args c cc nL own Ts NW D cl tys A) {wf : xSg → va_W} {σ : xSg} {post : Int32 → xSg → Prop} {v : Int32} {rt : FieldType} (hr : meth.sig.returnType = some rt) (hlk : meth.locks = false) (hn : narrow rt (.int v) = .int v) (d : decode cc pc = .ok (.ireturn, 1)) (hp : post v σ) : xJ p l e R s m args below meth c 0 0 (MQ below (va_Qi post (fun u t => va_P D cl (wf u) t.heap ∧ va_D A (wf u)) A) args s 0 0 A) D cl A nL (va_S A s.heap) (wf σ) vs pc [.int v] := fun H locs ls hP hD hS hl => W.zret G.1 G.2.1 hr hn (fun t ht hW => ⟨⟨v, σ, rfl, hp, by rw [ht]; exact hP, hD⟩, hS.F ht⟩) hS.2.2 d hlk
theorem xCi.of {wf : xSg → va_W} {y : MethodName} {d : Nat} {as : List Value} {σ : xSg} {post : Int32 → xSg → Prop} {ret : Option FieldType} {Ts' : List Cond} (hT : Ts = Cond.code y cc nL ret :: Ts') (hy : plainName y.cls = true) (vs : List Value) (hvs : asL vs = lv_args 0 as) (hlen : (lg_sl as).length ≤ nL)
    (body : ∀ (p : Program) (e : Env) (s : State) (m : MethodId) (args : Array Value) (below : List Frame) (meth : Method) (c : Code) (A : Nat → Prop), xG p s m args c cc nL y.cls Ts NW D cl tys A → meth.sig.returnType = ret → meth.locks = false → xJ p l e { frames := d, cells := 0, slots := 0, locals := 40 * d } s m args below meth c 0 0 (MQ below (va_Qi post (fun u t => va_P D cl (wf u) t.heap ∧ va_D A (wf u)) A) args s 0 0 A) D cl A nL (va_S A s.heap) (wf σ) vs 0 []) : xCi l D cl tys NW wf y Ts d as σ post := by
  intro sz
  refine Met.ofW (cc := cc) (maxL := nL) (ret := ret) hy hT ?_
  intro p e s m args below meth c s₁ B hml hv
  obtain ⟨rfl, hsz, hP, hK, hN, hD0⟩ := hv
  subst hsz
  have hD := hD0.self (sz := s.heap.size)
  have hl := lv_entry as (n := nL) hlen
  rw [lg_entry_eq]
  generalize (lg_sl as ++ List.replicate (nL - (lg_sl as).length) Slot.unset).toArray = ls at hl ⊢
  rw [← hvs] at hl
  exact body p e s m _ below meth c (va_A (wf σ) s.heap.size) ⟨B.exec, B.bytes, hml, findClass_of_methodNamed B.named, atoms_spec (ws := Ts) B.pre, hK, hN, fun q h => Or.inr h⟩ B.returns B.notSynchronized s.heap [] ls hP hD va_S.rf (xLV.of hl)
def xCl (l : Launch) (D : va_G) (cl : List vw_C) (tys : List (ClassId × FieldType)) (NW : List Cond) (wf : xSg → va_W) (y : MethodName) (Ts : List Cond) (d : Nat) (as : List Value) (σ : xSg) (post : Int64 → xSg → Prop) : Prop := ∀ sz : Nat, Met l y Ts { frames := d, cells := 0, slots := 0, locals := 40 * d } (va_Pc as (fun U => U.heap.size = sz ∧ va_P D cl (wf σ) U.heap ∧ va_K D cl tys U ∧ (∀ c ∈ NW, isNest c = true ∧ va_Nw c U) ∧ va_D (fun _ => True) (wf σ))) (va_Ql post (fun u t => va_P D cl (wf u) t.heap ∧ va_D (va_A (wf σ) sz) (wf u)) (va_A (wf σ) sz)) 0 0 (va_A (wf σ) sz)
theorem x_retl (G : xG p s m args c cc nL own Ts NW D cl tys A) {wf : xSg → va_W} {σ : xSg} {post : Int64 → xSg → Prop} {v : Int64} (hr : meth.sig.returnType = some .long) (hlk : meth.locks = false) (d : decode cc pc = .ok (.lreturn, 1)) (hp : post v σ) : xJ p l e R s m args below meth c 0 0 (MQ below (va_Ql post (fun u t => va_P D cl (wf u) t.heap ∧ va_D A (wf u)) A) args s 0 0 A) D cl A nL (va_S A s.heap) (wf σ) vs pc [.long v] := fun H locs ls hP hD hS hl => W.lret G.1 G.2.1 hr (fun t ht hW => ⟨⟨v, σ, rfl, hp, by rw [ht]; exact hP, hD⟩, hS.F ht⟩) hS.2.2 d hlk
theorem xCl.of {wf : xSg → va_W} {y : MethodName} {d : Nat} {as : List Value} {σ : xSg} {post : Int64 → xSg → Prop} {ret : Option FieldType} {Ts' : List Cond} (hT : Ts = Cond.code y cc nL ret :: Ts') (hy : plainName y.cls = true) (vs : List Value) (hvs : asL vs = lv_args 0 as) (hlen : (lg_sl as).length ≤ nL)
    (body : ∀ (p : Program) (e : Env) (s : State) (m : MethodId) (args : Array Value) (below : List Frame) (meth : Method) (c : Code) (A : Nat → Prop), xG p s m args c cc nL y.cls Ts NW D cl tys A → meth.sig.returnType = ret → meth.locks = false → xJ p l e { frames := d, cells := 0, slots := 0, locals := 40 * d } s m args below meth c 0 0 (MQ below (va_Ql post (fun u t => va_P D cl (wf u) t.heap ∧ va_D A (wf u)) A) args s 0 0 A) D cl A nL (va_S A s.heap) (wf σ) vs 0 []) : xCl l D cl tys NW wf y Ts d as σ post := by
  intro sz
  refine Met.ofW (cc := cc) (maxL := nL) (ret := ret) hy hT ?_
  intro p e s m args below meth c s₁ B hml hv
  obtain ⟨rfl, hsz, hP, hK, hN, hD0⟩ := hv
  subst hsz
  have hD := hD0.self (sz := s.heap.size)
  have hl := lv_entry as (n := nL) hlen
  rw [lg_entry_eq]
  generalize (lg_sl as ++ List.replicate (nL - (lg_sl as).length) Slot.unset).toArray = ls at hl ⊢
  rw [← hvs] at hl
  exact body p e s m _ below meth c (va_A (wf σ) s.heap.size) ⟨B.exec, B.bytes, hml, findClass_of_methodNamed B.named, atoms_spec (ws := Ts) B.pre, hK, hN, fun q h => Or.inr h⟩ B.returns B.notSynchronized s.heap [] ls hP hD va_S.rf (xLV.of hl)
def xCv (l : Launch) (D : va_G) (cl : List vw_C) (tys : List (ClassId × FieldType)) (NW : List Cond) (wf : xSg → va_W) (y : MethodName) (Ts : List Cond) (d : Nat) (as : List Value) (σ : xSg) (post : xSg → Prop) : Prop := ∀ sz : Nat, Met l y Ts { frames := d, cells := 0, slots := 0, locals := 40 * d } (va_Pc as (fun U => U.heap.size = sz ∧ va_P D cl (wf σ) U.heap ∧ va_K D cl tys U ∧ (∀ c ∈ NW, isNest c = true ∧ va_Nw c U) ∧ va_D (fun _ => True) (wf σ))) (va_Qv post (fun u t => va_P D cl (wf u) t.heap ∧ va_D (va_A (wf σ) sz) (wf u)) (va_A (wf σ) sz)) 0 0 (va_A (wf σ) sz)
theorem x_retv (G : xG p s m args c cc nL own Ts NW D cl tys A) {wf : xSg → va_W} {σ : xSg} {post : xSg → Prop} (hr : meth.sig.returnType = none) (hlk : meth.locks = false) (d : decode cc pc = .ok (.return_, 1)) (hp : post σ) : xJ p l e R s m args below meth c 0 0 (MQ below (va_Qv post (fun u t => va_P D cl (wf u) t.heap ∧ va_D A (wf u)) A) args s 0 0 A) D cl A nL (va_S A s.heap) (wf σ) vs pc [] := fun H locs ls hP hD hS hl => W.vret G.1 G.2.1 hr (fun t ht hW => ⟨⟨σ, rfl, hp, by rw [ht]; exact hP, hD⟩, hS.F ht⟩) hS.2.2 d hlk
theorem xCv.of {wf : xSg → va_W} {y : MethodName} {d : Nat} {as : List Value} {σ : xSg} {post : xSg → Prop} {ret : Option FieldType} {Ts' : List Cond} (hT : Ts = Cond.code y cc nL ret :: Ts') (hy : plainName y.cls = true) (vs : List Value) (hvs : asL vs = lv_args 0 as) (hlen : (lg_sl as).length ≤ nL)
    (body : ∀ (p : Program) (e : Env) (s : State) (m : MethodId) (args : Array Value) (below : List Frame) (meth : Method) (c : Code) (A : Nat → Prop), xG p s m args c cc nL y.cls Ts NW D cl tys A → meth.sig.returnType = ret → meth.locks = false → xJ p l e { frames := d, cells := 0, slots := 0, locals := 40 * d } s m args below meth c 0 0 (MQ below (va_Qv post (fun u t => va_P D cl (wf u) t.heap ∧ va_D A (wf u)) A) args s 0 0 A) D cl A nL (va_S A s.heap) (wf σ) vs 0 []) : xCv l D cl tys NW wf y Ts d as σ post := by
  intro sz
  refine Met.ofW (cc := cc) (maxL := nL) (ret := ret) hy hT ?_
  intro p e s m args below meth c s₁ B hml hv
  obtain ⟨rfl, hsz, hP, hK, hN, hD0⟩ := hv
  subst hsz
  have hD := hD0.self (sz := s.heap.size)
  have hl := lv_entry as (n := nL) hlen
  rw [lg_entry_eq]
  generalize (lg_sl as ++ List.replicate (nL - (lg_sl as).length) Slot.unset).toArray = ls at hl ⊢
  rw [← hvs] at hl
  exact body p e s m _ below meth c (va_A (wf σ) s.heap.size) ⟨B.exec, B.bytes, hml, findClass_of_methodNamed B.named, atoms_spec (ws := Ts) B.pre, hK, hN, fun q h => Or.inr h⟩ B.returns B.notSynchronized s.heap [] ls hP hD va_S.rf (xLV.of hl)
theorem x_free {ws : va_W} {H0 H : Heap} {locs : List Loc} {A : Nat → Prop} (hD : va_D A ws) (hS : va_S A H0 H locs) (hA : ∀ q : Nat, H0.size ≤ q → A q) : ∀ q, va_A ws H.size q → A q := fun q h => by
  rcases h with ⟨k, e, hk⟩ | h
  · exact hD.2 k _ hk
  · exact hA q (Nat.le_trans hS.1 h)
theorem x_callV0i (G : xG p s m args c cc nL own Ts NW D cl tys A) {wf : xSg → va_W} {σ : xSg} {b : Nat} {C : String} {y : MethodName} {bytes : ByteArray} {maxL index d : Nat} {ret : Option FieldType} {Tc : List Cond} {post : Int32 → xSg → Prop} (hM : xCi l D cl tys NW wf y Tc d [.ref b] σ post) (q0 : Nat) {fs : List Value} {ci : Nat} {T : u_T} {N : Nat} (he : (wf σ)[q0]? = some (b, .inr (ci, fs))) (hc : cl[ci]? = some (C, T, N)) (cw : CallW R s args own C index y bytes maxL ret Tc { frames := d, cells := 0, slots := 0, locals := 40 * d } 0 0 0) (dd : decode cc pc = .ok (.invokevirtual index, 3)) (hroom : (st.map fun v => v.category).sum ≤ 8) (hcs : cells ≤ R.cells ∧ slots ≤ R.slots) (k : ∀ (r : Int32) (u : xSg), post r u → xJ p l e R s m args below meth c cells slots Q D cl A nL (va_S A s.heap) (wf u) (vs) (pc + 3) (.int r :: st)) : xJ p l e R s m args below meth c cells slots Q D cl A nL (va_S A s.heap) (wf σ) (vs) (pc) (.ref b :: st) := fun H locs ls hP hD hS hl => by
  have hFc := x_free hD hS G.2.2.2.2.2.2.2
  refine va_calli (va_runV (As := []) (rest := st) ⟨G.1, G.2.1, G.2.2.1, G.2.2.2.1, G.2.2.2.2.1⟩ (hM H.size) cw ⟨fun a U g mk q => by obtain ⟨q0, q1, qP, qK, qN, qD⟩ := q; exact ⟨q0, q1, qP, va_K.moved (u := U) (U := U.calling g mk a) (Vm.Alike.refl U.vm) qK, fun c hc => ⟨(qN c hc).1, nest_same (s := U) (U := U.calling g mk a) (qN c hc).1 rfl (qN c hc).2⟩, qD⟩, va_recv G.2.2.2.2.2.1 hP hc he, fun U hU hW => ⟨rfl, by rw [hU], by rw [hU]; exact hP, va_K.moved hW.alike G.2.2.2.2.2.1, fun c hc => ⟨(G.2.2.2.2.2.2.1 c hc).1, nest_warm (G.2.2.2.2.2.2.1 c hc).1 hW (G.2.2.2.2.2.2.1 c hc).2⟩, hD.weaken (fun _ _ _ _ => trivial)⟩⟩ rfl rfl hl.1 rfl (lv_room hroom) dd ⟨hcs.1, hcs.2⟩) hS (fun q _ h => hFc q h) hFc (fun r u t H1 locs1 ht hvm hw hB hz1 hk1 hS1 => ?_)
  obtain ⟨hP1, hD1⟩ := hB
  rw [ht] at hP1
  exact k r u hw H1 locs1 ls hP1 (hD1.weaken (fun _ q _ h => hFc q.1 h)) hS1 hl
theorem x_callV0l (G : xG p s m args c cc nL own Ts NW D cl tys A) {wf : xSg → va_W} {σ : xSg} {b : Nat} {C : String} {y : MethodName} {bytes : ByteArray} {maxL index d : Nat} {ret : Option FieldType} {Tc : List Cond} {post : Int64 → xSg → Prop} (hM : xCl l D cl tys NW wf y Tc d [.ref b] σ post) (q0 : Nat) {fs : List Value} {ci : Nat} {T : u_T} {N : Nat} (he : (wf σ)[q0]? = some (b, .inr (ci, fs))) (hc : cl[ci]? = some (C, T, N)) (cw : CallW R s args own C index y bytes maxL ret Tc { frames := d, cells := 0, slots := 0, locals := 40 * d } 0 0 0) (dd : decode cc pc = .ok (.invokevirtual index, 3)) (hroom : (st.map fun v => v.category).sum ≤ 8) (hcs : cells ≤ R.cells ∧ slots ≤ R.slots) (k : ∀ (r : Int64) (u : xSg), post r u → xJ p l e R s m args below meth c cells slots Q D cl A nL (va_S A s.heap) (wf u) (vs) (pc + 3) (.long r :: st)) : xJ p l e R s m args below meth c cells slots Q D cl A nL (va_S A s.heap) (wf σ) (vs) (pc) (.ref b :: st) := fun H locs ls hP hD hS hl => by
  have hFc := x_free hD hS G.2.2.2.2.2.2.2
  refine va_calll (va_runV (As := []) (rest := st) ⟨G.1, G.2.1, G.2.2.1, G.2.2.2.1, G.2.2.2.2.1⟩ (hM H.size) cw ⟨fun a U g mk q => by obtain ⟨q0, q1, qP, qK, qN, qD⟩ := q; exact ⟨q0, q1, qP, va_K.moved (u := U) (U := U.calling g mk a) (Vm.Alike.refl U.vm) qK, fun c hc => ⟨(qN c hc).1, nest_same (s := U) (U := U.calling g mk a) (qN c hc).1 rfl (qN c hc).2⟩, qD⟩, va_recv G.2.2.2.2.2.1 hP hc he, fun U hU hW => ⟨rfl, by rw [hU], by rw [hU]; exact hP, va_K.moved hW.alike G.2.2.2.2.2.1, fun c hc => ⟨(G.2.2.2.2.2.2.1 c hc).1, nest_warm (G.2.2.2.2.2.2.1 c hc).1 hW (G.2.2.2.2.2.2.1 c hc).2⟩, hD.weaken (fun _ _ _ _ => trivial)⟩⟩ rfl rfl hl.1 rfl (lv_room hroom) dd ⟨hcs.1, hcs.2⟩) hS (fun q _ h => hFc q h) hFc (fun r u t H1 locs1 ht hvm hw hB hz1 hk1 hS1 => ?_)
  obtain ⟨hP1, hD1⟩ := hB
  rw [ht] at hP1
  exact k r u hw H1 locs1 ls hP1 (hD1.weaken (fun _ q _ h => hFc q.1 h)) hS1 hl
theorem x_callV0v (G : xG p s m args c cc nL own Ts NW D cl tys A) {wf : xSg → va_W} {σ : xSg} {b : Nat} {C : String} {y : MethodName} {bytes : ByteArray} {maxL index d : Nat} {ret : Option FieldType} {Tc : List Cond} {post : xSg → Prop} (hM : xCv l D cl tys NW wf y Tc d [.ref b] σ post) (q0 : Nat) {fs : List Value} {ci : Nat} {T : u_T} {N : Nat} (he : (wf σ)[q0]? = some (b, .inr (ci, fs))) (hc : cl[ci]? = some (C, T, N)) (cw : CallW R s args own C index y bytes maxL ret Tc { frames := d, cells := 0, slots := 0, locals := 40 * d } 0 0 0) (dd : decode cc pc = .ok (.invokevirtual index, 3)) (hroom : (st.map fun v => v.category).sum ≤ 8) (hcs : cells ≤ R.cells ∧ slots ≤ R.slots) (k : ∀ (u : xSg), post u → xJ p l e R s m args below meth c cells slots Q D cl A nL (va_S A s.heap) (wf u) (vs) (pc + 3) (st)) : xJ p l e R s m args below meth c cells slots Q D cl A nL (va_S A s.heap) (wf σ) (vs) (pc) (.ref b :: st) := fun H locs ls hP hD hS hl => by
  have hFc := x_free hD hS G.2.2.2.2.2.2.2
  refine va_callv (va_runV (As := []) (rest := st) ⟨G.1, G.2.1, G.2.2.1, G.2.2.2.1, G.2.2.2.2.1⟩ (hM H.size) cw ⟨fun a U g mk q => by obtain ⟨q0, q1, qP, qK, qN, qD⟩ := q; exact ⟨q0, q1, qP, va_K.moved (u := U) (U := U.calling g mk a) (Vm.Alike.refl U.vm) qK, fun c hc => ⟨(qN c hc).1, nest_same (s := U) (U := U.calling g mk a) (qN c hc).1 rfl (qN c hc).2⟩, qD⟩, va_recv G.2.2.2.2.2.1 hP hc he, fun U hU hW => ⟨rfl, by rw [hU], by rw [hU]; exact hP, va_K.moved hW.alike G.2.2.2.2.2.1, fun c hc => ⟨(G.2.2.2.2.2.2.1 c hc).1, nest_warm (G.2.2.2.2.2.2.1 c hc).1 hW (G.2.2.2.2.2.2.1 c hc).2⟩, hD.weaken (fun _ _ _ _ => trivial)⟩⟩ rfl rfl hl.1 rfl (lv_room hroom) dd ⟨hcs.1, hcs.2⟩) hS (fun q _ h => hFc q h) hFc (fun u t H1 locs1 ht hvm hw hB hz1 hk1 hS1 => ?_)
  obtain ⟨hP1, hD1⟩ := hB
  rw [ht] at hP1
  exact k u hw H1 locs1 ls hP1 (hD1.weaken (fun _ q _ h => hFc q.1 h)) hS1 hl
theorem x_callVN0i (G : xG p s m args c cc nL own Ts NW D cl tys A) {wf : xSg → va_W} {σ : xSg} {b : Nat} {C : String} {host : String} {y : MethodName} {bytes : ByteArray} {maxL index d : Nat} {ret : Option FieldType} {Tc : List Cond} {post : Int32 → xSg → Prop} (hM : xCi l D cl tys NW wf y Tc d [.ref b] σ post) (q0 : Nat) {fs : List Value} {ci : Nat} {T : u_T} {N : Nat} (he : (wf σ)[q0]? = some (b, .inr (ci, fs))) (hc : cl[ci]? = some (C, T, N)) (cw : (va_CN R s args own index y host bytes maxL ret Tc { frames := d, cells := 0, slots := 0, locals := 40 * d } 0 0 0 ∧ (Cond.instanceMethod y).before args s = true ∧ (Cond.selects C y y).before args s = true)) (dd : decode cc pc = .ok (.invokevirtual index, 3)) (hroom : (st.map fun v => v.category).sum ≤ 8) (hcs : cells ≤ R.cells ∧ slots ≤ R.slots) (k : ∀ (r : Int32) (u : xSg), post r u → xJ p l e R s m args below meth c cells slots Q D cl A nL (va_S A s.heap) (wf u) (vs) (pc + 3) (.int r :: st)) : xJ p l e R s m args below meth c cells slots Q D cl A nL (va_S A s.heap) (wf σ) (vs) (pc) (.ref b :: st) := fun H locs ls hP hD hS hl => by
  have hFc := x_free hD hS G.2.2.2.2.2.2.2
  refine va_calli (va_runVN (As := []) (rest := st) ⟨G.1, G.2.1, G.2.2.1, G.2.2.2.1, G.2.2.2.2.1⟩ (hM H.size) cw ⟨fun a U g mk q => by obtain ⟨q0, q1, qP, qK, qN, qD⟩ := q; exact ⟨q0, q1, qP, va_K.moved (u := U) (U := U.calling g mk a) (Vm.Alike.refl U.vm) qK, fun c hc => ⟨(qN c hc).1, nest_same (s := U) (U := U.calling g mk a) (qN c hc).1 rfl (qN c hc).2⟩, qD⟩, va_recv G.2.2.2.2.2.1 hP hc he, fun U hU hW => ⟨rfl, by rw [hU], by rw [hU]; exact hP, va_K.moved hW.alike G.2.2.2.2.2.1, fun c hc => ⟨(G.2.2.2.2.2.2.1 c hc).1, nest_warm (G.2.2.2.2.2.2.1 c hc).1 hW (G.2.2.2.2.2.2.1 c hc).2⟩, hD.weaken (fun _ _ _ _ => trivial)⟩⟩ rfl rfl hl.1 rfl (lv_room hroom) dd ⟨hcs.1, hcs.2⟩) hS (fun q _ h => hFc q h) hFc (fun r u t H1 locs1 ht hvm hw hB hz1 hk1 hS1 => ?_)
  obtain ⟨hP1, hD1⟩ := hB
  rw [ht] at hP1
  exact k r u hw H1 locs1 ls hP1 (hD1.weaken (fun _ q _ h => hFc q.1 h)) hS1 hl
theorem x_callVN0l (G : xG p s m args c cc nL own Ts NW D cl tys A) {wf : xSg → va_W} {σ : xSg} {b : Nat} {C : String} {host : String} {y : MethodName} {bytes : ByteArray} {maxL index d : Nat} {ret : Option FieldType} {Tc : List Cond} {post : Int64 → xSg → Prop} (hM : xCl l D cl tys NW wf y Tc d [.ref b] σ post) (q0 : Nat) {fs : List Value} {ci : Nat} {T : u_T} {N : Nat} (he : (wf σ)[q0]? = some (b, .inr (ci, fs))) (hc : cl[ci]? = some (C, T, N)) (cw : (va_CN R s args own index y host bytes maxL ret Tc { frames := d, cells := 0, slots := 0, locals := 40 * d } 0 0 0 ∧ (Cond.instanceMethod y).before args s = true ∧ (Cond.selects C y y).before args s = true)) (dd : decode cc pc = .ok (.invokevirtual index, 3)) (hroom : (st.map fun v => v.category).sum ≤ 8) (hcs : cells ≤ R.cells ∧ slots ≤ R.slots) (k : ∀ (r : Int64) (u : xSg), post r u → xJ p l e R s m args below meth c cells slots Q D cl A nL (va_S A s.heap) (wf u) (vs) (pc + 3) (.long r :: st)) : xJ p l e R s m args below meth c cells slots Q D cl A nL (va_S A s.heap) (wf σ) (vs) (pc) (.ref b :: st) := fun H locs ls hP hD hS hl => by
  have hFc := x_free hD hS G.2.2.2.2.2.2.2
  refine va_calll (va_runVN (As := []) (rest := st) ⟨G.1, G.2.1, G.2.2.1, G.2.2.2.1, G.2.2.2.2.1⟩ (hM H.size) cw ⟨fun a U g mk q => by obtain ⟨q0, q1, qP, qK, qN, qD⟩ := q; exact ⟨q0, q1, qP, va_K.moved (u := U) (U := U.calling g mk a) (Vm.Alike.refl U.vm) qK, fun c hc => ⟨(qN c hc).1, nest_same (s := U) (U := U.calling g mk a) (qN c hc).1 rfl (qN c hc).2⟩, qD⟩, va_recv G.2.2.2.2.2.1 hP hc he, fun U hU hW => ⟨rfl, by rw [hU], by rw [hU]; exact hP, va_K.moved hW.alike G.2.2.2.2.2.1, fun c hc => ⟨(G.2.2.2.2.2.2.1 c hc).1, nest_warm (G.2.2.2.2.2.2.1 c hc).1 hW (G.2.2.2.2.2.2.1 c hc).2⟩, hD.weaken (fun _ _ _ _ => trivial)⟩⟩ rfl rfl hl.1 rfl (lv_room hroom) dd ⟨hcs.1, hcs.2⟩) hS (fun q _ h => hFc q h) hFc (fun r u t H1 locs1 ht hvm hw hB hz1 hk1 hS1 => ?_)
  obtain ⟨hP1, hD1⟩ := hB
  rw [ht] at hP1
  exact k r u hw H1 locs1 ls hP1 (hD1.weaken (fun _ q _ h => hFc q.1 h)) hS1 hl
theorem x_callVN0v (G : xG p s m args c cc nL own Ts NW D cl tys A) {wf : xSg → va_W} {σ : xSg} {b : Nat} {C : String} {host : String} {y : MethodName} {bytes : ByteArray} {maxL index d : Nat} {ret : Option FieldType} {Tc : List Cond} {post : xSg → Prop} (hM : xCv l D cl tys NW wf y Tc d [.ref b] σ post) (q0 : Nat) {fs : List Value} {ci : Nat} {T : u_T} {N : Nat} (he : (wf σ)[q0]? = some (b, .inr (ci, fs))) (hc : cl[ci]? = some (C, T, N)) (cw : (va_CN R s args own index y host bytes maxL ret Tc { frames := d, cells := 0, slots := 0, locals := 40 * d } 0 0 0 ∧ (Cond.instanceMethod y).before args s = true ∧ (Cond.selects C y y).before args s = true)) (dd : decode cc pc = .ok (.invokevirtual index, 3)) (hroom : (st.map fun v => v.category).sum ≤ 8) (hcs : cells ≤ R.cells ∧ slots ≤ R.slots) (k : ∀ (u : xSg), post u → xJ p l e R s m args below meth c cells slots Q D cl A nL (va_S A s.heap) (wf u) (vs) (pc + 3) (st)) : xJ p l e R s m args below meth c cells slots Q D cl A nL (va_S A s.heap) (wf σ) (vs) (pc) (.ref b :: st) := fun H locs ls hP hD hS hl => by
  have hFc := x_free hD hS G.2.2.2.2.2.2.2
  refine va_callv (va_runVN (As := []) (rest := st) ⟨G.1, G.2.1, G.2.2.1, G.2.2.2.1, G.2.2.2.2.1⟩ (hM H.size) cw ⟨fun a U g mk q => by obtain ⟨q0, q1, qP, qK, qN, qD⟩ := q; exact ⟨q0, q1, qP, va_K.moved (u := U) (U := U.calling g mk a) (Vm.Alike.refl U.vm) qK, fun c hc => ⟨(qN c hc).1, nest_same (s := U) (U := U.calling g mk a) (qN c hc).1 rfl (qN c hc).2⟩, qD⟩, va_recv G.2.2.2.2.2.1 hP hc he, fun U hU hW => ⟨rfl, by rw [hU], by rw [hU]; exact hP, va_K.moved hW.alike G.2.2.2.2.2.1, fun c hc => ⟨(G.2.2.2.2.2.2.1 c hc).1, nest_warm (G.2.2.2.2.2.2.1 c hc).1 hW (G.2.2.2.2.2.2.1 c hc).2⟩, hD.weaken (fun _ _ _ _ => trivial)⟩⟩ rfl rfl hl.1 rfl (lv_room hroom) dd ⟨hcs.1, hcs.2⟩) hS (fun q _ h => hFc q h) hFc (fun u t H1 locs1 ht hvm hw hB hz1 hk1 hS1 => ?_)
  obtain ⟨hP1, hD1⟩ := hB
  rw [ht] at hP1
  exact k u hw H1 locs1 ls hP1 (hD1.weaken (fun _ q _ h => hFc q.1 h)) hS1 hl
theorem x_callS0i (G : xG p s m args c cc nL own Ts NW D cl tys A) {wf : xSg → va_W} {σ : xSg} {y : MethodName} {bytes : ByteArray} {maxL index d : Nat} {ret : Option FieldType} {Tc : List Cond} {post : Int32 → xSg → Prop} (hM : xCi l D cl tys NW wf y Tc d [] σ post) (cw : (CallB R s args own index y bytes maxL ret Tc { frames := d, cells := 0, slots := 0, locals := 40 * d } 0 0 0 ∧ (Cond.static y).before args s = true)) (dd : decode cc pc = .ok (.invokestatic index, 3)) (hroom : (st.map fun v => v.category).sum ≤ 8) (hcs : cells ≤ R.cells ∧ slots ≤ R.slots) (k : ∀ (r : Int32) (u : xSg), post r u → xJ p l e R s m args below meth c cells slots Q D cl A nL (va_S A s.heap) (wf u) (vs) (pc + 3) (.int r :: st)) : xJ p l e R s m args below meth c cells slots Q D cl A nL (va_S A s.heap) (wf σ) (vs) (pc) (st) := fun H locs ls hP hD hS hl => by
  have hFc := x_free hD hS G.2.2.2.2.2.2.2
  refine va_calli (va_runS (As := []) (rest := st) ⟨G.1, G.2.1, G.2.2.1, G.2.2.2.1, G.2.2.2.2.1⟩ (hM H.size) cw ⟨fun a U g mk q => by obtain ⟨q0, q1, qP, qK, qN, qD⟩ := q; exact ⟨q0, q1, qP, va_K.moved (u := U) (U := U.calling g mk a) (Vm.Alike.refl U.vm) qK, fun c hc => ⟨(qN c hc).1, nest_same (s := U) (U := U.calling g mk a) (qN c hc).1 rfl (qN c hc).2⟩, qD⟩, fun U hU hW => ⟨rfl, by rw [hU], by rw [hU]; exact hP, va_K.moved hW.alike G.2.2.2.2.2.1, fun c hc => ⟨(G.2.2.2.2.2.2.1 c hc).1, nest_warm (G.2.2.2.2.2.2.1 c hc).1 hW (G.2.2.2.2.2.2.1 c hc).2⟩, hD.weaken (fun _ _ _ _ => trivial)⟩⟩ rfl rfl hl.1 rfl (lv_room hroom) dd ⟨hcs.1, hcs.2⟩) hS (fun q _ h => hFc q h) hFc (fun r u t H1 locs1 ht hvm hw hB hz1 hk1 hS1 => ?_)
  obtain ⟨hP1, hD1⟩ := hB
  rw [ht] at hP1
  exact k r u hw H1 locs1 ls hP1 (hD1.weaken (fun _ q _ h => hFc q.1 h)) hS1 hl
theorem x_callS0l (G : xG p s m args c cc nL own Ts NW D cl tys A) {wf : xSg → va_W} {σ : xSg} {y : MethodName} {bytes : ByteArray} {maxL index d : Nat} {ret : Option FieldType} {Tc : List Cond} {post : Int64 → xSg → Prop} (hM : xCl l D cl tys NW wf y Tc d [] σ post) (cw : (CallB R s args own index y bytes maxL ret Tc { frames := d, cells := 0, slots := 0, locals := 40 * d } 0 0 0 ∧ (Cond.static y).before args s = true)) (dd : decode cc pc = .ok (.invokestatic index, 3)) (hroom : (st.map fun v => v.category).sum ≤ 8) (hcs : cells ≤ R.cells ∧ slots ≤ R.slots) (k : ∀ (r : Int64) (u : xSg), post r u → xJ p l e R s m args below meth c cells slots Q D cl A nL (va_S A s.heap) (wf u) (vs) (pc + 3) (.long r :: st)) : xJ p l e R s m args below meth c cells slots Q D cl A nL (va_S A s.heap) (wf σ) (vs) (pc) (st) := fun H locs ls hP hD hS hl => by
  have hFc := x_free hD hS G.2.2.2.2.2.2.2
  refine va_calll (va_runS (As := []) (rest := st) ⟨G.1, G.2.1, G.2.2.1, G.2.2.2.1, G.2.2.2.2.1⟩ (hM H.size) cw ⟨fun a U g mk q => by obtain ⟨q0, q1, qP, qK, qN, qD⟩ := q; exact ⟨q0, q1, qP, va_K.moved (u := U) (U := U.calling g mk a) (Vm.Alike.refl U.vm) qK, fun c hc => ⟨(qN c hc).1, nest_same (s := U) (U := U.calling g mk a) (qN c hc).1 rfl (qN c hc).2⟩, qD⟩, fun U hU hW => ⟨rfl, by rw [hU], by rw [hU]; exact hP, va_K.moved hW.alike G.2.2.2.2.2.1, fun c hc => ⟨(G.2.2.2.2.2.2.1 c hc).1, nest_warm (G.2.2.2.2.2.2.1 c hc).1 hW (G.2.2.2.2.2.2.1 c hc).2⟩, hD.weaken (fun _ _ _ _ => trivial)⟩⟩ rfl rfl hl.1 rfl (lv_room hroom) dd ⟨hcs.1, hcs.2⟩) hS (fun q _ h => hFc q h) hFc (fun r u t H1 locs1 ht hvm hw hB hz1 hk1 hS1 => ?_)
  obtain ⟨hP1, hD1⟩ := hB
  rw [ht] at hP1
  exact k r u hw H1 locs1 ls hP1 (hD1.weaken (fun _ q _ h => hFc q.1 h)) hS1 hl
theorem x_callS0v (G : xG p s m args c cc nL own Ts NW D cl tys A) {wf : xSg → va_W} {σ : xSg} {y : MethodName} {bytes : ByteArray} {maxL index d : Nat} {ret : Option FieldType} {Tc : List Cond} {post : xSg → Prop} (hM : xCv l D cl tys NW wf y Tc d [] σ post) (cw : (CallB R s args own index y bytes maxL ret Tc { frames := d, cells := 0, slots := 0, locals := 40 * d } 0 0 0 ∧ (Cond.static y).before args s = true)) (dd : decode cc pc = .ok (.invokestatic index, 3)) (hroom : (st.map fun v => v.category).sum ≤ 8) (hcs : cells ≤ R.cells ∧ slots ≤ R.slots) (k : ∀ (u : xSg), post u → xJ p l e R s m args below meth c cells slots Q D cl A nL (va_S A s.heap) (wf u) (vs) (pc + 3) (st)) : xJ p l e R s m args below meth c cells slots Q D cl A nL (va_S A s.heap) (wf σ) (vs) (pc) (st) := fun H locs ls hP hD hS hl => by
  have hFc := x_free hD hS G.2.2.2.2.2.2.2
  refine va_callv (va_runS (As := []) (rest := st) ⟨G.1, G.2.1, G.2.2.1, G.2.2.2.1, G.2.2.2.2.1⟩ (hM H.size) cw ⟨fun a U g mk q => by obtain ⟨q0, q1, qP, qK, qN, qD⟩ := q; exact ⟨q0, q1, qP, va_K.moved (u := U) (U := U.calling g mk a) (Vm.Alike.refl U.vm) qK, fun c hc => ⟨(qN c hc).1, nest_same (s := U) (U := U.calling g mk a) (qN c hc).1 rfl (qN c hc).2⟩, qD⟩, fun U hU hW => ⟨rfl, by rw [hU], by rw [hU]; exact hP, va_K.moved hW.alike G.2.2.2.2.2.1, fun c hc => ⟨(G.2.2.2.2.2.2.1 c hc).1, nest_warm (G.2.2.2.2.2.2.1 c hc).1 hW (G.2.2.2.2.2.2.1 c hc).2⟩, hD.weaken (fun _ _ _ _ => trivial)⟩⟩ rfl rfl hl.1 rfl (lv_room hroom) dd ⟨hcs.1, hcs.2⟩) hS (fun q _ h => hFc q h) hFc (fun u t H1 locs1 ht hvm hw hB hz1 hk1 hS1 => ?_)
  obtain ⟨hP1, hD1⟩ := hB
  rw [ht] at hP1
  exact k u hw H1 locs1 ls hP1 (hD1.weaken (fun _ q _ h => hFc q.1 h)) hS1 hl
theorem x_callSN0i (G : xG p s m args c cc nL own Ts NW D cl tys A) {wf : xSg → va_W} {σ : xSg} {host : String} {y : MethodName} {bytes : ByteArray} {maxL index d : Nat} {ret : Option FieldType} {Tc : List Cond} {post : Int32 → xSg → Prop} (hM : xCi l D cl tys NW wf y Tc d [] σ post) (cw : (va_CN R s args own index y host bytes maxL ret Tc { frames := d, cells := 0, slots := 0, locals := 40 * d } 0 0 0 ∧ (Cond.static y).before args s = true ∧ True)) (dd : decode cc pc = .ok (.invokestatic index, 3)) (hroom : (st.map fun v => v.category).sum ≤ 8) (hcs : cells ≤ R.cells ∧ slots ≤ R.slots) (k : ∀ (r : Int32) (u : xSg), post r u → xJ p l e R s m args below meth c cells slots Q D cl A nL (va_S A s.heap) (wf u) (vs) (pc + 3) (.int r :: st)) : xJ p l e R s m args below meth c cells slots Q D cl A nL (va_S A s.heap) (wf σ) (vs) (pc) (st) := fun H locs ls hP hD hS hl => by
  have hFc := x_free hD hS G.2.2.2.2.2.2.2
  refine va_calli (va_runSN (As := []) (rest := st) ⟨G.1, G.2.1, G.2.2.1, G.2.2.2.1, G.2.2.2.2.1⟩ (hM H.size) cw ⟨fun a U g mk q => by obtain ⟨q0, q1, qP, qK, qN, qD⟩ := q; exact ⟨q0, q1, qP, va_K.moved (u := U) (U := U.calling g mk a) (Vm.Alike.refl U.vm) qK, fun c hc => ⟨(qN c hc).1, nest_same (s := U) (U := U.calling g mk a) (qN c hc).1 rfl (qN c hc).2⟩, qD⟩, fun U hU hW => ⟨rfl, by rw [hU], by rw [hU]; exact hP, va_K.moved hW.alike G.2.2.2.2.2.1, fun c hc => ⟨(G.2.2.2.2.2.2.1 c hc).1, nest_warm (G.2.2.2.2.2.2.1 c hc).1 hW (G.2.2.2.2.2.2.1 c hc).2⟩, hD.weaken (fun _ _ _ _ => trivial)⟩⟩ rfl rfl hl.1 rfl (lv_room hroom) dd ⟨hcs.1, hcs.2⟩) hS (fun q _ h => hFc q h) hFc (fun r u t H1 locs1 ht hvm hw hB hz1 hk1 hS1 => ?_)
  obtain ⟨hP1, hD1⟩ := hB
  rw [ht] at hP1
  exact k r u hw H1 locs1 ls hP1 (hD1.weaken (fun _ q _ h => hFc q.1 h)) hS1 hl
theorem x_callSN0l (G : xG p s m args c cc nL own Ts NW D cl tys A) {wf : xSg → va_W} {σ : xSg} {host : String} {y : MethodName} {bytes : ByteArray} {maxL index d : Nat} {ret : Option FieldType} {Tc : List Cond} {post : Int64 → xSg → Prop} (hM : xCl l D cl tys NW wf y Tc d [] σ post) (cw : (va_CN R s args own index y host bytes maxL ret Tc { frames := d, cells := 0, slots := 0, locals := 40 * d } 0 0 0 ∧ (Cond.static y).before args s = true ∧ True)) (dd : decode cc pc = .ok (.invokestatic index, 3)) (hroom : (st.map fun v => v.category).sum ≤ 8) (hcs : cells ≤ R.cells ∧ slots ≤ R.slots) (k : ∀ (r : Int64) (u : xSg), post r u → xJ p l e R s m args below meth c cells slots Q D cl A nL (va_S A s.heap) (wf u) (vs) (pc + 3) (.long r :: st)) : xJ p l e R s m args below meth c cells slots Q D cl A nL (va_S A s.heap) (wf σ) (vs) (pc) (st) := fun H locs ls hP hD hS hl => by
  have hFc := x_free hD hS G.2.2.2.2.2.2.2
  refine va_calll (va_runSN (As := []) (rest := st) ⟨G.1, G.2.1, G.2.2.1, G.2.2.2.1, G.2.2.2.2.1⟩ (hM H.size) cw ⟨fun a U g mk q => by obtain ⟨q0, q1, qP, qK, qN, qD⟩ := q; exact ⟨q0, q1, qP, va_K.moved (u := U) (U := U.calling g mk a) (Vm.Alike.refl U.vm) qK, fun c hc => ⟨(qN c hc).1, nest_same (s := U) (U := U.calling g mk a) (qN c hc).1 rfl (qN c hc).2⟩, qD⟩, fun U hU hW => ⟨rfl, by rw [hU], by rw [hU]; exact hP, va_K.moved hW.alike G.2.2.2.2.2.1, fun c hc => ⟨(G.2.2.2.2.2.2.1 c hc).1, nest_warm (G.2.2.2.2.2.2.1 c hc).1 hW (G.2.2.2.2.2.2.1 c hc).2⟩, hD.weaken (fun _ _ _ _ => trivial)⟩⟩ rfl rfl hl.1 rfl (lv_room hroom) dd ⟨hcs.1, hcs.2⟩) hS (fun q _ h => hFc q h) hFc (fun r u t H1 locs1 ht hvm hw hB hz1 hk1 hS1 => ?_)
  obtain ⟨hP1, hD1⟩ := hB
  rw [ht] at hP1
  exact k r u hw H1 locs1 ls hP1 (hD1.weaken (fun _ q _ h => hFc q.1 h)) hS1 hl
theorem x_callSN0v (G : xG p s m args c cc nL own Ts NW D cl tys A) {wf : xSg → va_W} {σ : xSg} {host : String} {y : MethodName} {bytes : ByteArray} {maxL index d : Nat} {ret : Option FieldType} {Tc : List Cond} {post : xSg → Prop} (hM : xCv l D cl tys NW wf y Tc d [] σ post) (cw : (va_CN R s args own index y host bytes maxL ret Tc { frames := d, cells := 0, slots := 0, locals := 40 * d } 0 0 0 ∧ (Cond.static y).before args s = true ∧ True)) (dd : decode cc pc = .ok (.invokestatic index, 3)) (hroom : (st.map fun v => v.category).sum ≤ 8) (hcs : cells ≤ R.cells ∧ slots ≤ R.slots) (k : ∀ (u : xSg), post u → xJ p l e R s m args below meth c cells slots Q D cl A nL (va_S A s.heap) (wf u) (vs) (pc + 3) (st)) : xJ p l e R s m args below meth c cells slots Q D cl A nL (va_S A s.heap) (wf σ) (vs) (pc) (st) := fun H locs ls hP hD hS hl => by
  have hFc := x_free hD hS G.2.2.2.2.2.2.2
  refine va_callv (va_runSN (As := []) (rest := st) ⟨G.1, G.2.1, G.2.2.1, G.2.2.2.1, G.2.2.2.2.1⟩ (hM H.size) cw ⟨fun a U g mk q => by obtain ⟨q0, q1, qP, qK, qN, qD⟩ := q; exact ⟨q0, q1, qP, va_K.moved (u := U) (U := U.calling g mk a) (Vm.Alike.refl U.vm) qK, fun c hc => ⟨(qN c hc).1, nest_same (s := U) (U := U.calling g mk a) (qN c hc).1 rfl (qN c hc).2⟩, qD⟩, fun U hU hW => ⟨rfl, by rw [hU], by rw [hU]; exact hP, va_K.moved hW.alike G.2.2.2.2.2.1, fun c hc => ⟨(G.2.2.2.2.2.2.1 c hc).1, nest_warm (G.2.2.2.2.2.2.1 c hc).1 hW (G.2.2.2.2.2.2.1 c hc).2⟩, hD.weaken (fun _ _ _ _ => trivial)⟩⟩ rfl rfl hl.1 rfl (lv_room hroom) dd ⟨hcs.1, hcs.2⟩) hS (fun q _ h => hFc q h) hFc (fun u t H1 locs1 ht hvm hw hB hz1 hk1 hS1 => ?_)
  obtain ⟨hP1, hD1⟩ := hB
  rw [ht] at hP1
  exact k u hw H1 locs1 ls hP1 (hD1.weaken (fun _ q _ h => hFc q.1 h)) hS1 hl
theorem x_callV1i (G : xG p s m args c cc nL own Ts NW D cl tys A) {wf : xSg → va_W} {σ : xSg} {b : Nat} {C : String} {y : MethodName} {bytes : ByteArray} {maxL index d : Nat} {ret : Option FieldType} {Tc : List Cond} {a1 : Value} {post : Int32 → xSg → Prop} (hM : xCi l D cl tys NW wf y Tc d [.ref b, a1] σ post) (q0 : Nat) {fs : List Value} {ci : Nat} {T : u_T} {N : Nat} (he : (wf σ)[q0]? = some (b, .inr (ci, fs))) (hc : cl[ci]? = some (C, T, N)) (cw : CallW R s args own C index y bytes maxL ret Tc { frames := d, cells := 0, slots := 0, locals := 40 * d } 0 0 1) (dd : decode cc pc = .ok (.invokevirtual index, 3)) (hroom : (st.map fun v => v.category).sum ≤ 8) (hcs : cells ≤ R.cells ∧ slots ≤ R.slots) (k : ∀ (r : Int32) (u : xSg), post r u → xJ p l e R s m args below meth c cells slots Q D cl A nL (va_S A s.heap) (wf u) (vs) (pc + 3) (.int r :: st)) : xJ p l e R s m args below meth c cells slots Q D cl A nL (va_S A s.heap) (wf σ) (vs) (pc) (a1 :: .ref b :: st) := fun H locs ls hP hD hS hl => by
  have hFc := x_free hD hS G.2.2.2.2.2.2.2
  refine va_calli (va_runV (As := [a1]) (rest := st) ⟨G.1, G.2.1, G.2.2.1, G.2.2.2.1, G.2.2.2.2.1⟩ (hM H.size) cw ⟨fun a U g mk q => by obtain ⟨q0, q1, qP, qK, qN, qD⟩ := q; exact ⟨q0, q1, qP, va_K.moved (u := U) (U := U.calling g mk a) (Vm.Alike.refl U.vm) qK, fun c hc => ⟨(qN c hc).1, nest_same (s := U) (U := U.calling g mk a) (qN c hc).1 rfl (qN c hc).2⟩, qD⟩, va_recv G.2.2.2.2.2.1 hP hc he, fun U hU hW => ⟨rfl, by rw [hU], by rw [hU]; exact hP, va_K.moved hW.alike G.2.2.2.2.2.1, fun c hc => ⟨(G.2.2.2.2.2.2.1 c hc).1, nest_warm (G.2.2.2.2.2.2.1 c hc).1 hW (G.2.2.2.2.2.2.1 c hc).2⟩, hD.weaken (fun _ _ _ _ => trivial)⟩⟩ rfl rfl hl.1 rfl (lv_room hroom) dd ⟨hcs.1, hcs.2⟩) hS (fun q _ h => hFc q h) hFc (fun r u t H1 locs1 ht hvm hw hB hz1 hk1 hS1 => ?_)
  obtain ⟨hP1, hD1⟩ := hB
  rw [ht] at hP1
  exact k r u hw H1 locs1 ls hP1 (hD1.weaken (fun _ q _ h => hFc q.1 h)) hS1 hl
theorem x_callV1l (G : xG p s m args c cc nL own Ts NW D cl tys A) {wf : xSg → va_W} {σ : xSg} {b : Nat} {C : String} {y : MethodName} {bytes : ByteArray} {maxL index d : Nat} {ret : Option FieldType} {Tc : List Cond} {a1 : Value} {post : Int64 → xSg → Prop} (hM : xCl l D cl tys NW wf y Tc d [.ref b, a1] σ post) (q0 : Nat) {fs : List Value} {ci : Nat} {T : u_T} {N : Nat} (he : (wf σ)[q0]? = some (b, .inr (ci, fs))) (hc : cl[ci]? = some (C, T, N)) (cw : CallW R s args own C index y bytes maxL ret Tc { frames := d, cells := 0, slots := 0, locals := 40 * d } 0 0 1) (dd : decode cc pc = .ok (.invokevirtual index, 3)) (hroom : (st.map fun v => v.category).sum ≤ 8) (hcs : cells ≤ R.cells ∧ slots ≤ R.slots) (k : ∀ (r : Int64) (u : xSg), post r u → xJ p l e R s m args below meth c cells slots Q D cl A nL (va_S A s.heap) (wf u) (vs) (pc + 3) (.long r :: st)) : xJ p l e R s m args below meth c cells slots Q D cl A nL (va_S A s.heap) (wf σ) (vs) (pc) (a1 :: .ref b :: st) := fun H locs ls hP hD hS hl => by
  have hFc := x_free hD hS G.2.2.2.2.2.2.2
  refine va_calll (va_runV (As := [a1]) (rest := st) ⟨G.1, G.2.1, G.2.2.1, G.2.2.2.1, G.2.2.2.2.1⟩ (hM H.size) cw ⟨fun a U g mk q => by obtain ⟨q0, q1, qP, qK, qN, qD⟩ := q; exact ⟨q0, q1, qP, va_K.moved (u := U) (U := U.calling g mk a) (Vm.Alike.refl U.vm) qK, fun c hc => ⟨(qN c hc).1, nest_same (s := U) (U := U.calling g mk a) (qN c hc).1 rfl (qN c hc).2⟩, qD⟩, va_recv G.2.2.2.2.2.1 hP hc he, fun U hU hW => ⟨rfl, by rw [hU], by rw [hU]; exact hP, va_K.moved hW.alike G.2.2.2.2.2.1, fun c hc => ⟨(G.2.2.2.2.2.2.1 c hc).1, nest_warm (G.2.2.2.2.2.2.1 c hc).1 hW (G.2.2.2.2.2.2.1 c hc).2⟩, hD.weaken (fun _ _ _ _ => trivial)⟩⟩ rfl rfl hl.1 rfl (lv_room hroom) dd ⟨hcs.1, hcs.2⟩) hS (fun q _ h => hFc q h) hFc (fun r u t H1 locs1 ht hvm hw hB hz1 hk1 hS1 => ?_)
  obtain ⟨hP1, hD1⟩ := hB
  rw [ht] at hP1
  exact k r u hw H1 locs1 ls hP1 (hD1.weaken (fun _ q _ h => hFc q.1 h)) hS1 hl
theorem x_callV1v (G : xG p s m args c cc nL own Ts NW D cl tys A) {wf : xSg → va_W} {σ : xSg} {b : Nat} {C : String} {y : MethodName} {bytes : ByteArray} {maxL index d : Nat} {ret : Option FieldType} {Tc : List Cond} {a1 : Value} {post : xSg → Prop} (hM : xCv l D cl tys NW wf y Tc d [.ref b, a1] σ post) (q0 : Nat) {fs : List Value} {ci : Nat} {T : u_T} {N : Nat} (he : (wf σ)[q0]? = some (b, .inr (ci, fs))) (hc : cl[ci]? = some (C, T, N)) (cw : CallW R s args own C index y bytes maxL ret Tc { frames := d, cells := 0, slots := 0, locals := 40 * d } 0 0 1) (dd : decode cc pc = .ok (.invokevirtual index, 3)) (hroom : (st.map fun v => v.category).sum ≤ 8) (hcs : cells ≤ R.cells ∧ slots ≤ R.slots) (k : ∀ (u : xSg), post u → xJ p l e R s m args below meth c cells slots Q D cl A nL (va_S A s.heap) (wf u) (vs) (pc + 3) (st)) : xJ p l e R s m args below meth c cells slots Q D cl A nL (va_S A s.heap) (wf σ) (vs) (pc) (a1 :: .ref b :: st) := fun H locs ls hP hD hS hl => by
  have hFc := x_free hD hS G.2.2.2.2.2.2.2
  refine va_callv (va_runV (As := [a1]) (rest := st) ⟨G.1, G.2.1, G.2.2.1, G.2.2.2.1, G.2.2.2.2.1⟩ (hM H.size) cw ⟨fun a U g mk q => by obtain ⟨q0, q1, qP, qK, qN, qD⟩ := q; exact ⟨q0, q1, qP, va_K.moved (u := U) (U := U.calling g mk a) (Vm.Alike.refl U.vm) qK, fun c hc => ⟨(qN c hc).1, nest_same (s := U) (U := U.calling g mk a) (qN c hc).1 rfl (qN c hc).2⟩, qD⟩, va_recv G.2.2.2.2.2.1 hP hc he, fun U hU hW => ⟨rfl, by rw [hU], by rw [hU]; exact hP, va_K.moved hW.alike G.2.2.2.2.2.1, fun c hc => ⟨(G.2.2.2.2.2.2.1 c hc).1, nest_warm (G.2.2.2.2.2.2.1 c hc).1 hW (G.2.2.2.2.2.2.1 c hc).2⟩, hD.weaken (fun _ _ _ _ => trivial)⟩⟩ rfl rfl hl.1 rfl (lv_room hroom) dd ⟨hcs.1, hcs.2⟩) hS (fun q _ h => hFc q h) hFc (fun u t H1 locs1 ht hvm hw hB hz1 hk1 hS1 => ?_)
  obtain ⟨hP1, hD1⟩ := hB
  rw [ht] at hP1
  exact k u hw H1 locs1 ls hP1 (hD1.weaken (fun _ q _ h => hFc q.1 h)) hS1 hl
theorem x_callVN1i (G : xG p s m args c cc nL own Ts NW D cl tys A) {wf : xSg → va_W} {σ : xSg} {b : Nat} {C : String} {host : String} {y : MethodName} {bytes : ByteArray} {maxL index d : Nat} {ret : Option FieldType} {Tc : List Cond} {a1 : Value} {post : Int32 → xSg → Prop} (hM : xCi l D cl tys NW wf y Tc d [.ref b, a1] σ post) (q0 : Nat) {fs : List Value} {ci : Nat} {T : u_T} {N : Nat} (he : (wf σ)[q0]? = some (b, .inr (ci, fs))) (hc : cl[ci]? = some (C, T, N)) (cw : (va_CN R s args own index y host bytes maxL ret Tc { frames := d, cells := 0, slots := 0, locals := 40 * d } 0 0 1 ∧ (Cond.instanceMethod y).before args s = true ∧ (Cond.selects C y y).before args s = true)) (dd : decode cc pc = .ok (.invokevirtual index, 3)) (hroom : (st.map fun v => v.category).sum ≤ 8) (hcs : cells ≤ R.cells ∧ slots ≤ R.slots) (k : ∀ (r : Int32) (u : xSg), post r u → xJ p l e R s m args below meth c cells slots Q D cl A nL (va_S A s.heap) (wf u) (vs) (pc + 3) (.int r :: st)) : xJ p l e R s m args below meth c cells slots Q D cl A nL (va_S A s.heap) (wf σ) (vs) (pc) (a1 :: .ref b :: st) := fun H locs ls hP hD hS hl => by
  have hFc := x_free hD hS G.2.2.2.2.2.2.2
  refine va_calli (va_runVN (As := [a1]) (rest := st) ⟨G.1, G.2.1, G.2.2.1, G.2.2.2.1, G.2.2.2.2.1⟩ (hM H.size) cw ⟨fun a U g mk q => by obtain ⟨q0, q1, qP, qK, qN, qD⟩ := q; exact ⟨q0, q1, qP, va_K.moved (u := U) (U := U.calling g mk a) (Vm.Alike.refl U.vm) qK, fun c hc => ⟨(qN c hc).1, nest_same (s := U) (U := U.calling g mk a) (qN c hc).1 rfl (qN c hc).2⟩, qD⟩, va_recv G.2.2.2.2.2.1 hP hc he, fun U hU hW => ⟨rfl, by rw [hU], by rw [hU]; exact hP, va_K.moved hW.alike G.2.2.2.2.2.1, fun c hc => ⟨(G.2.2.2.2.2.2.1 c hc).1, nest_warm (G.2.2.2.2.2.2.1 c hc).1 hW (G.2.2.2.2.2.2.1 c hc).2⟩, hD.weaken (fun _ _ _ _ => trivial)⟩⟩ rfl rfl hl.1 rfl (lv_room hroom) dd ⟨hcs.1, hcs.2⟩) hS (fun q _ h => hFc q h) hFc (fun r u t H1 locs1 ht hvm hw hB hz1 hk1 hS1 => ?_)
  obtain ⟨hP1, hD1⟩ := hB
  rw [ht] at hP1
  exact k r u hw H1 locs1 ls hP1 (hD1.weaken (fun _ q _ h => hFc q.1 h)) hS1 hl
theorem x_callVN1l (G : xG p s m args c cc nL own Ts NW D cl tys A) {wf : xSg → va_W} {σ : xSg} {b : Nat} {C : String} {host : String} {y : MethodName} {bytes : ByteArray} {maxL index d : Nat} {ret : Option FieldType} {Tc : List Cond} {a1 : Value} {post : Int64 → xSg → Prop} (hM : xCl l D cl tys NW wf y Tc d [.ref b, a1] σ post) (q0 : Nat) {fs : List Value} {ci : Nat} {T : u_T} {N : Nat} (he : (wf σ)[q0]? = some (b, .inr (ci, fs))) (hc : cl[ci]? = some (C, T, N)) (cw : (va_CN R s args own index y host bytes maxL ret Tc { frames := d, cells := 0, slots := 0, locals := 40 * d } 0 0 1 ∧ (Cond.instanceMethod y).before args s = true ∧ (Cond.selects C y y).before args s = true)) (dd : decode cc pc = .ok (.invokevirtual index, 3)) (hroom : (st.map fun v => v.category).sum ≤ 8) (hcs : cells ≤ R.cells ∧ slots ≤ R.slots) (k : ∀ (r : Int64) (u : xSg), post r u → xJ p l e R s m args below meth c cells slots Q D cl A nL (va_S A s.heap) (wf u) (vs) (pc + 3) (.long r :: st)) : xJ p l e R s m args below meth c cells slots Q D cl A nL (va_S A s.heap) (wf σ) (vs) (pc) (a1 :: .ref b :: st) := fun H locs ls hP hD hS hl => by
  have hFc := x_free hD hS G.2.2.2.2.2.2.2
  refine va_calll (va_runVN (As := [a1]) (rest := st) ⟨G.1, G.2.1, G.2.2.1, G.2.2.2.1, G.2.2.2.2.1⟩ (hM H.size) cw ⟨fun a U g mk q => by obtain ⟨q0, q1, qP, qK, qN, qD⟩ := q; exact ⟨q0, q1, qP, va_K.moved (u := U) (U := U.calling g mk a) (Vm.Alike.refl U.vm) qK, fun c hc => ⟨(qN c hc).1, nest_same (s := U) (U := U.calling g mk a) (qN c hc).1 rfl (qN c hc).2⟩, qD⟩, va_recv G.2.2.2.2.2.1 hP hc he, fun U hU hW => ⟨rfl, by rw [hU], by rw [hU]; exact hP, va_K.moved hW.alike G.2.2.2.2.2.1, fun c hc => ⟨(G.2.2.2.2.2.2.1 c hc).1, nest_warm (G.2.2.2.2.2.2.1 c hc).1 hW (G.2.2.2.2.2.2.1 c hc).2⟩, hD.weaken (fun _ _ _ _ => trivial)⟩⟩ rfl rfl hl.1 rfl (lv_room hroom) dd ⟨hcs.1, hcs.2⟩) hS (fun q _ h => hFc q h) hFc (fun r u t H1 locs1 ht hvm hw hB hz1 hk1 hS1 => ?_)
  obtain ⟨hP1, hD1⟩ := hB
  rw [ht] at hP1
  exact k r u hw H1 locs1 ls hP1 (hD1.weaken (fun _ q _ h => hFc q.1 h)) hS1 hl
theorem x_callVN1v (G : xG p s m args c cc nL own Ts NW D cl tys A) {wf : xSg → va_W} {σ : xSg} {b : Nat} {C : String} {host : String} {y : MethodName} {bytes : ByteArray} {maxL index d : Nat} {ret : Option FieldType} {Tc : List Cond} {a1 : Value} {post : xSg → Prop} (hM : xCv l D cl tys NW wf y Tc d [.ref b, a1] σ post) (q0 : Nat) {fs : List Value} {ci : Nat} {T : u_T} {N : Nat} (he : (wf σ)[q0]? = some (b, .inr (ci, fs))) (hc : cl[ci]? = some (C, T, N)) (cw : (va_CN R s args own index y host bytes maxL ret Tc { frames := d, cells := 0, slots := 0, locals := 40 * d } 0 0 1 ∧ (Cond.instanceMethod y).before args s = true ∧ (Cond.selects C y y).before args s = true)) (dd : decode cc pc = .ok (.invokevirtual index, 3)) (hroom : (st.map fun v => v.category).sum ≤ 8) (hcs : cells ≤ R.cells ∧ slots ≤ R.slots) (k : ∀ (u : xSg), post u → xJ p l e R s m args below meth c cells slots Q D cl A nL (va_S A s.heap) (wf u) (vs) (pc + 3) (st)) : xJ p l e R s m args below meth c cells slots Q D cl A nL (va_S A s.heap) (wf σ) (vs) (pc) (a1 :: .ref b :: st) := fun H locs ls hP hD hS hl => by
  have hFc := x_free hD hS G.2.2.2.2.2.2.2
  refine va_callv (va_runVN (As := [a1]) (rest := st) ⟨G.1, G.2.1, G.2.2.1, G.2.2.2.1, G.2.2.2.2.1⟩ (hM H.size) cw ⟨fun a U g mk q => by obtain ⟨q0, q1, qP, qK, qN, qD⟩ := q; exact ⟨q0, q1, qP, va_K.moved (u := U) (U := U.calling g mk a) (Vm.Alike.refl U.vm) qK, fun c hc => ⟨(qN c hc).1, nest_same (s := U) (U := U.calling g mk a) (qN c hc).1 rfl (qN c hc).2⟩, qD⟩, va_recv G.2.2.2.2.2.1 hP hc he, fun U hU hW => ⟨rfl, by rw [hU], by rw [hU]; exact hP, va_K.moved hW.alike G.2.2.2.2.2.1, fun c hc => ⟨(G.2.2.2.2.2.2.1 c hc).1, nest_warm (G.2.2.2.2.2.2.1 c hc).1 hW (G.2.2.2.2.2.2.1 c hc).2⟩, hD.weaken (fun _ _ _ _ => trivial)⟩⟩ rfl rfl hl.1 rfl (lv_room hroom) dd ⟨hcs.1, hcs.2⟩) hS (fun q _ h => hFc q h) hFc (fun u t H1 locs1 ht hvm hw hB hz1 hk1 hS1 => ?_)
  obtain ⟨hP1, hD1⟩ := hB
  rw [ht] at hP1
  exact k u hw H1 locs1 ls hP1 (hD1.weaken (fun _ q _ h => hFc q.1 h)) hS1 hl
theorem x_callS1i (G : xG p s m args c cc nL own Ts NW D cl tys A) {wf : xSg → va_W} {σ : xSg} {y : MethodName} {bytes : ByteArray} {maxL index d : Nat} {ret : Option FieldType} {Tc : List Cond} {a1 : Value} {post : Int32 → xSg → Prop} (hM : xCi l D cl tys NW wf y Tc d [a1] σ post) (cw : (CallB R s args own index y bytes maxL ret Tc { frames := d, cells := 0, slots := 0, locals := 40 * d } 0 0 1 ∧ (Cond.static y).before args s = true)) (dd : decode cc pc = .ok (.invokestatic index, 3)) (hroom : (st.map fun v => v.category).sum ≤ 8) (hcs : cells ≤ R.cells ∧ slots ≤ R.slots) (k : ∀ (r : Int32) (u : xSg), post r u → xJ p l e R s m args below meth c cells slots Q D cl A nL (va_S A s.heap) (wf u) (vs) (pc + 3) (.int r :: st)) : xJ p l e R s m args below meth c cells slots Q D cl A nL (va_S A s.heap) (wf σ) (vs) (pc) (a1 :: st) := fun H locs ls hP hD hS hl => by
  have hFc := x_free hD hS G.2.2.2.2.2.2.2
  refine va_calli (va_runS (As := [a1]) (rest := st) ⟨G.1, G.2.1, G.2.2.1, G.2.2.2.1, G.2.2.2.2.1⟩ (hM H.size) cw ⟨fun a U g mk q => by obtain ⟨q0, q1, qP, qK, qN, qD⟩ := q; exact ⟨q0, q1, qP, va_K.moved (u := U) (U := U.calling g mk a) (Vm.Alike.refl U.vm) qK, fun c hc => ⟨(qN c hc).1, nest_same (s := U) (U := U.calling g mk a) (qN c hc).1 rfl (qN c hc).2⟩, qD⟩, fun U hU hW => ⟨rfl, by rw [hU], by rw [hU]; exact hP, va_K.moved hW.alike G.2.2.2.2.2.1, fun c hc => ⟨(G.2.2.2.2.2.2.1 c hc).1, nest_warm (G.2.2.2.2.2.2.1 c hc).1 hW (G.2.2.2.2.2.2.1 c hc).2⟩, hD.weaken (fun _ _ _ _ => trivial)⟩⟩ rfl rfl hl.1 rfl (lv_room hroom) dd ⟨hcs.1, hcs.2⟩) hS (fun q _ h => hFc q h) hFc (fun r u t H1 locs1 ht hvm hw hB hz1 hk1 hS1 => ?_)
  obtain ⟨hP1, hD1⟩ := hB
  rw [ht] at hP1
  exact k r u hw H1 locs1 ls hP1 (hD1.weaken (fun _ q _ h => hFc q.1 h)) hS1 hl
theorem x_callS1l (G : xG p s m args c cc nL own Ts NW D cl tys A) {wf : xSg → va_W} {σ : xSg} {y : MethodName} {bytes : ByteArray} {maxL index d : Nat} {ret : Option FieldType} {Tc : List Cond} {a1 : Value} {post : Int64 → xSg → Prop} (hM : xCl l D cl tys NW wf y Tc d [a1] σ post) (cw : (CallB R s args own index y bytes maxL ret Tc { frames := d, cells := 0, slots := 0, locals := 40 * d } 0 0 1 ∧ (Cond.static y).before args s = true)) (dd : decode cc pc = .ok (.invokestatic index, 3)) (hroom : (st.map fun v => v.category).sum ≤ 8) (hcs : cells ≤ R.cells ∧ slots ≤ R.slots) (k : ∀ (r : Int64) (u : xSg), post r u → xJ p l e R s m args below meth c cells slots Q D cl A nL (va_S A s.heap) (wf u) (vs) (pc + 3) (.long r :: st)) : xJ p l e R s m args below meth c cells slots Q D cl A nL (va_S A s.heap) (wf σ) (vs) (pc) (a1 :: st) := fun H locs ls hP hD hS hl => by
  have hFc := x_free hD hS G.2.2.2.2.2.2.2
  refine va_calll (va_runS (As := [a1]) (rest := st) ⟨G.1, G.2.1, G.2.2.1, G.2.2.2.1, G.2.2.2.2.1⟩ (hM H.size) cw ⟨fun a U g mk q => by obtain ⟨q0, q1, qP, qK, qN, qD⟩ := q; exact ⟨q0, q1, qP, va_K.moved (u := U) (U := U.calling g mk a) (Vm.Alike.refl U.vm) qK, fun c hc => ⟨(qN c hc).1, nest_same (s := U) (U := U.calling g mk a) (qN c hc).1 rfl (qN c hc).2⟩, qD⟩, fun U hU hW => ⟨rfl, by rw [hU], by rw [hU]; exact hP, va_K.moved hW.alike G.2.2.2.2.2.1, fun c hc => ⟨(G.2.2.2.2.2.2.1 c hc).1, nest_warm (G.2.2.2.2.2.2.1 c hc).1 hW (G.2.2.2.2.2.2.1 c hc).2⟩, hD.weaken (fun _ _ _ _ => trivial)⟩⟩ rfl rfl hl.1 rfl (lv_room hroom) dd ⟨hcs.1, hcs.2⟩) hS (fun q _ h => hFc q h) hFc (fun r u t H1 locs1 ht hvm hw hB hz1 hk1 hS1 => ?_)
  obtain ⟨hP1, hD1⟩ := hB
  rw [ht] at hP1
  exact k r u hw H1 locs1 ls hP1 (hD1.weaken (fun _ q _ h => hFc q.1 h)) hS1 hl
theorem x_callS1v (G : xG p s m args c cc nL own Ts NW D cl tys A) {wf : xSg → va_W} {σ : xSg} {y : MethodName} {bytes : ByteArray} {maxL index d : Nat} {ret : Option FieldType} {Tc : List Cond} {a1 : Value} {post : xSg → Prop} (hM : xCv l D cl tys NW wf y Tc d [a1] σ post) (cw : (CallB R s args own index y bytes maxL ret Tc { frames := d, cells := 0, slots := 0, locals := 40 * d } 0 0 1 ∧ (Cond.static y).before args s = true)) (dd : decode cc pc = .ok (.invokestatic index, 3)) (hroom : (st.map fun v => v.category).sum ≤ 8) (hcs : cells ≤ R.cells ∧ slots ≤ R.slots) (k : ∀ (u : xSg), post u → xJ p l e R s m args below meth c cells slots Q D cl A nL (va_S A s.heap) (wf u) (vs) (pc + 3) (st)) : xJ p l e R s m args below meth c cells slots Q D cl A nL (va_S A s.heap) (wf σ) (vs) (pc) (a1 :: st) := fun H locs ls hP hD hS hl => by
  have hFc := x_free hD hS G.2.2.2.2.2.2.2
  refine va_callv (va_runS (As := [a1]) (rest := st) ⟨G.1, G.2.1, G.2.2.1, G.2.2.2.1, G.2.2.2.2.1⟩ (hM H.size) cw ⟨fun a U g mk q => by obtain ⟨q0, q1, qP, qK, qN, qD⟩ := q; exact ⟨q0, q1, qP, va_K.moved (u := U) (U := U.calling g mk a) (Vm.Alike.refl U.vm) qK, fun c hc => ⟨(qN c hc).1, nest_same (s := U) (U := U.calling g mk a) (qN c hc).1 rfl (qN c hc).2⟩, qD⟩, fun U hU hW => ⟨rfl, by rw [hU], by rw [hU]; exact hP, va_K.moved hW.alike G.2.2.2.2.2.1, fun c hc => ⟨(G.2.2.2.2.2.2.1 c hc).1, nest_warm (G.2.2.2.2.2.2.1 c hc).1 hW (G.2.2.2.2.2.2.1 c hc).2⟩, hD.weaken (fun _ _ _ _ => trivial)⟩⟩ rfl rfl hl.1 rfl (lv_room hroom) dd ⟨hcs.1, hcs.2⟩) hS (fun q _ h => hFc q h) hFc (fun u t H1 locs1 ht hvm hw hB hz1 hk1 hS1 => ?_)
  obtain ⟨hP1, hD1⟩ := hB
  rw [ht] at hP1
  exact k u hw H1 locs1 ls hP1 (hD1.weaken (fun _ q _ h => hFc q.1 h)) hS1 hl
theorem x_callSN1i (G : xG p s m args c cc nL own Ts NW D cl tys A) {wf : xSg → va_W} {σ : xSg} {host : String} {y : MethodName} {bytes : ByteArray} {maxL index d : Nat} {ret : Option FieldType} {Tc : List Cond} {a1 : Value} {post : Int32 → xSg → Prop} (hM : xCi l D cl tys NW wf y Tc d [a1] σ post) (cw : (va_CN R s args own index y host bytes maxL ret Tc { frames := d, cells := 0, slots := 0, locals := 40 * d } 0 0 1 ∧ (Cond.static y).before args s = true ∧ True)) (dd : decode cc pc = .ok (.invokestatic index, 3)) (hroom : (st.map fun v => v.category).sum ≤ 8) (hcs : cells ≤ R.cells ∧ slots ≤ R.slots) (k : ∀ (r : Int32) (u : xSg), post r u → xJ p l e R s m args below meth c cells slots Q D cl A nL (va_S A s.heap) (wf u) (vs) (pc + 3) (.int r :: st)) : xJ p l e R s m args below meth c cells slots Q D cl A nL (va_S A s.heap) (wf σ) (vs) (pc) (a1 :: st) := fun H locs ls hP hD hS hl => by
  have hFc := x_free hD hS G.2.2.2.2.2.2.2
  refine va_calli (va_runSN (As := [a1]) (rest := st) ⟨G.1, G.2.1, G.2.2.1, G.2.2.2.1, G.2.2.2.2.1⟩ (hM H.size) cw ⟨fun a U g mk q => by obtain ⟨q0, q1, qP, qK, qN, qD⟩ := q; exact ⟨q0, q1, qP, va_K.moved (u := U) (U := U.calling g mk a) (Vm.Alike.refl U.vm) qK, fun c hc => ⟨(qN c hc).1, nest_same (s := U) (U := U.calling g mk a) (qN c hc).1 rfl (qN c hc).2⟩, qD⟩, fun U hU hW => ⟨rfl, by rw [hU], by rw [hU]; exact hP, va_K.moved hW.alike G.2.2.2.2.2.1, fun c hc => ⟨(G.2.2.2.2.2.2.1 c hc).1, nest_warm (G.2.2.2.2.2.2.1 c hc).1 hW (G.2.2.2.2.2.2.1 c hc).2⟩, hD.weaken (fun _ _ _ _ => trivial)⟩⟩ rfl rfl hl.1 rfl (lv_room hroom) dd ⟨hcs.1, hcs.2⟩) hS (fun q _ h => hFc q h) hFc (fun r u t H1 locs1 ht hvm hw hB hz1 hk1 hS1 => ?_)
  obtain ⟨hP1, hD1⟩ := hB
  rw [ht] at hP1
  exact k r u hw H1 locs1 ls hP1 (hD1.weaken (fun _ q _ h => hFc q.1 h)) hS1 hl
theorem x_callSN1l (G : xG p s m args c cc nL own Ts NW D cl tys A) {wf : xSg → va_W} {σ : xSg} {host : String} {y : MethodName} {bytes : ByteArray} {maxL index d : Nat} {ret : Option FieldType} {Tc : List Cond} {a1 : Value} {post : Int64 → xSg → Prop} (hM : xCl l D cl tys NW wf y Tc d [a1] σ post) (cw : (va_CN R s args own index y host bytes maxL ret Tc { frames := d, cells := 0, slots := 0, locals := 40 * d } 0 0 1 ∧ (Cond.static y).before args s = true ∧ True)) (dd : decode cc pc = .ok (.invokestatic index, 3)) (hroom : (st.map fun v => v.category).sum ≤ 8) (hcs : cells ≤ R.cells ∧ slots ≤ R.slots) (k : ∀ (r : Int64) (u : xSg), post r u → xJ p l e R s m args below meth c cells slots Q D cl A nL (va_S A s.heap) (wf u) (vs) (pc + 3) (.long r :: st)) : xJ p l e R s m args below meth c cells slots Q D cl A nL (va_S A s.heap) (wf σ) (vs) (pc) (a1 :: st) := fun H locs ls hP hD hS hl => by
  have hFc := x_free hD hS G.2.2.2.2.2.2.2
  refine va_calll (va_runSN (As := [a1]) (rest := st) ⟨G.1, G.2.1, G.2.2.1, G.2.2.2.1, G.2.2.2.2.1⟩ (hM H.size) cw ⟨fun a U g mk q => by obtain ⟨q0, q1, qP, qK, qN, qD⟩ := q; exact ⟨q0, q1, qP, va_K.moved (u := U) (U := U.calling g mk a) (Vm.Alike.refl U.vm) qK, fun c hc => ⟨(qN c hc).1, nest_same (s := U) (U := U.calling g mk a) (qN c hc).1 rfl (qN c hc).2⟩, qD⟩, fun U hU hW => ⟨rfl, by rw [hU], by rw [hU]; exact hP, va_K.moved hW.alike G.2.2.2.2.2.1, fun c hc => ⟨(G.2.2.2.2.2.2.1 c hc).1, nest_warm (G.2.2.2.2.2.2.1 c hc).1 hW (G.2.2.2.2.2.2.1 c hc).2⟩, hD.weaken (fun _ _ _ _ => trivial)⟩⟩ rfl rfl hl.1 rfl (lv_room hroom) dd ⟨hcs.1, hcs.2⟩) hS (fun q _ h => hFc q h) hFc (fun r u t H1 locs1 ht hvm hw hB hz1 hk1 hS1 => ?_)
  obtain ⟨hP1, hD1⟩ := hB
  rw [ht] at hP1
  exact k r u hw H1 locs1 ls hP1 (hD1.weaken (fun _ q _ h => hFc q.1 h)) hS1 hl
theorem x_callSN1v (G : xG p s m args c cc nL own Ts NW D cl tys A) {wf : xSg → va_W} {σ : xSg} {host : String} {y : MethodName} {bytes : ByteArray} {maxL index d : Nat} {ret : Option FieldType} {Tc : List Cond} {a1 : Value} {post : xSg → Prop} (hM : xCv l D cl tys NW wf y Tc d [a1] σ post) (cw : (va_CN R s args own index y host bytes maxL ret Tc { frames := d, cells := 0, slots := 0, locals := 40 * d } 0 0 1 ∧ (Cond.static y).before args s = true ∧ True)) (dd : decode cc pc = .ok (.invokestatic index, 3)) (hroom : (st.map fun v => v.category).sum ≤ 8) (hcs : cells ≤ R.cells ∧ slots ≤ R.slots) (k : ∀ (u : xSg), post u → xJ p l e R s m args below meth c cells slots Q D cl A nL (va_S A s.heap) (wf u) (vs) (pc + 3) (st)) : xJ p l e R s m args below meth c cells slots Q D cl A nL (va_S A s.heap) (wf σ) (vs) (pc) (a1 :: st) := fun H locs ls hP hD hS hl => by
  have hFc := x_free hD hS G.2.2.2.2.2.2.2
  refine va_callv (va_runSN (As := [a1]) (rest := st) ⟨G.1, G.2.1, G.2.2.1, G.2.2.2.1, G.2.2.2.2.1⟩ (hM H.size) cw ⟨fun a U g mk q => by obtain ⟨q0, q1, qP, qK, qN, qD⟩ := q; exact ⟨q0, q1, qP, va_K.moved (u := U) (U := U.calling g mk a) (Vm.Alike.refl U.vm) qK, fun c hc => ⟨(qN c hc).1, nest_same (s := U) (U := U.calling g mk a) (qN c hc).1 rfl (qN c hc).2⟩, qD⟩, fun U hU hW => ⟨rfl, by rw [hU], by rw [hU]; exact hP, va_K.moved hW.alike G.2.2.2.2.2.1, fun c hc => ⟨(G.2.2.2.2.2.2.1 c hc).1, nest_warm (G.2.2.2.2.2.2.1 c hc).1 hW (G.2.2.2.2.2.2.1 c hc).2⟩, hD.weaken (fun _ _ _ _ => trivial)⟩⟩ rfl rfl hl.1 rfl (lv_room hroom) dd ⟨hcs.1, hcs.2⟩) hS (fun q _ h => hFc q h) hFc (fun u t H1 locs1 ht hvm hw hB hz1 hk1 hS1 => ?_)
  obtain ⟨hP1, hD1⟩ := hB
  rw [ht] at hP1
  exact k u hw H1 locs1 ls hP1 (hD1.weaken (fun _ q _ h => hFc q.1 h)) hS1 hl
theorem x_callV2i (G : xG p s m args c cc nL own Ts NW D cl tys A) {wf : xSg → va_W} {σ : xSg} {b : Nat} {C : String} {y : MethodName} {bytes : ByteArray} {maxL index d : Nat} {ret : Option FieldType} {Tc : List Cond} {a1 a2 : Value} {post : Int32 → xSg → Prop} (hM : xCi l D cl tys NW wf y Tc d [.ref b, a1, a2] σ post) (q0 : Nat) {fs : List Value} {ci : Nat} {T : u_T} {N : Nat} (he : (wf σ)[q0]? = some (b, .inr (ci, fs))) (hc : cl[ci]? = some (C, T, N)) (cw : CallW R s args own C index y bytes maxL ret Tc { frames := d, cells := 0, slots := 0, locals := 40 * d } 0 0 2) (dd : decode cc pc = .ok (.invokevirtual index, 3)) (hroom : (st.map fun v => v.category).sum ≤ 8) (hcs : cells ≤ R.cells ∧ slots ≤ R.slots) (k : ∀ (r : Int32) (u : xSg), post r u → xJ p l e R s m args below meth c cells slots Q D cl A nL (va_S A s.heap) (wf u) (vs) (pc + 3) (.int r :: st)) : xJ p l e R s m args below meth c cells slots Q D cl A nL (va_S A s.heap) (wf σ) (vs) (pc) (a2 :: a1 :: .ref b :: st) := fun H locs ls hP hD hS hl => by
  have hFc := x_free hD hS G.2.2.2.2.2.2.2
  refine va_calli (va_runV (As := [a1, a2]) (rest := st) ⟨G.1, G.2.1, G.2.2.1, G.2.2.2.1, G.2.2.2.2.1⟩ (hM H.size) cw ⟨fun a U g mk q => by obtain ⟨q0, q1, qP, qK, qN, qD⟩ := q; exact ⟨q0, q1, qP, va_K.moved (u := U) (U := U.calling g mk a) (Vm.Alike.refl U.vm) qK, fun c hc => ⟨(qN c hc).1, nest_same (s := U) (U := U.calling g mk a) (qN c hc).1 rfl (qN c hc).2⟩, qD⟩, va_recv G.2.2.2.2.2.1 hP hc he, fun U hU hW => ⟨rfl, by rw [hU], by rw [hU]; exact hP, va_K.moved hW.alike G.2.2.2.2.2.1, fun c hc => ⟨(G.2.2.2.2.2.2.1 c hc).1, nest_warm (G.2.2.2.2.2.2.1 c hc).1 hW (G.2.2.2.2.2.2.1 c hc).2⟩, hD.weaken (fun _ _ _ _ => trivial)⟩⟩ rfl rfl hl.1 rfl (lv_room hroom) dd ⟨hcs.1, hcs.2⟩) hS (fun q _ h => hFc q h) hFc (fun r u t H1 locs1 ht hvm hw hB hz1 hk1 hS1 => ?_)
  obtain ⟨hP1, hD1⟩ := hB
  rw [ht] at hP1
  exact k r u hw H1 locs1 ls hP1 (hD1.weaken (fun _ q _ h => hFc q.1 h)) hS1 hl
theorem x_callV2l (G : xG p s m args c cc nL own Ts NW D cl tys A) {wf : xSg → va_W} {σ : xSg} {b : Nat} {C : String} {y : MethodName} {bytes : ByteArray} {maxL index d : Nat} {ret : Option FieldType} {Tc : List Cond} {a1 a2 : Value} {post : Int64 → xSg → Prop} (hM : xCl l D cl tys NW wf y Tc d [.ref b, a1, a2] σ post) (q0 : Nat) {fs : List Value} {ci : Nat} {T : u_T} {N : Nat} (he : (wf σ)[q0]? = some (b, .inr (ci, fs))) (hc : cl[ci]? = some (C, T, N)) (cw : CallW R s args own C index y bytes maxL ret Tc { frames := d, cells := 0, slots := 0, locals := 40 * d } 0 0 2) (dd : decode cc pc = .ok (.invokevirtual index, 3)) (hroom : (st.map fun v => v.category).sum ≤ 8) (hcs : cells ≤ R.cells ∧ slots ≤ R.slots) (k : ∀ (r : Int64) (u : xSg), post r u → xJ p l e R s m args below meth c cells slots Q D cl A nL (va_S A s.heap) (wf u) (vs) (pc + 3) (.long r :: st)) : xJ p l e R s m args below meth c cells slots Q D cl A nL (va_S A s.heap) (wf σ) (vs) (pc) (a2 :: a1 :: .ref b :: st) := fun H locs ls hP hD hS hl => by
  have hFc := x_free hD hS G.2.2.2.2.2.2.2
  refine va_calll (va_runV (As := [a1, a2]) (rest := st) ⟨G.1, G.2.1, G.2.2.1, G.2.2.2.1, G.2.2.2.2.1⟩ (hM H.size) cw ⟨fun a U g mk q => by obtain ⟨q0, q1, qP, qK, qN, qD⟩ := q; exact ⟨q0, q1, qP, va_K.moved (u := U) (U := U.calling g mk a) (Vm.Alike.refl U.vm) qK, fun c hc => ⟨(qN c hc).1, nest_same (s := U) (U := U.calling g mk a) (qN c hc).1 rfl (qN c hc).2⟩, qD⟩, va_recv G.2.2.2.2.2.1 hP hc he, fun U hU hW => ⟨rfl, by rw [hU], by rw [hU]; exact hP, va_K.moved hW.alike G.2.2.2.2.2.1, fun c hc => ⟨(G.2.2.2.2.2.2.1 c hc).1, nest_warm (G.2.2.2.2.2.2.1 c hc).1 hW (G.2.2.2.2.2.2.1 c hc).2⟩, hD.weaken (fun _ _ _ _ => trivial)⟩⟩ rfl rfl hl.1 rfl (lv_room hroom) dd ⟨hcs.1, hcs.2⟩) hS (fun q _ h => hFc q h) hFc (fun r u t H1 locs1 ht hvm hw hB hz1 hk1 hS1 => ?_)
  obtain ⟨hP1, hD1⟩ := hB
  rw [ht] at hP1
  exact k r u hw H1 locs1 ls hP1 (hD1.weaken (fun _ q _ h => hFc q.1 h)) hS1 hl
theorem x_callV2v (G : xG p s m args c cc nL own Ts NW D cl tys A) {wf : xSg → va_W} {σ : xSg} {b : Nat} {C : String} {y : MethodName} {bytes : ByteArray} {maxL index d : Nat} {ret : Option FieldType} {Tc : List Cond} {a1 a2 : Value} {post : xSg → Prop} (hM : xCv l D cl tys NW wf y Tc d [.ref b, a1, a2] σ post) (q0 : Nat) {fs : List Value} {ci : Nat} {T : u_T} {N : Nat} (he : (wf σ)[q0]? = some (b, .inr (ci, fs))) (hc : cl[ci]? = some (C, T, N)) (cw : CallW R s args own C index y bytes maxL ret Tc { frames := d, cells := 0, slots := 0, locals := 40 * d } 0 0 2) (dd : decode cc pc = .ok (.invokevirtual index, 3)) (hroom : (st.map fun v => v.category).sum ≤ 8) (hcs : cells ≤ R.cells ∧ slots ≤ R.slots) (k : ∀ (u : xSg), post u → xJ p l e R s m args below meth c cells slots Q D cl A nL (va_S A s.heap) (wf u) (vs) (pc + 3) (st)) : xJ p l e R s m args below meth c cells slots Q D cl A nL (va_S A s.heap) (wf σ) (vs) (pc) (a2 :: a1 :: .ref b :: st) := fun H locs ls hP hD hS hl => by
  have hFc := x_free hD hS G.2.2.2.2.2.2.2
  refine va_callv (va_runV (As := [a1, a2]) (rest := st) ⟨G.1, G.2.1, G.2.2.1, G.2.2.2.1, G.2.2.2.2.1⟩ (hM H.size) cw ⟨fun a U g mk q => by obtain ⟨q0, q1, qP, qK, qN, qD⟩ := q; exact ⟨q0, q1, qP, va_K.moved (u := U) (U := U.calling g mk a) (Vm.Alike.refl U.vm) qK, fun c hc => ⟨(qN c hc).1, nest_same (s := U) (U := U.calling g mk a) (qN c hc).1 rfl (qN c hc).2⟩, qD⟩, va_recv G.2.2.2.2.2.1 hP hc he, fun U hU hW => ⟨rfl, by rw [hU], by rw [hU]; exact hP, va_K.moved hW.alike G.2.2.2.2.2.1, fun c hc => ⟨(G.2.2.2.2.2.2.1 c hc).1, nest_warm (G.2.2.2.2.2.2.1 c hc).1 hW (G.2.2.2.2.2.2.1 c hc).2⟩, hD.weaken (fun _ _ _ _ => trivial)⟩⟩ rfl rfl hl.1 rfl (lv_room hroom) dd ⟨hcs.1, hcs.2⟩) hS (fun q _ h => hFc q h) hFc (fun u t H1 locs1 ht hvm hw hB hz1 hk1 hS1 => ?_)
  obtain ⟨hP1, hD1⟩ := hB
  rw [ht] at hP1
  exact k u hw H1 locs1 ls hP1 (hD1.weaken (fun _ q _ h => hFc q.1 h)) hS1 hl
theorem x_callVN2i (G : xG p s m args c cc nL own Ts NW D cl tys A) {wf : xSg → va_W} {σ : xSg} {b : Nat} {C : String} {host : String} {y : MethodName} {bytes : ByteArray} {maxL index d : Nat} {ret : Option FieldType} {Tc : List Cond} {a1 a2 : Value} {post : Int32 → xSg → Prop} (hM : xCi l D cl tys NW wf y Tc d [.ref b, a1, a2] σ post) (q0 : Nat) {fs : List Value} {ci : Nat} {T : u_T} {N : Nat} (he : (wf σ)[q0]? = some (b, .inr (ci, fs))) (hc : cl[ci]? = some (C, T, N)) (cw : (va_CN R s args own index y host bytes maxL ret Tc { frames := d, cells := 0, slots := 0, locals := 40 * d } 0 0 2 ∧ (Cond.instanceMethod y).before args s = true ∧ (Cond.selects C y y).before args s = true)) (dd : decode cc pc = .ok (.invokevirtual index, 3)) (hroom : (st.map fun v => v.category).sum ≤ 8) (hcs : cells ≤ R.cells ∧ slots ≤ R.slots) (k : ∀ (r : Int32) (u : xSg), post r u → xJ p l e R s m args below meth c cells slots Q D cl A nL (va_S A s.heap) (wf u) (vs) (pc + 3) (.int r :: st)) : xJ p l e R s m args below meth c cells slots Q D cl A nL (va_S A s.heap) (wf σ) (vs) (pc) (a2 :: a1 :: .ref b :: st) := fun H locs ls hP hD hS hl => by
  have hFc := x_free hD hS G.2.2.2.2.2.2.2
  refine va_calli (va_runVN (As := [a1, a2]) (rest := st) ⟨G.1, G.2.1, G.2.2.1, G.2.2.2.1, G.2.2.2.2.1⟩ (hM H.size) cw ⟨fun a U g mk q => by obtain ⟨q0, q1, qP, qK, qN, qD⟩ := q; exact ⟨q0, q1, qP, va_K.moved (u := U) (U := U.calling g mk a) (Vm.Alike.refl U.vm) qK, fun c hc => ⟨(qN c hc).1, nest_same (s := U) (U := U.calling g mk a) (qN c hc).1 rfl (qN c hc).2⟩, qD⟩, va_recv G.2.2.2.2.2.1 hP hc he, fun U hU hW => ⟨rfl, by rw [hU], by rw [hU]; exact hP, va_K.moved hW.alike G.2.2.2.2.2.1, fun c hc => ⟨(G.2.2.2.2.2.2.1 c hc).1, nest_warm (G.2.2.2.2.2.2.1 c hc).1 hW (G.2.2.2.2.2.2.1 c hc).2⟩, hD.weaken (fun _ _ _ _ => trivial)⟩⟩ rfl rfl hl.1 rfl (lv_room hroom) dd ⟨hcs.1, hcs.2⟩) hS (fun q _ h => hFc q h) hFc (fun r u t H1 locs1 ht hvm hw hB hz1 hk1 hS1 => ?_)
  obtain ⟨hP1, hD1⟩ := hB
  rw [ht] at hP1
  exact k r u hw H1 locs1 ls hP1 (hD1.weaken (fun _ q _ h => hFc q.1 h)) hS1 hl
theorem x_callVN2l (G : xG p s m args c cc nL own Ts NW D cl tys A) {wf : xSg → va_W} {σ : xSg} {b : Nat} {C : String} {host : String} {y : MethodName} {bytes : ByteArray} {maxL index d : Nat} {ret : Option FieldType} {Tc : List Cond} {a1 a2 : Value} {post : Int64 → xSg → Prop} (hM : xCl l D cl tys NW wf y Tc d [.ref b, a1, a2] σ post) (q0 : Nat) {fs : List Value} {ci : Nat} {T : u_T} {N : Nat} (he : (wf σ)[q0]? = some (b, .inr (ci, fs))) (hc : cl[ci]? = some (C, T, N)) (cw : (va_CN R s args own index y host bytes maxL ret Tc { frames := d, cells := 0, slots := 0, locals := 40 * d } 0 0 2 ∧ (Cond.instanceMethod y).before args s = true ∧ (Cond.selects C y y).before args s = true)) (dd : decode cc pc = .ok (.invokevirtual index, 3)) (hroom : (st.map fun v => v.category).sum ≤ 8) (hcs : cells ≤ R.cells ∧ slots ≤ R.slots) (k : ∀ (r : Int64) (u : xSg), post r u → xJ p l e R s m args below meth c cells slots Q D cl A nL (va_S A s.heap) (wf u) (vs) (pc + 3) (.long r :: st)) : xJ p l e R s m args below meth c cells slots Q D cl A nL (va_S A s.heap) (wf σ) (vs) (pc) (a2 :: a1 :: .ref b :: st) := fun H locs ls hP hD hS hl => by
  have hFc := x_free hD hS G.2.2.2.2.2.2.2
  refine va_calll (va_runVN (As := [a1, a2]) (rest := st) ⟨G.1, G.2.1, G.2.2.1, G.2.2.2.1, G.2.2.2.2.1⟩ (hM H.size) cw ⟨fun a U g mk q => by obtain ⟨q0, q1, qP, qK, qN, qD⟩ := q; exact ⟨q0, q1, qP, va_K.moved (u := U) (U := U.calling g mk a) (Vm.Alike.refl U.vm) qK, fun c hc => ⟨(qN c hc).1, nest_same (s := U) (U := U.calling g mk a) (qN c hc).1 rfl (qN c hc).2⟩, qD⟩, va_recv G.2.2.2.2.2.1 hP hc he, fun U hU hW => ⟨rfl, by rw [hU], by rw [hU]; exact hP, va_K.moved hW.alike G.2.2.2.2.2.1, fun c hc => ⟨(G.2.2.2.2.2.2.1 c hc).1, nest_warm (G.2.2.2.2.2.2.1 c hc).1 hW (G.2.2.2.2.2.2.1 c hc).2⟩, hD.weaken (fun _ _ _ _ => trivial)⟩⟩ rfl rfl hl.1 rfl (lv_room hroom) dd ⟨hcs.1, hcs.2⟩) hS (fun q _ h => hFc q h) hFc (fun r u t H1 locs1 ht hvm hw hB hz1 hk1 hS1 => ?_)
  obtain ⟨hP1, hD1⟩ := hB
  rw [ht] at hP1
  exact k r u hw H1 locs1 ls hP1 (hD1.weaken (fun _ q _ h => hFc q.1 h)) hS1 hl
theorem x_callVN2v (G : xG p s m args c cc nL own Ts NW D cl tys A) {wf : xSg → va_W} {σ : xSg} {b : Nat} {C : String} {host : String} {y : MethodName} {bytes : ByteArray} {maxL index d : Nat} {ret : Option FieldType} {Tc : List Cond} {a1 a2 : Value} {post : xSg → Prop} (hM : xCv l D cl tys NW wf y Tc d [.ref b, a1, a2] σ post) (q0 : Nat) {fs : List Value} {ci : Nat} {T : u_T} {N : Nat} (he : (wf σ)[q0]? = some (b, .inr (ci, fs))) (hc : cl[ci]? = some (C, T, N)) (cw : (va_CN R s args own index y host bytes maxL ret Tc { frames := d, cells := 0, slots := 0, locals := 40 * d } 0 0 2 ∧ (Cond.instanceMethod y).before args s = true ∧ (Cond.selects C y y).before args s = true)) (dd : decode cc pc = .ok (.invokevirtual index, 3)) (hroom : (st.map fun v => v.category).sum ≤ 8) (hcs : cells ≤ R.cells ∧ slots ≤ R.slots) (k : ∀ (u : xSg), post u → xJ p l e R s m args below meth c cells slots Q D cl A nL (va_S A s.heap) (wf u) (vs) (pc + 3) (st)) : xJ p l e R s m args below meth c cells slots Q D cl A nL (va_S A s.heap) (wf σ) (vs) (pc) (a2 :: a1 :: .ref b :: st) := fun H locs ls hP hD hS hl => by
  have hFc := x_free hD hS G.2.2.2.2.2.2.2
  refine va_callv (va_runVN (As := [a1, a2]) (rest := st) ⟨G.1, G.2.1, G.2.2.1, G.2.2.2.1, G.2.2.2.2.1⟩ (hM H.size) cw ⟨fun a U g mk q => by obtain ⟨q0, q1, qP, qK, qN, qD⟩ := q; exact ⟨q0, q1, qP, va_K.moved (u := U) (U := U.calling g mk a) (Vm.Alike.refl U.vm) qK, fun c hc => ⟨(qN c hc).1, nest_same (s := U) (U := U.calling g mk a) (qN c hc).1 rfl (qN c hc).2⟩, qD⟩, va_recv G.2.2.2.2.2.1 hP hc he, fun U hU hW => ⟨rfl, by rw [hU], by rw [hU]; exact hP, va_K.moved hW.alike G.2.2.2.2.2.1, fun c hc => ⟨(G.2.2.2.2.2.2.1 c hc).1, nest_warm (G.2.2.2.2.2.2.1 c hc).1 hW (G.2.2.2.2.2.2.1 c hc).2⟩, hD.weaken (fun _ _ _ _ => trivial)⟩⟩ rfl rfl hl.1 rfl (lv_room hroom) dd ⟨hcs.1, hcs.2⟩) hS (fun q _ h => hFc q h) hFc (fun u t H1 locs1 ht hvm hw hB hz1 hk1 hS1 => ?_)
  obtain ⟨hP1, hD1⟩ := hB
  rw [ht] at hP1
  exact k u hw H1 locs1 ls hP1 (hD1.weaken (fun _ q _ h => hFc q.1 h)) hS1 hl
theorem x_callS2i (G : xG p s m args c cc nL own Ts NW D cl tys A) {wf : xSg → va_W} {σ : xSg} {y : MethodName} {bytes : ByteArray} {maxL index d : Nat} {ret : Option FieldType} {Tc : List Cond} {a1 a2 : Value} {post : Int32 → xSg → Prop} (hM : xCi l D cl tys NW wf y Tc d [a1, a2] σ post) (cw : (CallB R s args own index y bytes maxL ret Tc { frames := d, cells := 0, slots := 0, locals := 40 * d } 0 0 2 ∧ (Cond.static y).before args s = true)) (dd : decode cc pc = .ok (.invokestatic index, 3)) (hroom : (st.map fun v => v.category).sum ≤ 8) (hcs : cells ≤ R.cells ∧ slots ≤ R.slots) (k : ∀ (r : Int32) (u : xSg), post r u → xJ p l e R s m args below meth c cells slots Q D cl A nL (va_S A s.heap) (wf u) (vs) (pc + 3) (.int r :: st)) : xJ p l e R s m args below meth c cells slots Q D cl A nL (va_S A s.heap) (wf σ) (vs) (pc) (a2 :: a1 :: st) := fun H locs ls hP hD hS hl => by
  have hFc := x_free hD hS G.2.2.2.2.2.2.2
  refine va_calli (va_runS (As := [a1, a2]) (rest := st) ⟨G.1, G.2.1, G.2.2.1, G.2.2.2.1, G.2.2.2.2.1⟩ (hM H.size) cw ⟨fun a U g mk q => by obtain ⟨q0, q1, qP, qK, qN, qD⟩ := q; exact ⟨q0, q1, qP, va_K.moved (u := U) (U := U.calling g mk a) (Vm.Alike.refl U.vm) qK, fun c hc => ⟨(qN c hc).1, nest_same (s := U) (U := U.calling g mk a) (qN c hc).1 rfl (qN c hc).2⟩, qD⟩, fun U hU hW => ⟨rfl, by rw [hU], by rw [hU]; exact hP, va_K.moved hW.alike G.2.2.2.2.2.1, fun c hc => ⟨(G.2.2.2.2.2.2.1 c hc).1, nest_warm (G.2.2.2.2.2.2.1 c hc).1 hW (G.2.2.2.2.2.2.1 c hc).2⟩, hD.weaken (fun _ _ _ _ => trivial)⟩⟩ rfl rfl hl.1 rfl (lv_room hroom) dd ⟨hcs.1, hcs.2⟩) hS (fun q _ h => hFc q h) hFc (fun r u t H1 locs1 ht hvm hw hB hz1 hk1 hS1 => ?_)
  obtain ⟨hP1, hD1⟩ := hB
  rw [ht] at hP1
  exact k r u hw H1 locs1 ls hP1 (hD1.weaken (fun _ q _ h => hFc q.1 h)) hS1 hl
theorem x_callS2l (G : xG p s m args c cc nL own Ts NW D cl tys A) {wf : xSg → va_W} {σ : xSg} {y : MethodName} {bytes : ByteArray} {maxL index d : Nat} {ret : Option FieldType} {Tc : List Cond} {a1 a2 : Value} {post : Int64 → xSg → Prop} (hM : xCl l D cl tys NW wf y Tc d [a1, a2] σ post) (cw : (CallB R s args own index y bytes maxL ret Tc { frames := d, cells := 0, slots := 0, locals := 40 * d } 0 0 2 ∧ (Cond.static y).before args s = true)) (dd : decode cc pc = .ok (.invokestatic index, 3)) (hroom : (st.map fun v => v.category).sum ≤ 8) (hcs : cells ≤ R.cells ∧ slots ≤ R.slots) (k : ∀ (r : Int64) (u : xSg), post r u → xJ p l e R s m args below meth c cells slots Q D cl A nL (va_S A s.heap) (wf u) (vs) (pc + 3) (.long r :: st)) : xJ p l e R s m args below meth c cells slots Q D cl A nL (va_S A s.heap) (wf σ) (vs) (pc) (a2 :: a1 :: st) := fun H locs ls hP hD hS hl => by
  have hFc := x_free hD hS G.2.2.2.2.2.2.2
  refine va_calll (va_runS (As := [a1, a2]) (rest := st) ⟨G.1, G.2.1, G.2.2.1, G.2.2.2.1, G.2.2.2.2.1⟩ (hM H.size) cw ⟨fun a U g mk q => by obtain ⟨q0, q1, qP, qK, qN, qD⟩ := q; exact ⟨q0, q1, qP, va_K.moved (u := U) (U := U.calling g mk a) (Vm.Alike.refl U.vm) qK, fun c hc => ⟨(qN c hc).1, nest_same (s := U) (U := U.calling g mk a) (qN c hc).1 rfl (qN c hc).2⟩, qD⟩, fun U hU hW => ⟨rfl, by rw [hU], by rw [hU]; exact hP, va_K.moved hW.alike G.2.2.2.2.2.1, fun c hc => ⟨(G.2.2.2.2.2.2.1 c hc).1, nest_warm (G.2.2.2.2.2.2.1 c hc).1 hW (G.2.2.2.2.2.2.1 c hc).2⟩, hD.weaken (fun _ _ _ _ => trivial)⟩⟩ rfl rfl hl.1 rfl (lv_room hroom) dd ⟨hcs.1, hcs.2⟩) hS (fun q _ h => hFc q h) hFc (fun r u t H1 locs1 ht hvm hw hB hz1 hk1 hS1 => ?_)
  obtain ⟨hP1, hD1⟩ := hB
  rw [ht] at hP1
  exact k r u hw H1 locs1 ls hP1 (hD1.weaken (fun _ q _ h => hFc q.1 h)) hS1 hl
theorem x_callS2v (G : xG p s m args c cc nL own Ts NW D cl tys A) {wf : xSg → va_W} {σ : xSg} {y : MethodName} {bytes : ByteArray} {maxL index d : Nat} {ret : Option FieldType} {Tc : List Cond} {a1 a2 : Value} {post : xSg → Prop} (hM : xCv l D cl tys NW wf y Tc d [a1, a2] σ post) (cw : (CallB R s args own index y bytes maxL ret Tc { frames := d, cells := 0, slots := 0, locals := 40 * d } 0 0 2 ∧ (Cond.static y).before args s = true)) (dd : decode cc pc = .ok (.invokestatic index, 3)) (hroom : (st.map fun v => v.category).sum ≤ 8) (hcs : cells ≤ R.cells ∧ slots ≤ R.slots) (k : ∀ (u : xSg), post u → xJ p l e R s m args below meth c cells slots Q D cl A nL (va_S A s.heap) (wf u) (vs) (pc + 3) (st)) : xJ p l e R s m args below meth c cells slots Q D cl A nL (va_S A s.heap) (wf σ) (vs) (pc) (a2 :: a1 :: st) := fun H locs ls hP hD hS hl => by
  have hFc := x_free hD hS G.2.2.2.2.2.2.2
  refine va_callv (va_runS (As := [a1, a2]) (rest := st) ⟨G.1, G.2.1, G.2.2.1, G.2.2.2.1, G.2.2.2.2.1⟩ (hM H.size) cw ⟨fun a U g mk q => by obtain ⟨q0, q1, qP, qK, qN, qD⟩ := q; exact ⟨q0, q1, qP, va_K.moved (u := U) (U := U.calling g mk a) (Vm.Alike.refl U.vm) qK, fun c hc => ⟨(qN c hc).1, nest_same (s := U) (U := U.calling g mk a) (qN c hc).1 rfl (qN c hc).2⟩, qD⟩, fun U hU hW => ⟨rfl, by rw [hU], by rw [hU]; exact hP, va_K.moved hW.alike G.2.2.2.2.2.1, fun c hc => ⟨(G.2.2.2.2.2.2.1 c hc).1, nest_warm (G.2.2.2.2.2.2.1 c hc).1 hW (G.2.2.2.2.2.2.1 c hc).2⟩, hD.weaken (fun _ _ _ _ => trivial)⟩⟩ rfl rfl hl.1 rfl (lv_room hroom) dd ⟨hcs.1, hcs.2⟩) hS (fun q _ h => hFc q h) hFc (fun u t H1 locs1 ht hvm hw hB hz1 hk1 hS1 => ?_)
  obtain ⟨hP1, hD1⟩ := hB
  rw [ht] at hP1
  exact k u hw H1 locs1 ls hP1 (hD1.weaken (fun _ q _ h => hFc q.1 h)) hS1 hl
theorem x_callSN2i (G : xG p s m args c cc nL own Ts NW D cl tys A) {wf : xSg → va_W} {σ : xSg} {host : String} {y : MethodName} {bytes : ByteArray} {maxL index d : Nat} {ret : Option FieldType} {Tc : List Cond} {a1 a2 : Value} {post : Int32 → xSg → Prop} (hM : xCi l D cl tys NW wf y Tc d [a1, a2] σ post) (cw : (va_CN R s args own index y host bytes maxL ret Tc { frames := d, cells := 0, slots := 0, locals := 40 * d } 0 0 2 ∧ (Cond.static y).before args s = true ∧ True)) (dd : decode cc pc = .ok (.invokestatic index, 3)) (hroom : (st.map fun v => v.category).sum ≤ 8) (hcs : cells ≤ R.cells ∧ slots ≤ R.slots) (k : ∀ (r : Int32) (u : xSg), post r u → xJ p l e R s m args below meth c cells slots Q D cl A nL (va_S A s.heap) (wf u) (vs) (pc + 3) (.int r :: st)) : xJ p l e R s m args below meth c cells slots Q D cl A nL (va_S A s.heap) (wf σ) (vs) (pc) (a2 :: a1 :: st) := fun H locs ls hP hD hS hl => by
  have hFc := x_free hD hS G.2.2.2.2.2.2.2
  refine va_calli (va_runSN (As := [a1, a2]) (rest := st) ⟨G.1, G.2.1, G.2.2.1, G.2.2.2.1, G.2.2.2.2.1⟩ (hM H.size) cw ⟨fun a U g mk q => by obtain ⟨q0, q1, qP, qK, qN, qD⟩ := q; exact ⟨q0, q1, qP, va_K.moved (u := U) (U := U.calling g mk a) (Vm.Alike.refl U.vm) qK, fun c hc => ⟨(qN c hc).1, nest_same (s := U) (U := U.calling g mk a) (qN c hc).1 rfl (qN c hc).2⟩, qD⟩, fun U hU hW => ⟨rfl, by rw [hU], by rw [hU]; exact hP, va_K.moved hW.alike G.2.2.2.2.2.1, fun c hc => ⟨(G.2.2.2.2.2.2.1 c hc).1, nest_warm (G.2.2.2.2.2.2.1 c hc).1 hW (G.2.2.2.2.2.2.1 c hc).2⟩, hD.weaken (fun _ _ _ _ => trivial)⟩⟩ rfl rfl hl.1 rfl (lv_room hroom) dd ⟨hcs.1, hcs.2⟩) hS (fun q _ h => hFc q h) hFc (fun r u t H1 locs1 ht hvm hw hB hz1 hk1 hS1 => ?_)
  obtain ⟨hP1, hD1⟩ := hB
  rw [ht] at hP1
  exact k r u hw H1 locs1 ls hP1 (hD1.weaken (fun _ q _ h => hFc q.1 h)) hS1 hl
theorem x_callSN2l (G : xG p s m args c cc nL own Ts NW D cl tys A) {wf : xSg → va_W} {σ : xSg} {host : String} {y : MethodName} {bytes : ByteArray} {maxL index d : Nat} {ret : Option FieldType} {Tc : List Cond} {a1 a2 : Value} {post : Int64 → xSg → Prop} (hM : xCl l D cl tys NW wf y Tc d [a1, a2] σ post) (cw : (va_CN R s args own index y host bytes maxL ret Tc { frames := d, cells := 0, slots := 0, locals := 40 * d } 0 0 2 ∧ (Cond.static y).before args s = true ∧ True)) (dd : decode cc pc = .ok (.invokestatic index, 3)) (hroom : (st.map fun v => v.category).sum ≤ 8) (hcs : cells ≤ R.cells ∧ slots ≤ R.slots) (k : ∀ (r : Int64) (u : xSg), post r u → xJ p l e R s m args below meth c cells slots Q D cl A nL (va_S A s.heap) (wf u) (vs) (pc + 3) (.long r :: st)) : xJ p l e R s m args below meth c cells slots Q D cl A nL (va_S A s.heap) (wf σ) (vs) (pc) (a2 :: a1 :: st) := fun H locs ls hP hD hS hl => by
  have hFc := x_free hD hS G.2.2.2.2.2.2.2
  refine va_calll (va_runSN (As := [a1, a2]) (rest := st) ⟨G.1, G.2.1, G.2.2.1, G.2.2.2.1, G.2.2.2.2.1⟩ (hM H.size) cw ⟨fun a U g mk q => by obtain ⟨q0, q1, qP, qK, qN, qD⟩ := q; exact ⟨q0, q1, qP, va_K.moved (u := U) (U := U.calling g mk a) (Vm.Alike.refl U.vm) qK, fun c hc => ⟨(qN c hc).1, nest_same (s := U) (U := U.calling g mk a) (qN c hc).1 rfl (qN c hc).2⟩, qD⟩, fun U hU hW => ⟨rfl, by rw [hU], by rw [hU]; exact hP, va_K.moved hW.alike G.2.2.2.2.2.1, fun c hc => ⟨(G.2.2.2.2.2.2.1 c hc).1, nest_warm (G.2.2.2.2.2.2.1 c hc).1 hW (G.2.2.2.2.2.2.1 c hc).2⟩, hD.weaken (fun _ _ _ _ => trivial)⟩⟩ rfl rfl hl.1 rfl (lv_room hroom) dd ⟨hcs.1, hcs.2⟩) hS (fun q _ h => hFc q h) hFc (fun r u t H1 locs1 ht hvm hw hB hz1 hk1 hS1 => ?_)
  obtain ⟨hP1, hD1⟩ := hB
  rw [ht] at hP1
  exact k r u hw H1 locs1 ls hP1 (hD1.weaken (fun _ q _ h => hFc q.1 h)) hS1 hl
theorem x_callSN2v (G : xG p s m args c cc nL own Ts NW D cl tys A) {wf : xSg → va_W} {σ : xSg} {host : String} {y : MethodName} {bytes : ByteArray} {maxL index d : Nat} {ret : Option FieldType} {Tc : List Cond} {a1 a2 : Value} {post : xSg → Prop} (hM : xCv l D cl tys NW wf y Tc d [a1, a2] σ post) (cw : (va_CN R s args own index y host bytes maxL ret Tc { frames := d, cells := 0, slots := 0, locals := 40 * d } 0 0 2 ∧ (Cond.static y).before args s = true ∧ True)) (dd : decode cc pc = .ok (.invokestatic index, 3)) (hroom : (st.map fun v => v.category).sum ≤ 8) (hcs : cells ≤ R.cells ∧ slots ≤ R.slots) (k : ∀ (u : xSg), post u → xJ p l e R s m args below meth c cells slots Q D cl A nL (va_S A s.heap) (wf u) (vs) (pc + 3) (st)) : xJ p l e R s m args below meth c cells slots Q D cl A nL (va_S A s.heap) (wf σ) (vs) (pc) (a2 :: a1 :: st) := fun H locs ls hP hD hS hl => by
  have hFc := x_free hD hS G.2.2.2.2.2.2.2
  refine va_callv (va_runSN (As := [a1, a2]) (rest := st) ⟨G.1, G.2.1, G.2.2.1, G.2.2.2.1, G.2.2.2.2.1⟩ (hM H.size) cw ⟨fun a U g mk q => by obtain ⟨q0, q1, qP, qK, qN, qD⟩ := q; exact ⟨q0, q1, qP, va_K.moved (u := U) (U := U.calling g mk a) (Vm.Alike.refl U.vm) qK, fun c hc => ⟨(qN c hc).1, nest_same (s := U) (U := U.calling g mk a) (qN c hc).1 rfl (qN c hc).2⟩, qD⟩, fun U hU hW => ⟨rfl, by rw [hU], by rw [hU]; exact hP, va_K.moved hW.alike G.2.2.2.2.2.1, fun c hc => ⟨(G.2.2.2.2.2.2.1 c hc).1, nest_warm (G.2.2.2.2.2.2.1 c hc).1 hW (G.2.2.2.2.2.2.1 c hc).2⟩, hD.weaken (fun _ _ _ _ => trivial)⟩⟩ rfl rfl hl.1 rfl (lv_room hroom) dd ⟨hcs.1, hcs.2⟩) hS (fun q _ h => hFc q h) hFc (fun u t H1 locs1 ht hvm hw hB hz1 hk1 hS1 => ?_)
  obtain ⟨hP1, hD1⟩ := hB
  rw [ht] at hP1
  exact k u hw H1 locs1 ls hP1 (hD1.weaken (fun _ q _ h => hFc q.1 h)) hS1 hl
theorem x_callV3i (G : xG p s m args c cc nL own Ts NW D cl tys A) {wf : xSg → va_W} {σ : xSg} {b : Nat} {C : String} {y : MethodName} {bytes : ByteArray} {maxL index d : Nat} {ret : Option FieldType} {Tc : List Cond} {a1 a2 a3 : Value} {post : Int32 → xSg → Prop} (hM : xCi l D cl tys NW wf y Tc d [.ref b, a1, a2, a3] σ post) (q0 : Nat) {fs : List Value} {ci : Nat} {T : u_T} {N : Nat} (he : (wf σ)[q0]? = some (b, .inr (ci, fs))) (hc : cl[ci]? = some (C, T, N)) (cw : CallW R s args own C index y bytes maxL ret Tc { frames := d, cells := 0, slots := 0, locals := 40 * d } 0 0 3) (dd : decode cc pc = .ok (.invokevirtual index, 3)) (hroom : (st.map fun v => v.category).sum ≤ 8) (hcs : cells ≤ R.cells ∧ slots ≤ R.slots) (k : ∀ (r : Int32) (u : xSg), post r u → xJ p l e R s m args below meth c cells slots Q D cl A nL (va_S A s.heap) (wf u) (vs) (pc + 3) (.int r :: st)) : xJ p l e R s m args below meth c cells slots Q D cl A nL (va_S A s.heap) (wf σ) (vs) (pc) (a3 :: a2 :: a1 :: .ref b :: st) := fun H locs ls hP hD hS hl => by
  have hFc := x_free hD hS G.2.2.2.2.2.2.2
  refine va_calli (va_runV (As := [a1, a2, a3]) (rest := st) ⟨G.1, G.2.1, G.2.2.1, G.2.2.2.1, G.2.2.2.2.1⟩ (hM H.size) cw ⟨fun a U g mk q => by obtain ⟨q0, q1, qP, qK, qN, qD⟩ := q; exact ⟨q0, q1, qP, va_K.moved (u := U) (U := U.calling g mk a) (Vm.Alike.refl U.vm) qK, fun c hc => ⟨(qN c hc).1, nest_same (s := U) (U := U.calling g mk a) (qN c hc).1 rfl (qN c hc).2⟩, qD⟩, va_recv G.2.2.2.2.2.1 hP hc he, fun U hU hW => ⟨rfl, by rw [hU], by rw [hU]; exact hP, va_K.moved hW.alike G.2.2.2.2.2.1, fun c hc => ⟨(G.2.2.2.2.2.2.1 c hc).1, nest_warm (G.2.2.2.2.2.2.1 c hc).1 hW (G.2.2.2.2.2.2.1 c hc).2⟩, hD.weaken (fun _ _ _ _ => trivial)⟩⟩ rfl rfl hl.1 rfl (lv_room hroom) dd ⟨hcs.1, hcs.2⟩) hS (fun q _ h => hFc q h) hFc (fun r u t H1 locs1 ht hvm hw hB hz1 hk1 hS1 => ?_)
  obtain ⟨hP1, hD1⟩ := hB
  rw [ht] at hP1
  exact k r u hw H1 locs1 ls hP1 (hD1.weaken (fun _ q _ h => hFc q.1 h)) hS1 hl
theorem x_callV3l (G : xG p s m args c cc nL own Ts NW D cl tys A) {wf : xSg → va_W} {σ : xSg} {b : Nat} {C : String} {y : MethodName} {bytes : ByteArray} {maxL index d : Nat} {ret : Option FieldType} {Tc : List Cond} {a1 a2 a3 : Value} {post : Int64 → xSg → Prop} (hM : xCl l D cl tys NW wf y Tc d [.ref b, a1, a2, a3] σ post) (q0 : Nat) {fs : List Value} {ci : Nat} {T : u_T} {N : Nat} (he : (wf σ)[q0]? = some (b, .inr (ci, fs))) (hc : cl[ci]? = some (C, T, N)) (cw : CallW R s args own C index y bytes maxL ret Tc { frames := d, cells := 0, slots := 0, locals := 40 * d } 0 0 3) (dd : decode cc pc = .ok (.invokevirtual index, 3)) (hroom : (st.map fun v => v.category).sum ≤ 8) (hcs : cells ≤ R.cells ∧ slots ≤ R.slots) (k : ∀ (r : Int64) (u : xSg), post r u → xJ p l e R s m args below meth c cells slots Q D cl A nL (va_S A s.heap) (wf u) (vs) (pc + 3) (.long r :: st)) : xJ p l e R s m args below meth c cells slots Q D cl A nL (va_S A s.heap) (wf σ) (vs) (pc) (a3 :: a2 :: a1 :: .ref b :: st) := fun H locs ls hP hD hS hl => by
  have hFc := x_free hD hS G.2.2.2.2.2.2.2
  refine va_calll (va_runV (As := [a1, a2, a3]) (rest := st) ⟨G.1, G.2.1, G.2.2.1, G.2.2.2.1, G.2.2.2.2.1⟩ (hM H.size) cw ⟨fun a U g mk q => by obtain ⟨q0, q1, qP, qK, qN, qD⟩ := q; exact ⟨q0, q1, qP, va_K.moved (u := U) (U := U.calling g mk a) (Vm.Alike.refl U.vm) qK, fun c hc => ⟨(qN c hc).1, nest_same (s := U) (U := U.calling g mk a) (qN c hc).1 rfl (qN c hc).2⟩, qD⟩, va_recv G.2.2.2.2.2.1 hP hc he, fun U hU hW => ⟨rfl, by rw [hU], by rw [hU]; exact hP, va_K.moved hW.alike G.2.2.2.2.2.1, fun c hc => ⟨(G.2.2.2.2.2.2.1 c hc).1, nest_warm (G.2.2.2.2.2.2.1 c hc).1 hW (G.2.2.2.2.2.2.1 c hc).2⟩, hD.weaken (fun _ _ _ _ => trivial)⟩⟩ rfl rfl hl.1 rfl (lv_room hroom) dd ⟨hcs.1, hcs.2⟩) hS (fun q _ h => hFc q h) hFc (fun r u t H1 locs1 ht hvm hw hB hz1 hk1 hS1 => ?_)
  obtain ⟨hP1, hD1⟩ := hB
  rw [ht] at hP1
  exact k r u hw H1 locs1 ls hP1 (hD1.weaken (fun _ q _ h => hFc q.1 h)) hS1 hl
theorem x_callV3v (G : xG p s m args c cc nL own Ts NW D cl tys A) {wf : xSg → va_W} {σ : xSg} {b : Nat} {C : String} {y : MethodName} {bytes : ByteArray} {maxL index d : Nat} {ret : Option FieldType} {Tc : List Cond} {a1 a2 a3 : Value} {post : xSg → Prop} (hM : xCv l D cl tys NW wf y Tc d [.ref b, a1, a2, a3] σ post) (q0 : Nat) {fs : List Value} {ci : Nat} {T : u_T} {N : Nat} (he : (wf σ)[q0]? = some (b, .inr (ci, fs))) (hc : cl[ci]? = some (C, T, N)) (cw : CallW R s args own C index y bytes maxL ret Tc { frames := d, cells := 0, slots := 0, locals := 40 * d } 0 0 3) (dd : decode cc pc = .ok (.invokevirtual index, 3)) (hroom : (st.map fun v => v.category).sum ≤ 8) (hcs : cells ≤ R.cells ∧ slots ≤ R.slots) (k : ∀ (u : xSg), post u → xJ p l e R s m args below meth c cells slots Q D cl A nL (va_S A s.heap) (wf u) (vs) (pc + 3) (st)) : xJ p l e R s m args below meth c cells slots Q D cl A nL (va_S A s.heap) (wf σ) (vs) (pc) (a3 :: a2 :: a1 :: .ref b :: st) := fun H locs ls hP hD hS hl => by
  have hFc := x_free hD hS G.2.2.2.2.2.2.2
  refine va_callv (va_runV (As := [a1, a2, a3]) (rest := st) ⟨G.1, G.2.1, G.2.2.1, G.2.2.2.1, G.2.2.2.2.1⟩ (hM H.size) cw ⟨fun a U g mk q => by obtain ⟨q0, q1, qP, qK, qN, qD⟩ := q; exact ⟨q0, q1, qP, va_K.moved (u := U) (U := U.calling g mk a) (Vm.Alike.refl U.vm) qK, fun c hc => ⟨(qN c hc).1, nest_same (s := U) (U := U.calling g mk a) (qN c hc).1 rfl (qN c hc).2⟩, qD⟩, va_recv G.2.2.2.2.2.1 hP hc he, fun U hU hW => ⟨rfl, by rw [hU], by rw [hU]; exact hP, va_K.moved hW.alike G.2.2.2.2.2.1, fun c hc => ⟨(G.2.2.2.2.2.2.1 c hc).1, nest_warm (G.2.2.2.2.2.2.1 c hc).1 hW (G.2.2.2.2.2.2.1 c hc).2⟩, hD.weaken (fun _ _ _ _ => trivial)⟩⟩ rfl rfl hl.1 rfl (lv_room hroom) dd ⟨hcs.1, hcs.2⟩) hS (fun q _ h => hFc q h) hFc (fun u t H1 locs1 ht hvm hw hB hz1 hk1 hS1 => ?_)
  obtain ⟨hP1, hD1⟩ := hB
  rw [ht] at hP1
  exact k u hw H1 locs1 ls hP1 (hD1.weaken (fun _ q _ h => hFc q.1 h)) hS1 hl
theorem x_callVN3i (G : xG p s m args c cc nL own Ts NW D cl tys A) {wf : xSg → va_W} {σ : xSg} {b : Nat} {C : String} {host : String} {y : MethodName} {bytes : ByteArray} {maxL index d : Nat} {ret : Option FieldType} {Tc : List Cond} {a1 a2 a3 : Value} {post : Int32 → xSg → Prop} (hM : xCi l D cl tys NW wf y Tc d [.ref b, a1, a2, a3] σ post) (q0 : Nat) {fs : List Value} {ci : Nat} {T : u_T} {N : Nat} (he : (wf σ)[q0]? = some (b, .inr (ci, fs))) (hc : cl[ci]? = some (C, T, N)) (cw : (va_CN R s args own index y host bytes maxL ret Tc { frames := d, cells := 0, slots := 0, locals := 40 * d } 0 0 3 ∧ (Cond.instanceMethod y).before args s = true ∧ (Cond.selects C y y).before args s = true)) (dd : decode cc pc = .ok (.invokevirtual index, 3)) (hroom : (st.map fun v => v.category).sum ≤ 8) (hcs : cells ≤ R.cells ∧ slots ≤ R.slots) (k : ∀ (r : Int32) (u : xSg), post r u → xJ p l e R s m args below meth c cells slots Q D cl A nL (va_S A s.heap) (wf u) (vs) (pc + 3) (.int r :: st)) : xJ p l e R s m args below meth c cells slots Q D cl A nL (va_S A s.heap) (wf σ) (vs) (pc) (a3 :: a2 :: a1 :: .ref b :: st) := fun H locs ls hP hD hS hl => by
  have hFc := x_free hD hS G.2.2.2.2.2.2.2
  refine va_calli (va_runVN (As := [a1, a2, a3]) (rest := st) ⟨G.1, G.2.1, G.2.2.1, G.2.2.2.1, G.2.2.2.2.1⟩ (hM H.size) cw ⟨fun a U g mk q => by obtain ⟨q0, q1, qP, qK, qN, qD⟩ := q; exact ⟨q0, q1, qP, va_K.moved (u := U) (U := U.calling g mk a) (Vm.Alike.refl U.vm) qK, fun c hc => ⟨(qN c hc).1, nest_same (s := U) (U := U.calling g mk a) (qN c hc).1 rfl (qN c hc).2⟩, qD⟩, va_recv G.2.2.2.2.2.1 hP hc he, fun U hU hW => ⟨rfl, by rw [hU], by rw [hU]; exact hP, va_K.moved hW.alike G.2.2.2.2.2.1, fun c hc => ⟨(G.2.2.2.2.2.2.1 c hc).1, nest_warm (G.2.2.2.2.2.2.1 c hc).1 hW (G.2.2.2.2.2.2.1 c hc).2⟩, hD.weaken (fun _ _ _ _ => trivial)⟩⟩ rfl rfl hl.1 rfl (lv_room hroom) dd ⟨hcs.1, hcs.2⟩) hS (fun q _ h => hFc q h) hFc (fun r u t H1 locs1 ht hvm hw hB hz1 hk1 hS1 => ?_)
  obtain ⟨hP1, hD1⟩ := hB
  rw [ht] at hP1
  exact k r u hw H1 locs1 ls hP1 (hD1.weaken (fun _ q _ h => hFc q.1 h)) hS1 hl
theorem x_callVN3l (G : xG p s m args c cc nL own Ts NW D cl tys A) {wf : xSg → va_W} {σ : xSg} {b : Nat} {C : String} {host : String} {y : MethodName} {bytes : ByteArray} {maxL index d : Nat} {ret : Option FieldType} {Tc : List Cond} {a1 a2 a3 : Value} {post : Int64 → xSg → Prop} (hM : xCl l D cl tys NW wf y Tc d [.ref b, a1, a2, a3] σ post) (q0 : Nat) {fs : List Value} {ci : Nat} {T : u_T} {N : Nat} (he : (wf σ)[q0]? = some (b, .inr (ci, fs))) (hc : cl[ci]? = some (C, T, N)) (cw : (va_CN R s args own index y host bytes maxL ret Tc { frames := d, cells := 0, slots := 0, locals := 40 * d } 0 0 3 ∧ (Cond.instanceMethod y).before args s = true ∧ (Cond.selects C y y).before args s = true)) (dd : decode cc pc = .ok (.invokevirtual index, 3)) (hroom : (st.map fun v => v.category).sum ≤ 8) (hcs : cells ≤ R.cells ∧ slots ≤ R.slots) (k : ∀ (r : Int64) (u : xSg), post r u → xJ p l e R s m args below meth c cells slots Q D cl A nL (va_S A s.heap) (wf u) (vs) (pc + 3) (.long r :: st)) : xJ p l e R s m args below meth c cells slots Q D cl A nL (va_S A s.heap) (wf σ) (vs) (pc) (a3 :: a2 :: a1 :: .ref b :: st) := fun H locs ls hP hD hS hl => by
  have hFc := x_free hD hS G.2.2.2.2.2.2.2
  refine va_calll (va_runVN (As := [a1, a2, a3]) (rest := st) ⟨G.1, G.2.1, G.2.2.1, G.2.2.2.1, G.2.2.2.2.1⟩ (hM H.size) cw ⟨fun a U g mk q => by obtain ⟨q0, q1, qP, qK, qN, qD⟩ := q; exact ⟨q0, q1, qP, va_K.moved (u := U) (U := U.calling g mk a) (Vm.Alike.refl U.vm) qK, fun c hc => ⟨(qN c hc).1, nest_same (s := U) (U := U.calling g mk a) (qN c hc).1 rfl (qN c hc).2⟩, qD⟩, va_recv G.2.2.2.2.2.1 hP hc he, fun U hU hW => ⟨rfl, by rw [hU], by rw [hU]; exact hP, va_K.moved hW.alike G.2.2.2.2.2.1, fun c hc => ⟨(G.2.2.2.2.2.2.1 c hc).1, nest_warm (G.2.2.2.2.2.2.1 c hc).1 hW (G.2.2.2.2.2.2.1 c hc).2⟩, hD.weaken (fun _ _ _ _ => trivial)⟩⟩ rfl rfl hl.1 rfl (lv_room hroom) dd ⟨hcs.1, hcs.2⟩) hS (fun q _ h => hFc q h) hFc (fun r u t H1 locs1 ht hvm hw hB hz1 hk1 hS1 => ?_)
  obtain ⟨hP1, hD1⟩ := hB
  rw [ht] at hP1
  exact k r u hw H1 locs1 ls hP1 (hD1.weaken (fun _ q _ h => hFc q.1 h)) hS1 hl
theorem x_callVN3v (G : xG p s m args c cc nL own Ts NW D cl tys A) {wf : xSg → va_W} {σ : xSg} {b : Nat} {C : String} {host : String} {y : MethodName} {bytes : ByteArray} {maxL index d : Nat} {ret : Option FieldType} {Tc : List Cond} {a1 a2 a3 : Value} {post : xSg → Prop} (hM : xCv l D cl tys NW wf y Tc d [.ref b, a1, a2, a3] σ post) (q0 : Nat) {fs : List Value} {ci : Nat} {T : u_T} {N : Nat} (he : (wf σ)[q0]? = some (b, .inr (ci, fs))) (hc : cl[ci]? = some (C, T, N)) (cw : (va_CN R s args own index y host bytes maxL ret Tc { frames := d, cells := 0, slots := 0, locals := 40 * d } 0 0 3 ∧ (Cond.instanceMethod y).before args s = true ∧ (Cond.selects C y y).before args s = true)) (dd : decode cc pc = .ok (.invokevirtual index, 3)) (hroom : (st.map fun v => v.category).sum ≤ 8) (hcs : cells ≤ R.cells ∧ slots ≤ R.slots) (k : ∀ (u : xSg), post u → xJ p l e R s m args below meth c cells slots Q D cl A nL (va_S A s.heap) (wf u) (vs) (pc + 3) (st)) : xJ p l e R s m args below meth c cells slots Q D cl A nL (va_S A s.heap) (wf σ) (vs) (pc) (a3 :: a2 :: a1 :: .ref b :: st) := fun H locs ls hP hD hS hl => by
  have hFc := x_free hD hS G.2.2.2.2.2.2.2
  refine va_callv (va_runVN (As := [a1, a2, a3]) (rest := st) ⟨G.1, G.2.1, G.2.2.1, G.2.2.2.1, G.2.2.2.2.1⟩ (hM H.size) cw ⟨fun a U g mk q => by obtain ⟨q0, q1, qP, qK, qN, qD⟩ := q; exact ⟨q0, q1, qP, va_K.moved (u := U) (U := U.calling g mk a) (Vm.Alike.refl U.vm) qK, fun c hc => ⟨(qN c hc).1, nest_same (s := U) (U := U.calling g mk a) (qN c hc).1 rfl (qN c hc).2⟩, qD⟩, va_recv G.2.2.2.2.2.1 hP hc he, fun U hU hW => ⟨rfl, by rw [hU], by rw [hU]; exact hP, va_K.moved hW.alike G.2.2.2.2.2.1, fun c hc => ⟨(G.2.2.2.2.2.2.1 c hc).1, nest_warm (G.2.2.2.2.2.2.1 c hc).1 hW (G.2.2.2.2.2.2.1 c hc).2⟩, hD.weaken (fun _ _ _ _ => trivial)⟩⟩ rfl rfl hl.1 rfl (lv_room hroom) dd ⟨hcs.1, hcs.2⟩) hS (fun q _ h => hFc q h) hFc (fun u t H1 locs1 ht hvm hw hB hz1 hk1 hS1 => ?_)
  obtain ⟨hP1, hD1⟩ := hB
  rw [ht] at hP1
  exact k u hw H1 locs1 ls hP1 (hD1.weaken (fun _ q _ h => hFc q.1 h)) hS1 hl
theorem x_callS3i (G : xG p s m args c cc nL own Ts NW D cl tys A) {wf : xSg → va_W} {σ : xSg} {y : MethodName} {bytes : ByteArray} {maxL index d : Nat} {ret : Option FieldType} {Tc : List Cond} {a1 a2 a3 : Value} {post : Int32 → xSg → Prop} (hM : xCi l D cl tys NW wf y Tc d [a1, a2, a3] σ post) (cw : (CallB R s args own index y bytes maxL ret Tc { frames := d, cells := 0, slots := 0, locals := 40 * d } 0 0 3 ∧ (Cond.static y).before args s = true)) (dd : decode cc pc = .ok (.invokestatic index, 3)) (hroom : (st.map fun v => v.category).sum ≤ 8) (hcs : cells ≤ R.cells ∧ slots ≤ R.slots) (k : ∀ (r : Int32) (u : xSg), post r u → xJ p l e R s m args below meth c cells slots Q D cl A nL (va_S A s.heap) (wf u) (vs) (pc + 3) (.int r :: st)) : xJ p l e R s m args below meth c cells slots Q D cl A nL (va_S A s.heap) (wf σ) (vs) (pc) (a3 :: a2 :: a1 :: st) := fun H locs ls hP hD hS hl => by
  have hFc := x_free hD hS G.2.2.2.2.2.2.2
  refine va_calli (va_runS (As := [a1, a2, a3]) (rest := st) ⟨G.1, G.2.1, G.2.2.1, G.2.2.2.1, G.2.2.2.2.1⟩ (hM H.size) cw ⟨fun a U g mk q => by obtain ⟨q0, q1, qP, qK, qN, qD⟩ := q; exact ⟨q0, q1, qP, va_K.moved (u := U) (U := U.calling g mk a) (Vm.Alike.refl U.vm) qK, fun c hc => ⟨(qN c hc).1, nest_same (s := U) (U := U.calling g mk a) (qN c hc).1 rfl (qN c hc).2⟩, qD⟩, fun U hU hW => ⟨rfl, by rw [hU], by rw [hU]; exact hP, va_K.moved hW.alike G.2.2.2.2.2.1, fun c hc => ⟨(G.2.2.2.2.2.2.1 c hc).1, nest_warm (G.2.2.2.2.2.2.1 c hc).1 hW (G.2.2.2.2.2.2.1 c hc).2⟩, hD.weaken (fun _ _ _ _ => trivial)⟩⟩ rfl rfl hl.1 rfl (lv_room hroom) dd ⟨hcs.1, hcs.2⟩) hS (fun q _ h => hFc q h) hFc (fun r u t H1 locs1 ht hvm hw hB hz1 hk1 hS1 => ?_)
  obtain ⟨hP1, hD1⟩ := hB
  rw [ht] at hP1
  exact k r u hw H1 locs1 ls hP1 (hD1.weaken (fun _ q _ h => hFc q.1 h)) hS1 hl
theorem x_callS3l (G : xG p s m args c cc nL own Ts NW D cl tys A) {wf : xSg → va_W} {σ : xSg} {y : MethodName} {bytes : ByteArray} {maxL index d : Nat} {ret : Option FieldType} {Tc : List Cond} {a1 a2 a3 : Value} {post : Int64 → xSg → Prop} (hM : xCl l D cl tys NW wf y Tc d [a1, a2, a3] σ post) (cw : (CallB R s args own index y bytes maxL ret Tc { frames := d, cells := 0, slots := 0, locals := 40 * d } 0 0 3 ∧ (Cond.static y).before args s = true)) (dd : decode cc pc = .ok (.invokestatic index, 3)) (hroom : (st.map fun v => v.category).sum ≤ 8) (hcs : cells ≤ R.cells ∧ slots ≤ R.slots) (k : ∀ (r : Int64) (u : xSg), post r u → xJ p l e R s m args below meth c cells slots Q D cl A nL (va_S A s.heap) (wf u) (vs) (pc + 3) (.long r :: st)) : xJ p l e R s m args below meth c cells slots Q D cl A nL (va_S A s.heap) (wf σ) (vs) (pc) (a3 :: a2 :: a1 :: st) := fun H locs ls hP hD hS hl => by
  have hFc := x_free hD hS G.2.2.2.2.2.2.2
  refine va_calll (va_runS (As := [a1, a2, a3]) (rest := st) ⟨G.1, G.2.1, G.2.2.1, G.2.2.2.1, G.2.2.2.2.1⟩ (hM H.size) cw ⟨fun a U g mk q => by obtain ⟨q0, q1, qP, qK, qN, qD⟩ := q; exact ⟨q0, q1, qP, va_K.moved (u := U) (U := U.calling g mk a) (Vm.Alike.refl U.vm) qK, fun c hc => ⟨(qN c hc).1, nest_same (s := U) (U := U.calling g mk a) (qN c hc).1 rfl (qN c hc).2⟩, qD⟩, fun U hU hW => ⟨rfl, by rw [hU], by rw [hU]; exact hP, va_K.moved hW.alike G.2.2.2.2.2.1, fun c hc => ⟨(G.2.2.2.2.2.2.1 c hc).1, nest_warm (G.2.2.2.2.2.2.1 c hc).1 hW (G.2.2.2.2.2.2.1 c hc).2⟩, hD.weaken (fun _ _ _ _ => trivial)⟩⟩ rfl rfl hl.1 rfl (lv_room hroom) dd ⟨hcs.1, hcs.2⟩) hS (fun q _ h => hFc q h) hFc (fun r u t H1 locs1 ht hvm hw hB hz1 hk1 hS1 => ?_)
  obtain ⟨hP1, hD1⟩ := hB
  rw [ht] at hP1
  exact k r u hw H1 locs1 ls hP1 (hD1.weaken (fun _ q _ h => hFc q.1 h)) hS1 hl
theorem x_callS3v (G : xG p s m args c cc nL own Ts NW D cl tys A) {wf : xSg → va_W} {σ : xSg} {y : MethodName} {bytes : ByteArray} {maxL index d : Nat} {ret : Option FieldType} {Tc : List Cond} {a1 a2 a3 : Value} {post : xSg → Prop} (hM : xCv l D cl tys NW wf y Tc d [a1, a2, a3] σ post) (cw : (CallB R s args own index y bytes maxL ret Tc { frames := d, cells := 0, slots := 0, locals := 40 * d } 0 0 3 ∧ (Cond.static y).before args s = true)) (dd : decode cc pc = .ok (.invokestatic index, 3)) (hroom : (st.map fun v => v.category).sum ≤ 8) (hcs : cells ≤ R.cells ∧ slots ≤ R.slots) (k : ∀ (u : xSg), post u → xJ p l e R s m args below meth c cells slots Q D cl A nL (va_S A s.heap) (wf u) (vs) (pc + 3) (st)) : xJ p l e R s m args below meth c cells slots Q D cl A nL (va_S A s.heap) (wf σ) (vs) (pc) (a3 :: a2 :: a1 :: st) := fun H locs ls hP hD hS hl => by
  have hFc := x_free hD hS G.2.2.2.2.2.2.2
  refine va_callv (va_runS (As := [a1, a2, a3]) (rest := st) ⟨G.1, G.2.1, G.2.2.1, G.2.2.2.1, G.2.2.2.2.1⟩ (hM H.size) cw ⟨fun a U g mk q => by obtain ⟨q0, q1, qP, qK, qN, qD⟩ := q; exact ⟨q0, q1, qP, va_K.moved (u := U) (U := U.calling g mk a) (Vm.Alike.refl U.vm) qK, fun c hc => ⟨(qN c hc).1, nest_same (s := U) (U := U.calling g mk a) (qN c hc).1 rfl (qN c hc).2⟩, qD⟩, fun U hU hW => ⟨rfl, by rw [hU], by rw [hU]; exact hP, va_K.moved hW.alike G.2.2.2.2.2.1, fun c hc => ⟨(G.2.2.2.2.2.2.1 c hc).1, nest_warm (G.2.2.2.2.2.2.1 c hc).1 hW (G.2.2.2.2.2.2.1 c hc).2⟩, hD.weaken (fun _ _ _ _ => trivial)⟩⟩ rfl rfl hl.1 rfl (lv_room hroom) dd ⟨hcs.1, hcs.2⟩) hS (fun q _ h => hFc q h) hFc (fun u t H1 locs1 ht hvm hw hB hz1 hk1 hS1 => ?_)
  obtain ⟨hP1, hD1⟩ := hB
  rw [ht] at hP1
  exact k u hw H1 locs1 ls hP1 (hD1.weaken (fun _ q _ h => hFc q.1 h)) hS1 hl
theorem x_callSN3i (G : xG p s m args c cc nL own Ts NW D cl tys A) {wf : xSg → va_W} {σ : xSg} {host : String} {y : MethodName} {bytes : ByteArray} {maxL index d : Nat} {ret : Option FieldType} {Tc : List Cond} {a1 a2 a3 : Value} {post : Int32 → xSg → Prop} (hM : xCi l D cl tys NW wf y Tc d [a1, a2, a3] σ post) (cw : (va_CN R s args own index y host bytes maxL ret Tc { frames := d, cells := 0, slots := 0, locals := 40 * d } 0 0 3 ∧ (Cond.static y).before args s = true ∧ True)) (dd : decode cc pc = .ok (.invokestatic index, 3)) (hroom : (st.map fun v => v.category).sum ≤ 8) (hcs : cells ≤ R.cells ∧ slots ≤ R.slots) (k : ∀ (r : Int32) (u : xSg), post r u → xJ p l e R s m args below meth c cells slots Q D cl A nL (va_S A s.heap) (wf u) (vs) (pc + 3) (.int r :: st)) : xJ p l e R s m args below meth c cells slots Q D cl A nL (va_S A s.heap) (wf σ) (vs) (pc) (a3 :: a2 :: a1 :: st) := fun H locs ls hP hD hS hl => by
  have hFc := x_free hD hS G.2.2.2.2.2.2.2
  refine va_calli (va_runSN (As := [a1, a2, a3]) (rest := st) ⟨G.1, G.2.1, G.2.2.1, G.2.2.2.1, G.2.2.2.2.1⟩ (hM H.size) cw ⟨fun a U g mk q => by obtain ⟨q0, q1, qP, qK, qN, qD⟩ := q; exact ⟨q0, q1, qP, va_K.moved (u := U) (U := U.calling g mk a) (Vm.Alike.refl U.vm) qK, fun c hc => ⟨(qN c hc).1, nest_same (s := U) (U := U.calling g mk a) (qN c hc).1 rfl (qN c hc).2⟩, qD⟩, fun U hU hW => ⟨rfl, by rw [hU], by rw [hU]; exact hP, va_K.moved hW.alike G.2.2.2.2.2.1, fun c hc => ⟨(G.2.2.2.2.2.2.1 c hc).1, nest_warm (G.2.2.2.2.2.2.1 c hc).1 hW (G.2.2.2.2.2.2.1 c hc).2⟩, hD.weaken (fun _ _ _ _ => trivial)⟩⟩ rfl rfl hl.1 rfl (lv_room hroom) dd ⟨hcs.1, hcs.2⟩) hS (fun q _ h => hFc q h) hFc (fun r u t H1 locs1 ht hvm hw hB hz1 hk1 hS1 => ?_)
  obtain ⟨hP1, hD1⟩ := hB
  rw [ht] at hP1
  exact k r u hw H1 locs1 ls hP1 (hD1.weaken (fun _ q _ h => hFc q.1 h)) hS1 hl
theorem x_callSN3l (G : xG p s m args c cc nL own Ts NW D cl tys A) {wf : xSg → va_W} {σ : xSg} {host : String} {y : MethodName} {bytes : ByteArray} {maxL index d : Nat} {ret : Option FieldType} {Tc : List Cond} {a1 a2 a3 : Value} {post : Int64 → xSg → Prop} (hM : xCl l D cl tys NW wf y Tc d [a1, a2, a3] σ post) (cw : (va_CN R s args own index y host bytes maxL ret Tc { frames := d, cells := 0, slots := 0, locals := 40 * d } 0 0 3 ∧ (Cond.static y).before args s = true ∧ True)) (dd : decode cc pc = .ok (.invokestatic index, 3)) (hroom : (st.map fun v => v.category).sum ≤ 8) (hcs : cells ≤ R.cells ∧ slots ≤ R.slots) (k : ∀ (r : Int64) (u : xSg), post r u → xJ p l e R s m args below meth c cells slots Q D cl A nL (va_S A s.heap) (wf u) (vs) (pc + 3) (.long r :: st)) : xJ p l e R s m args below meth c cells slots Q D cl A nL (va_S A s.heap) (wf σ) (vs) (pc) (a3 :: a2 :: a1 :: st) := fun H locs ls hP hD hS hl => by
  have hFc := x_free hD hS G.2.2.2.2.2.2.2
  refine va_calll (va_runSN (As := [a1, a2, a3]) (rest := st) ⟨G.1, G.2.1, G.2.2.1, G.2.2.2.1, G.2.2.2.2.1⟩ (hM H.size) cw ⟨fun a U g mk q => by obtain ⟨q0, q1, qP, qK, qN, qD⟩ := q; exact ⟨q0, q1, qP, va_K.moved (u := U) (U := U.calling g mk a) (Vm.Alike.refl U.vm) qK, fun c hc => ⟨(qN c hc).1, nest_same (s := U) (U := U.calling g mk a) (qN c hc).1 rfl (qN c hc).2⟩, qD⟩, fun U hU hW => ⟨rfl, by rw [hU], by rw [hU]; exact hP, va_K.moved hW.alike G.2.2.2.2.2.1, fun c hc => ⟨(G.2.2.2.2.2.2.1 c hc).1, nest_warm (G.2.2.2.2.2.2.1 c hc).1 hW (G.2.2.2.2.2.2.1 c hc).2⟩, hD.weaken (fun _ _ _ _ => trivial)⟩⟩ rfl rfl hl.1 rfl (lv_room hroom) dd ⟨hcs.1, hcs.2⟩) hS (fun q _ h => hFc q h) hFc (fun r u t H1 locs1 ht hvm hw hB hz1 hk1 hS1 => ?_)
  obtain ⟨hP1, hD1⟩ := hB
  rw [ht] at hP1
  exact k r u hw H1 locs1 ls hP1 (hD1.weaken (fun _ q _ h => hFc q.1 h)) hS1 hl
theorem x_callSN3v (G : xG p s m args c cc nL own Ts NW D cl tys A) {wf : xSg → va_W} {σ : xSg} {host : String} {y : MethodName} {bytes : ByteArray} {maxL index d : Nat} {ret : Option FieldType} {Tc : List Cond} {a1 a2 a3 : Value} {post : xSg → Prop} (hM : xCv l D cl tys NW wf y Tc d [a1, a2, a3] σ post) (cw : (va_CN R s args own index y host bytes maxL ret Tc { frames := d, cells := 0, slots := 0, locals := 40 * d } 0 0 3 ∧ (Cond.static y).before args s = true ∧ True)) (dd : decode cc pc = .ok (.invokestatic index, 3)) (hroom : (st.map fun v => v.category).sum ≤ 8) (hcs : cells ≤ R.cells ∧ slots ≤ R.slots) (k : ∀ (u : xSg), post u → xJ p l e R s m args below meth c cells slots Q D cl A nL (va_S A s.heap) (wf u) (vs) (pc + 3) (st)) : xJ p l e R s m args below meth c cells slots Q D cl A nL (va_S A s.heap) (wf σ) (vs) (pc) (a3 :: a2 :: a1 :: st) := fun H locs ls hP hD hS hl => by
  have hFc := x_free hD hS G.2.2.2.2.2.2.2
  refine va_callv (va_runSN (As := [a1, a2, a3]) (rest := st) ⟨G.1, G.2.1, G.2.2.1, G.2.2.2.1, G.2.2.2.2.1⟩ (hM H.size) cw ⟨fun a U g mk q => by obtain ⟨q0, q1, qP, qK, qN, qD⟩ := q; exact ⟨q0, q1, qP, va_K.moved (u := U) (U := U.calling g mk a) (Vm.Alike.refl U.vm) qK, fun c hc => ⟨(qN c hc).1, nest_same (s := U) (U := U.calling g mk a) (qN c hc).1 rfl (qN c hc).2⟩, qD⟩, fun U hU hW => ⟨rfl, by rw [hU], by rw [hU]; exact hP, va_K.moved hW.alike G.2.2.2.2.2.1, fun c hc => ⟨(G.2.2.2.2.2.2.1 c hc).1, nest_warm (G.2.2.2.2.2.2.1 c hc).1 hW (G.2.2.2.2.2.2.1 c hc).2⟩, hD.weaken (fun _ _ _ _ => trivial)⟩⟩ rfl rfl hl.1 rfl (lv_room hroom) dd ⟨hcs.1, hcs.2⟩) hS (fun q _ h => hFc q h) hFc (fun u t H1 locs1 ht hvm hw hB hz1 hk1 hS1 => ?_)
  obtain ⟨hP1, hD1⟩ := hB
  rw [ht] at hP1
  exact k u hw H1 locs1 ls hP1 (hD1.weaken (fun _ q _ h => hFc q.1 h)) hS1 hl
theorem x_callV4i (G : xG p s m args c cc nL own Ts NW D cl tys A) {wf : xSg → va_W} {σ : xSg} {b : Nat} {C : String} {y : MethodName} {bytes : ByteArray} {maxL index d : Nat} {ret : Option FieldType} {Tc : List Cond} {a1 a2 a3 a4 : Value} {post : Int32 → xSg → Prop} (hM : xCi l D cl tys NW wf y Tc d [.ref b, a1, a2, a3, a4] σ post) (q0 : Nat) {fs : List Value} {ci : Nat} {T : u_T} {N : Nat} (he : (wf σ)[q0]? = some (b, .inr (ci, fs))) (hc : cl[ci]? = some (C, T, N)) (cw : CallW R s args own C index y bytes maxL ret Tc { frames := d, cells := 0, slots := 0, locals := 40 * d } 0 0 4) (dd : decode cc pc = .ok (.invokevirtual index, 3)) (hroom : (st.map fun v => v.category).sum ≤ 8) (hcs : cells ≤ R.cells ∧ slots ≤ R.slots) (k : ∀ (r : Int32) (u : xSg), post r u → xJ p l e R s m args below meth c cells slots Q D cl A nL (va_S A s.heap) (wf u) (vs) (pc + 3) (.int r :: st)) : xJ p l e R s m args below meth c cells slots Q D cl A nL (va_S A s.heap) (wf σ) (vs) (pc) (a4 :: a3 :: a2 :: a1 :: .ref b :: st) := fun H locs ls hP hD hS hl => by
  have hFc := x_free hD hS G.2.2.2.2.2.2.2
  refine va_calli (va_runV (As := [a1, a2, a3, a4]) (rest := st) ⟨G.1, G.2.1, G.2.2.1, G.2.2.2.1, G.2.2.2.2.1⟩ (hM H.size) cw ⟨fun a U g mk q => by obtain ⟨q0, q1, qP, qK, qN, qD⟩ := q; exact ⟨q0, q1, qP, va_K.moved (u := U) (U := U.calling g mk a) (Vm.Alike.refl U.vm) qK, fun c hc => ⟨(qN c hc).1, nest_same (s := U) (U := U.calling g mk a) (qN c hc).1 rfl (qN c hc).2⟩, qD⟩, va_recv G.2.2.2.2.2.1 hP hc he, fun U hU hW => ⟨rfl, by rw [hU], by rw [hU]; exact hP, va_K.moved hW.alike G.2.2.2.2.2.1, fun c hc => ⟨(G.2.2.2.2.2.2.1 c hc).1, nest_warm (G.2.2.2.2.2.2.1 c hc).1 hW (G.2.2.2.2.2.2.1 c hc).2⟩, hD.weaken (fun _ _ _ _ => trivial)⟩⟩ rfl rfl hl.1 rfl (lv_room hroom) dd ⟨hcs.1, hcs.2⟩) hS (fun q _ h => hFc q h) hFc (fun r u t H1 locs1 ht hvm hw hB hz1 hk1 hS1 => ?_)
  obtain ⟨hP1, hD1⟩ := hB
  rw [ht] at hP1
  exact k r u hw H1 locs1 ls hP1 (hD1.weaken (fun _ q _ h => hFc q.1 h)) hS1 hl
theorem x_callV4l (G : xG p s m args c cc nL own Ts NW D cl tys A) {wf : xSg → va_W} {σ : xSg} {b : Nat} {C : String} {y : MethodName} {bytes : ByteArray} {maxL index d : Nat} {ret : Option FieldType} {Tc : List Cond} {a1 a2 a3 a4 : Value} {post : Int64 → xSg → Prop} (hM : xCl l D cl tys NW wf y Tc d [.ref b, a1, a2, a3, a4] σ post) (q0 : Nat) {fs : List Value} {ci : Nat} {T : u_T} {N : Nat} (he : (wf σ)[q0]? = some (b, .inr (ci, fs))) (hc : cl[ci]? = some (C, T, N)) (cw : CallW R s args own C index y bytes maxL ret Tc { frames := d, cells := 0, slots := 0, locals := 40 * d } 0 0 4) (dd : decode cc pc = .ok (.invokevirtual index, 3)) (hroom : (st.map fun v => v.category).sum ≤ 8) (hcs : cells ≤ R.cells ∧ slots ≤ R.slots) (k : ∀ (r : Int64) (u : xSg), post r u → xJ p l e R s m args below meth c cells slots Q D cl A nL (va_S A s.heap) (wf u) (vs) (pc + 3) (.long r :: st)) : xJ p l e R s m args below meth c cells slots Q D cl A nL (va_S A s.heap) (wf σ) (vs) (pc) (a4 :: a3 :: a2 :: a1 :: .ref b :: st) := fun H locs ls hP hD hS hl => by
  have hFc := x_free hD hS G.2.2.2.2.2.2.2
  refine va_calll (va_runV (As := [a1, a2, a3, a4]) (rest := st) ⟨G.1, G.2.1, G.2.2.1, G.2.2.2.1, G.2.2.2.2.1⟩ (hM H.size) cw ⟨fun a U g mk q => by obtain ⟨q0, q1, qP, qK, qN, qD⟩ := q; exact ⟨q0, q1, qP, va_K.moved (u := U) (U := U.calling g mk a) (Vm.Alike.refl U.vm) qK, fun c hc => ⟨(qN c hc).1, nest_same (s := U) (U := U.calling g mk a) (qN c hc).1 rfl (qN c hc).2⟩, qD⟩, va_recv G.2.2.2.2.2.1 hP hc he, fun U hU hW => ⟨rfl, by rw [hU], by rw [hU]; exact hP, va_K.moved hW.alike G.2.2.2.2.2.1, fun c hc => ⟨(G.2.2.2.2.2.2.1 c hc).1, nest_warm (G.2.2.2.2.2.2.1 c hc).1 hW (G.2.2.2.2.2.2.1 c hc).2⟩, hD.weaken (fun _ _ _ _ => trivial)⟩⟩ rfl rfl hl.1 rfl (lv_room hroom) dd ⟨hcs.1, hcs.2⟩) hS (fun q _ h => hFc q h) hFc (fun r u t H1 locs1 ht hvm hw hB hz1 hk1 hS1 => ?_)
  obtain ⟨hP1, hD1⟩ := hB
  rw [ht] at hP1
  exact k r u hw H1 locs1 ls hP1 (hD1.weaken (fun _ q _ h => hFc q.1 h)) hS1 hl
theorem x_callV4v (G : xG p s m args c cc nL own Ts NW D cl tys A) {wf : xSg → va_W} {σ : xSg} {b : Nat} {C : String} {y : MethodName} {bytes : ByteArray} {maxL index d : Nat} {ret : Option FieldType} {Tc : List Cond} {a1 a2 a3 a4 : Value} {post : xSg → Prop} (hM : xCv l D cl tys NW wf y Tc d [.ref b, a1, a2, a3, a4] σ post) (q0 : Nat) {fs : List Value} {ci : Nat} {T : u_T} {N : Nat} (he : (wf σ)[q0]? = some (b, .inr (ci, fs))) (hc : cl[ci]? = some (C, T, N)) (cw : CallW R s args own C index y bytes maxL ret Tc { frames := d, cells := 0, slots := 0, locals := 40 * d } 0 0 4) (dd : decode cc pc = .ok (.invokevirtual index, 3)) (hroom : (st.map fun v => v.category).sum ≤ 8) (hcs : cells ≤ R.cells ∧ slots ≤ R.slots) (k : ∀ (u : xSg), post u → xJ p l e R s m args below meth c cells slots Q D cl A nL (va_S A s.heap) (wf u) (vs) (pc + 3) (st)) : xJ p l e R s m args below meth c cells slots Q D cl A nL (va_S A s.heap) (wf σ) (vs) (pc) (a4 :: a3 :: a2 :: a1 :: .ref b :: st) := fun H locs ls hP hD hS hl => by
  have hFc := x_free hD hS G.2.2.2.2.2.2.2
  refine va_callv (va_runV (As := [a1, a2, a3, a4]) (rest := st) ⟨G.1, G.2.1, G.2.2.1, G.2.2.2.1, G.2.2.2.2.1⟩ (hM H.size) cw ⟨fun a U g mk q => by obtain ⟨q0, q1, qP, qK, qN, qD⟩ := q; exact ⟨q0, q1, qP, va_K.moved (u := U) (U := U.calling g mk a) (Vm.Alike.refl U.vm) qK, fun c hc => ⟨(qN c hc).1, nest_same (s := U) (U := U.calling g mk a) (qN c hc).1 rfl (qN c hc).2⟩, qD⟩, va_recv G.2.2.2.2.2.1 hP hc he, fun U hU hW => ⟨rfl, by rw [hU], by rw [hU]; exact hP, va_K.moved hW.alike G.2.2.2.2.2.1, fun c hc => ⟨(G.2.2.2.2.2.2.1 c hc).1, nest_warm (G.2.2.2.2.2.2.1 c hc).1 hW (G.2.2.2.2.2.2.1 c hc).2⟩, hD.weaken (fun _ _ _ _ => trivial)⟩⟩ rfl rfl hl.1 rfl (lv_room hroom) dd ⟨hcs.1, hcs.2⟩) hS (fun q _ h => hFc q h) hFc (fun u t H1 locs1 ht hvm hw hB hz1 hk1 hS1 => ?_)
  obtain ⟨hP1, hD1⟩ := hB
  rw [ht] at hP1
  exact k u hw H1 locs1 ls hP1 (hD1.weaken (fun _ q _ h => hFc q.1 h)) hS1 hl
theorem x_callVN4i (G : xG p s m args c cc nL own Ts NW D cl tys A) {wf : xSg → va_W} {σ : xSg} {b : Nat} {C : String} {host : String} {y : MethodName} {bytes : ByteArray} {maxL index d : Nat} {ret : Option FieldType} {Tc : List Cond} {a1 a2 a3 a4 : Value} {post : Int32 → xSg → Prop} (hM : xCi l D cl tys NW wf y Tc d [.ref b, a1, a2, a3, a4] σ post) (q0 : Nat) {fs : List Value} {ci : Nat} {T : u_T} {N : Nat} (he : (wf σ)[q0]? = some (b, .inr (ci, fs))) (hc : cl[ci]? = some (C, T, N)) (cw : (va_CN R s args own index y host bytes maxL ret Tc { frames := d, cells := 0, slots := 0, locals := 40 * d } 0 0 4 ∧ (Cond.instanceMethod y).before args s = true ∧ (Cond.selects C y y).before args s = true)) (dd : decode cc pc = .ok (.invokevirtual index, 3)) (hroom : (st.map fun v => v.category).sum ≤ 8) (hcs : cells ≤ R.cells ∧ slots ≤ R.slots) (k : ∀ (r : Int32) (u : xSg), post r u → xJ p l e R s m args below meth c cells slots Q D cl A nL (va_S A s.heap) (wf u) (vs) (pc + 3) (.int r :: st)) : xJ p l e R s m args below meth c cells slots Q D cl A nL (va_S A s.heap) (wf σ) (vs) (pc) (a4 :: a3 :: a2 :: a1 :: .ref b :: st) := fun H locs ls hP hD hS hl => by
  have hFc := x_free hD hS G.2.2.2.2.2.2.2
  refine va_calli (va_runVN (As := [a1, a2, a3, a4]) (rest := st) ⟨G.1, G.2.1, G.2.2.1, G.2.2.2.1, G.2.2.2.2.1⟩ (hM H.size) cw ⟨fun a U g mk q => by obtain ⟨q0, q1, qP, qK, qN, qD⟩ := q; exact ⟨q0, q1, qP, va_K.moved (u := U) (U := U.calling g mk a) (Vm.Alike.refl U.vm) qK, fun c hc => ⟨(qN c hc).1, nest_same (s := U) (U := U.calling g mk a) (qN c hc).1 rfl (qN c hc).2⟩, qD⟩, va_recv G.2.2.2.2.2.1 hP hc he, fun U hU hW => ⟨rfl, by rw [hU], by rw [hU]; exact hP, va_K.moved hW.alike G.2.2.2.2.2.1, fun c hc => ⟨(G.2.2.2.2.2.2.1 c hc).1, nest_warm (G.2.2.2.2.2.2.1 c hc).1 hW (G.2.2.2.2.2.2.1 c hc).2⟩, hD.weaken (fun _ _ _ _ => trivial)⟩⟩ rfl rfl hl.1 rfl (lv_room hroom) dd ⟨hcs.1, hcs.2⟩) hS (fun q _ h => hFc q h) hFc (fun r u t H1 locs1 ht hvm hw hB hz1 hk1 hS1 => ?_)
  obtain ⟨hP1, hD1⟩ := hB
  rw [ht] at hP1
  exact k r u hw H1 locs1 ls hP1 (hD1.weaken (fun _ q _ h => hFc q.1 h)) hS1 hl
theorem x_callVN4l (G : xG p s m args c cc nL own Ts NW D cl tys A) {wf : xSg → va_W} {σ : xSg} {b : Nat} {C : String} {host : String} {y : MethodName} {bytes : ByteArray} {maxL index d : Nat} {ret : Option FieldType} {Tc : List Cond} {a1 a2 a3 a4 : Value} {post : Int64 → xSg → Prop} (hM : xCl l D cl tys NW wf y Tc d [.ref b, a1, a2, a3, a4] σ post) (q0 : Nat) {fs : List Value} {ci : Nat} {T : u_T} {N : Nat} (he : (wf σ)[q0]? = some (b, .inr (ci, fs))) (hc : cl[ci]? = some (C, T, N)) (cw : (va_CN R s args own index y host bytes maxL ret Tc { frames := d, cells := 0, slots := 0, locals := 40 * d } 0 0 4 ∧ (Cond.instanceMethod y).before args s = true ∧ (Cond.selects C y y).before args s = true)) (dd : decode cc pc = .ok (.invokevirtual index, 3)) (hroom : (st.map fun v => v.category).sum ≤ 8) (hcs : cells ≤ R.cells ∧ slots ≤ R.slots) (k : ∀ (r : Int64) (u : xSg), post r u → xJ p l e R s m args below meth c cells slots Q D cl A nL (va_S A s.heap) (wf u) (vs) (pc + 3) (.long r :: st)) : xJ p l e R s m args below meth c cells slots Q D cl A nL (va_S A s.heap) (wf σ) (vs) (pc) (a4 :: a3 :: a2 :: a1 :: .ref b :: st) := fun H locs ls hP hD hS hl => by
  have hFc := x_free hD hS G.2.2.2.2.2.2.2
  refine va_calll (va_runVN (As := [a1, a2, a3, a4]) (rest := st) ⟨G.1, G.2.1, G.2.2.1, G.2.2.2.1, G.2.2.2.2.1⟩ (hM H.size) cw ⟨fun a U g mk q => by obtain ⟨q0, q1, qP, qK, qN, qD⟩ := q; exact ⟨q0, q1, qP, va_K.moved (u := U) (U := U.calling g mk a) (Vm.Alike.refl U.vm) qK, fun c hc => ⟨(qN c hc).1, nest_same (s := U) (U := U.calling g mk a) (qN c hc).1 rfl (qN c hc).2⟩, qD⟩, va_recv G.2.2.2.2.2.1 hP hc he, fun U hU hW => ⟨rfl, by rw [hU], by rw [hU]; exact hP, va_K.moved hW.alike G.2.2.2.2.2.1, fun c hc => ⟨(G.2.2.2.2.2.2.1 c hc).1, nest_warm (G.2.2.2.2.2.2.1 c hc).1 hW (G.2.2.2.2.2.2.1 c hc).2⟩, hD.weaken (fun _ _ _ _ => trivial)⟩⟩ rfl rfl hl.1 rfl (lv_room hroom) dd ⟨hcs.1, hcs.2⟩) hS (fun q _ h => hFc q h) hFc (fun r u t H1 locs1 ht hvm hw hB hz1 hk1 hS1 => ?_)
  obtain ⟨hP1, hD1⟩ := hB
  rw [ht] at hP1
  exact k r u hw H1 locs1 ls hP1 (hD1.weaken (fun _ q _ h => hFc q.1 h)) hS1 hl
theorem x_callVN4v (G : xG p s m args c cc nL own Ts NW D cl tys A) {wf : xSg → va_W} {σ : xSg} {b : Nat} {C : String} {host : String} {y : MethodName} {bytes : ByteArray} {maxL index d : Nat} {ret : Option FieldType} {Tc : List Cond} {a1 a2 a3 a4 : Value} {post : xSg → Prop} (hM : xCv l D cl tys NW wf y Tc d [.ref b, a1, a2, a3, a4] σ post) (q0 : Nat) {fs : List Value} {ci : Nat} {T : u_T} {N : Nat} (he : (wf σ)[q0]? = some (b, .inr (ci, fs))) (hc : cl[ci]? = some (C, T, N)) (cw : (va_CN R s args own index y host bytes maxL ret Tc { frames := d, cells := 0, slots := 0, locals := 40 * d } 0 0 4 ∧ (Cond.instanceMethod y).before args s = true ∧ (Cond.selects C y y).before args s = true)) (dd : decode cc pc = .ok (.invokevirtual index, 3)) (hroom : (st.map fun v => v.category).sum ≤ 8) (hcs : cells ≤ R.cells ∧ slots ≤ R.slots) (k : ∀ (u : xSg), post u → xJ p l e R s m args below meth c cells slots Q D cl A nL (va_S A s.heap) (wf u) (vs) (pc + 3) (st)) : xJ p l e R s m args below meth c cells slots Q D cl A nL (va_S A s.heap) (wf σ) (vs) (pc) (a4 :: a3 :: a2 :: a1 :: .ref b :: st) := fun H locs ls hP hD hS hl => by
  have hFc := x_free hD hS G.2.2.2.2.2.2.2
  refine va_callv (va_runVN (As := [a1, a2, a3, a4]) (rest := st) ⟨G.1, G.2.1, G.2.2.1, G.2.2.2.1, G.2.2.2.2.1⟩ (hM H.size) cw ⟨fun a U g mk q => by obtain ⟨q0, q1, qP, qK, qN, qD⟩ := q; exact ⟨q0, q1, qP, va_K.moved (u := U) (U := U.calling g mk a) (Vm.Alike.refl U.vm) qK, fun c hc => ⟨(qN c hc).1, nest_same (s := U) (U := U.calling g mk a) (qN c hc).1 rfl (qN c hc).2⟩, qD⟩, va_recv G.2.2.2.2.2.1 hP hc he, fun U hU hW => ⟨rfl, by rw [hU], by rw [hU]; exact hP, va_K.moved hW.alike G.2.2.2.2.2.1, fun c hc => ⟨(G.2.2.2.2.2.2.1 c hc).1, nest_warm (G.2.2.2.2.2.2.1 c hc).1 hW (G.2.2.2.2.2.2.1 c hc).2⟩, hD.weaken (fun _ _ _ _ => trivial)⟩⟩ rfl rfl hl.1 rfl (lv_room hroom) dd ⟨hcs.1, hcs.2⟩) hS (fun q _ h => hFc q h) hFc (fun u t H1 locs1 ht hvm hw hB hz1 hk1 hS1 => ?_)
  obtain ⟨hP1, hD1⟩ := hB
  rw [ht] at hP1
  exact k u hw H1 locs1 ls hP1 (hD1.weaken (fun _ q _ h => hFc q.1 h)) hS1 hl
theorem x_callS4i (G : xG p s m args c cc nL own Ts NW D cl tys A) {wf : xSg → va_W} {σ : xSg} {y : MethodName} {bytes : ByteArray} {maxL index d : Nat} {ret : Option FieldType} {Tc : List Cond} {a1 a2 a3 a4 : Value} {post : Int32 → xSg → Prop} (hM : xCi l D cl tys NW wf y Tc d [a1, a2, a3, a4] σ post) (cw : (CallB R s args own index y bytes maxL ret Tc { frames := d, cells := 0, slots := 0, locals := 40 * d } 0 0 4 ∧ (Cond.static y).before args s = true)) (dd : decode cc pc = .ok (.invokestatic index, 3)) (hroom : (st.map fun v => v.category).sum ≤ 8) (hcs : cells ≤ R.cells ∧ slots ≤ R.slots) (k : ∀ (r : Int32) (u : xSg), post r u → xJ p l e R s m args below meth c cells slots Q D cl A nL (va_S A s.heap) (wf u) (vs) (pc + 3) (.int r :: st)) : xJ p l e R s m args below meth c cells slots Q D cl A nL (va_S A s.heap) (wf σ) (vs) (pc) (a4 :: a3 :: a2 :: a1 :: st) := fun H locs ls hP hD hS hl => by
  have hFc := x_free hD hS G.2.2.2.2.2.2.2
  refine va_calli (va_runS (As := [a1, a2, a3, a4]) (rest := st) ⟨G.1, G.2.1, G.2.2.1, G.2.2.2.1, G.2.2.2.2.1⟩ (hM H.size) cw ⟨fun a U g mk q => by obtain ⟨q0, q1, qP, qK, qN, qD⟩ := q; exact ⟨q0, q1, qP, va_K.moved (u := U) (U := U.calling g mk a) (Vm.Alike.refl U.vm) qK, fun c hc => ⟨(qN c hc).1, nest_same (s := U) (U := U.calling g mk a) (qN c hc).1 rfl (qN c hc).2⟩, qD⟩, fun U hU hW => ⟨rfl, by rw [hU], by rw [hU]; exact hP, va_K.moved hW.alike G.2.2.2.2.2.1, fun c hc => ⟨(G.2.2.2.2.2.2.1 c hc).1, nest_warm (G.2.2.2.2.2.2.1 c hc).1 hW (G.2.2.2.2.2.2.1 c hc).2⟩, hD.weaken (fun _ _ _ _ => trivial)⟩⟩ rfl rfl hl.1 rfl (lv_room hroom) dd ⟨hcs.1, hcs.2⟩) hS (fun q _ h => hFc q h) hFc (fun r u t H1 locs1 ht hvm hw hB hz1 hk1 hS1 => ?_)
  obtain ⟨hP1, hD1⟩ := hB
  rw [ht] at hP1
  exact k r u hw H1 locs1 ls hP1 (hD1.weaken (fun _ q _ h => hFc q.1 h)) hS1 hl
theorem x_callS4l (G : xG p s m args c cc nL own Ts NW D cl tys A) {wf : xSg → va_W} {σ : xSg} {y : MethodName} {bytes : ByteArray} {maxL index d : Nat} {ret : Option FieldType} {Tc : List Cond} {a1 a2 a3 a4 : Value} {post : Int64 → xSg → Prop} (hM : xCl l D cl tys NW wf y Tc d [a1, a2, a3, a4] σ post) (cw : (CallB R s args own index y bytes maxL ret Tc { frames := d, cells := 0, slots := 0, locals := 40 * d } 0 0 4 ∧ (Cond.static y).before args s = true)) (dd : decode cc pc = .ok (.invokestatic index, 3)) (hroom : (st.map fun v => v.category).sum ≤ 8) (hcs : cells ≤ R.cells ∧ slots ≤ R.slots) (k : ∀ (r : Int64) (u : xSg), post r u → xJ p l e R s m args below meth c cells slots Q D cl A nL (va_S A s.heap) (wf u) (vs) (pc + 3) (.long r :: st)) : xJ p l e R s m args below meth c cells slots Q D cl A nL (va_S A s.heap) (wf σ) (vs) (pc) (a4 :: a3 :: a2 :: a1 :: st) := fun H locs ls hP hD hS hl => by
  have hFc := x_free hD hS G.2.2.2.2.2.2.2
  refine va_calll (va_runS (As := [a1, a2, a3, a4]) (rest := st) ⟨G.1, G.2.1, G.2.2.1, G.2.2.2.1, G.2.2.2.2.1⟩ (hM H.size) cw ⟨fun a U g mk q => by obtain ⟨q0, q1, qP, qK, qN, qD⟩ := q; exact ⟨q0, q1, qP, va_K.moved (u := U) (U := U.calling g mk a) (Vm.Alike.refl U.vm) qK, fun c hc => ⟨(qN c hc).1, nest_same (s := U) (U := U.calling g mk a) (qN c hc).1 rfl (qN c hc).2⟩, qD⟩, fun U hU hW => ⟨rfl, by rw [hU], by rw [hU]; exact hP, va_K.moved hW.alike G.2.2.2.2.2.1, fun c hc => ⟨(G.2.2.2.2.2.2.1 c hc).1, nest_warm (G.2.2.2.2.2.2.1 c hc).1 hW (G.2.2.2.2.2.2.1 c hc).2⟩, hD.weaken (fun _ _ _ _ => trivial)⟩⟩ rfl rfl hl.1 rfl (lv_room hroom) dd ⟨hcs.1, hcs.2⟩) hS (fun q _ h => hFc q h) hFc (fun r u t H1 locs1 ht hvm hw hB hz1 hk1 hS1 => ?_)
  obtain ⟨hP1, hD1⟩ := hB
  rw [ht] at hP1
  exact k r u hw H1 locs1 ls hP1 (hD1.weaken (fun _ q _ h => hFc q.1 h)) hS1 hl
theorem x_callS4v (G : xG p s m args c cc nL own Ts NW D cl tys A) {wf : xSg → va_W} {σ : xSg} {y : MethodName} {bytes : ByteArray} {maxL index d : Nat} {ret : Option FieldType} {Tc : List Cond} {a1 a2 a3 a4 : Value} {post : xSg → Prop} (hM : xCv l D cl tys NW wf y Tc d [a1, a2, a3, a4] σ post) (cw : (CallB R s args own index y bytes maxL ret Tc { frames := d, cells := 0, slots := 0, locals := 40 * d } 0 0 4 ∧ (Cond.static y).before args s = true)) (dd : decode cc pc = .ok (.invokestatic index, 3)) (hroom : (st.map fun v => v.category).sum ≤ 8) (hcs : cells ≤ R.cells ∧ slots ≤ R.slots) (k : ∀ (u : xSg), post u → xJ p l e R s m args below meth c cells slots Q D cl A nL (va_S A s.heap) (wf u) (vs) (pc + 3) (st)) : xJ p l e R s m args below meth c cells slots Q D cl A nL (va_S A s.heap) (wf σ) (vs) (pc) (a4 :: a3 :: a2 :: a1 :: st) := fun H locs ls hP hD hS hl => by
  have hFc := x_free hD hS G.2.2.2.2.2.2.2
  refine va_callv (va_runS (As := [a1, a2, a3, a4]) (rest := st) ⟨G.1, G.2.1, G.2.2.1, G.2.2.2.1, G.2.2.2.2.1⟩ (hM H.size) cw ⟨fun a U g mk q => by obtain ⟨q0, q1, qP, qK, qN, qD⟩ := q; exact ⟨q0, q1, qP, va_K.moved (u := U) (U := U.calling g mk a) (Vm.Alike.refl U.vm) qK, fun c hc => ⟨(qN c hc).1, nest_same (s := U) (U := U.calling g mk a) (qN c hc).1 rfl (qN c hc).2⟩, qD⟩, fun U hU hW => ⟨rfl, by rw [hU], by rw [hU]; exact hP, va_K.moved hW.alike G.2.2.2.2.2.1, fun c hc => ⟨(G.2.2.2.2.2.2.1 c hc).1, nest_warm (G.2.2.2.2.2.2.1 c hc).1 hW (G.2.2.2.2.2.2.1 c hc).2⟩, hD.weaken (fun _ _ _ _ => trivial)⟩⟩ rfl rfl hl.1 rfl (lv_room hroom) dd ⟨hcs.1, hcs.2⟩) hS (fun q _ h => hFc q h) hFc (fun u t H1 locs1 ht hvm hw hB hz1 hk1 hS1 => ?_)
  obtain ⟨hP1, hD1⟩ := hB
  rw [ht] at hP1
  exact k u hw H1 locs1 ls hP1 (hD1.weaken (fun _ q _ h => hFc q.1 h)) hS1 hl
theorem x_callSN4i (G : xG p s m args c cc nL own Ts NW D cl tys A) {wf : xSg → va_W} {σ : xSg} {host : String} {y : MethodName} {bytes : ByteArray} {maxL index d : Nat} {ret : Option FieldType} {Tc : List Cond} {a1 a2 a3 a4 : Value} {post : Int32 → xSg → Prop} (hM : xCi l D cl tys NW wf y Tc d [a1, a2, a3, a4] σ post) (cw : (va_CN R s args own index y host bytes maxL ret Tc { frames := d, cells := 0, slots := 0, locals := 40 * d } 0 0 4 ∧ (Cond.static y).before args s = true ∧ True)) (dd : decode cc pc = .ok (.invokestatic index, 3)) (hroom : (st.map fun v => v.category).sum ≤ 8) (hcs : cells ≤ R.cells ∧ slots ≤ R.slots) (k : ∀ (r : Int32) (u : xSg), post r u → xJ p l e R s m args below meth c cells slots Q D cl A nL (va_S A s.heap) (wf u) (vs) (pc + 3) (.int r :: st)) : xJ p l e R s m args below meth c cells slots Q D cl A nL (va_S A s.heap) (wf σ) (vs) (pc) (a4 :: a3 :: a2 :: a1 :: st) := fun H locs ls hP hD hS hl => by
  have hFc := x_free hD hS G.2.2.2.2.2.2.2
  refine va_calli (va_runSN (As := [a1, a2, a3, a4]) (rest := st) ⟨G.1, G.2.1, G.2.2.1, G.2.2.2.1, G.2.2.2.2.1⟩ (hM H.size) cw ⟨fun a U g mk q => by obtain ⟨q0, q1, qP, qK, qN, qD⟩ := q; exact ⟨q0, q1, qP, va_K.moved (u := U) (U := U.calling g mk a) (Vm.Alike.refl U.vm) qK, fun c hc => ⟨(qN c hc).1, nest_same (s := U) (U := U.calling g mk a) (qN c hc).1 rfl (qN c hc).2⟩, qD⟩, fun U hU hW => ⟨rfl, by rw [hU], by rw [hU]; exact hP, va_K.moved hW.alike G.2.2.2.2.2.1, fun c hc => ⟨(G.2.2.2.2.2.2.1 c hc).1, nest_warm (G.2.2.2.2.2.2.1 c hc).1 hW (G.2.2.2.2.2.2.1 c hc).2⟩, hD.weaken (fun _ _ _ _ => trivial)⟩⟩ rfl rfl hl.1 rfl (lv_room hroom) dd ⟨hcs.1, hcs.2⟩) hS (fun q _ h => hFc q h) hFc (fun r u t H1 locs1 ht hvm hw hB hz1 hk1 hS1 => ?_)
  obtain ⟨hP1, hD1⟩ := hB
  rw [ht] at hP1
  exact k r u hw H1 locs1 ls hP1 (hD1.weaken (fun _ q _ h => hFc q.1 h)) hS1 hl
theorem x_callSN4l (G : xG p s m args c cc nL own Ts NW D cl tys A) {wf : xSg → va_W} {σ : xSg} {host : String} {y : MethodName} {bytes : ByteArray} {maxL index d : Nat} {ret : Option FieldType} {Tc : List Cond} {a1 a2 a3 a4 : Value} {post : Int64 → xSg → Prop} (hM : xCl l D cl tys NW wf y Tc d [a1, a2, a3, a4] σ post) (cw : (va_CN R s args own index y host bytes maxL ret Tc { frames := d, cells := 0, slots := 0, locals := 40 * d } 0 0 4 ∧ (Cond.static y).before args s = true ∧ True)) (dd : decode cc pc = .ok (.invokestatic index, 3)) (hroom : (st.map fun v => v.category).sum ≤ 8) (hcs : cells ≤ R.cells ∧ slots ≤ R.slots) (k : ∀ (r : Int64) (u : xSg), post r u → xJ p l e R s m args below meth c cells slots Q D cl A nL (va_S A s.heap) (wf u) (vs) (pc + 3) (.long r :: st)) : xJ p l e R s m args below meth c cells slots Q D cl A nL (va_S A s.heap) (wf σ) (vs) (pc) (a4 :: a3 :: a2 :: a1 :: st) := fun H locs ls hP hD hS hl => by
  have hFc := x_free hD hS G.2.2.2.2.2.2.2
  refine va_calll (va_runSN (As := [a1, a2, a3, a4]) (rest := st) ⟨G.1, G.2.1, G.2.2.1, G.2.2.2.1, G.2.2.2.2.1⟩ (hM H.size) cw ⟨fun a U g mk q => by obtain ⟨q0, q1, qP, qK, qN, qD⟩ := q; exact ⟨q0, q1, qP, va_K.moved (u := U) (U := U.calling g mk a) (Vm.Alike.refl U.vm) qK, fun c hc => ⟨(qN c hc).1, nest_same (s := U) (U := U.calling g mk a) (qN c hc).1 rfl (qN c hc).2⟩, qD⟩, fun U hU hW => ⟨rfl, by rw [hU], by rw [hU]; exact hP, va_K.moved hW.alike G.2.2.2.2.2.1, fun c hc => ⟨(G.2.2.2.2.2.2.1 c hc).1, nest_warm (G.2.2.2.2.2.2.1 c hc).1 hW (G.2.2.2.2.2.2.1 c hc).2⟩, hD.weaken (fun _ _ _ _ => trivial)⟩⟩ rfl rfl hl.1 rfl (lv_room hroom) dd ⟨hcs.1, hcs.2⟩) hS (fun q _ h => hFc q h) hFc (fun r u t H1 locs1 ht hvm hw hB hz1 hk1 hS1 => ?_)
  obtain ⟨hP1, hD1⟩ := hB
  rw [ht] at hP1
  exact k r u hw H1 locs1 ls hP1 (hD1.weaken (fun _ q _ h => hFc q.1 h)) hS1 hl
theorem x_callSN4v (G : xG p s m args c cc nL own Ts NW D cl tys A) {wf : xSg → va_W} {σ : xSg} {host : String} {y : MethodName} {bytes : ByteArray} {maxL index d : Nat} {ret : Option FieldType} {Tc : List Cond} {a1 a2 a3 a4 : Value} {post : xSg → Prop} (hM : xCv l D cl tys NW wf y Tc d [a1, a2, a3, a4] σ post) (cw : (va_CN R s args own index y host bytes maxL ret Tc { frames := d, cells := 0, slots := 0, locals := 40 * d } 0 0 4 ∧ (Cond.static y).before args s = true ∧ True)) (dd : decode cc pc = .ok (.invokestatic index, 3)) (hroom : (st.map fun v => v.category).sum ≤ 8) (hcs : cells ≤ R.cells ∧ slots ≤ R.slots) (k : ∀ (u : xSg), post u → xJ p l e R s m args below meth c cells slots Q D cl A nL (va_S A s.heap) (wf u) (vs) (pc + 3) (st)) : xJ p l e R s m args below meth c cells slots Q D cl A nL (va_S A s.heap) (wf σ) (vs) (pc) (a4 :: a3 :: a2 :: a1 :: st) := fun H locs ls hP hD hS hl => by
  have hFc := x_free hD hS G.2.2.2.2.2.2.2
  refine va_callv (va_runSN (As := [a1, a2, a3, a4]) (rest := st) ⟨G.1, G.2.1, G.2.2.1, G.2.2.2.1, G.2.2.2.2.1⟩ (hM H.size) cw ⟨fun a U g mk q => by obtain ⟨q0, q1, qP, qK, qN, qD⟩ := q; exact ⟨q0, q1, qP, va_K.moved (u := U) (U := U.calling g mk a) (Vm.Alike.refl U.vm) qK, fun c hc => ⟨(qN c hc).1, nest_same (s := U) (U := U.calling g mk a) (qN c hc).1 rfl (qN c hc).2⟩, qD⟩, fun U hU hW => ⟨rfl, by rw [hU], by rw [hU]; exact hP, va_K.moved hW.alike G.2.2.2.2.2.1, fun c hc => ⟨(G.2.2.2.2.2.2.1 c hc).1, nest_warm (G.2.2.2.2.2.2.1 c hc).1 hW (G.2.2.2.2.2.2.1 c hc).2⟩, hD.weaken (fun _ _ _ _ => trivial)⟩⟩ rfl rfl hl.1 rfl (lv_room hroom) dd ⟨hcs.1, hcs.2⟩) hS (fun q _ h => hFc q h) hFc (fun u t H1 locs1 ht hvm hw hB hz1 hk1 hS1 => ?_)
  obtain ⟨hP1, hD1⟩ := hB
  rw [ht] at hP1
  exact k u hw H1 locs1 ls hP1 (hD1.weaken (fun _ q _ h => hFc q.1 h)) hS1 hl
theorem x_samei {H : Heap} {locs : List Loc} {ls : Array Slot} {st0 : List Value} {a : Array Value} {post : Int32 → Prop} (hr : va_Run p l e R s m args below meth c H locs cells slots 0 0 (F0 m pc ls st0) st (vp_Si post a) (fun _ => False)) (kk : ∀ r : Int32, post r → W p l e R s m args below meth c H locs cells slots Q (F0 m (pc + 3) ls (.int r :: st))) : W p l e R s m args below meth c H locs cells slots Q (F0 m pc ls st0) := by
  intro T hT Y
  obtain ⟨v, st₀, t, T', L, h0, Y', hL, e1, -, ⟨r, ho, hp, hh⟩, go⟩ := hr T hT Y
  cases ho
  obtain ⟨t', a1, b1⟩ := kk r hp T' (by rw [e1, hh, h0]) (Stand.forget Y' (fun q h => (hL q h).elim))
  exact ⟨t', go t' a1, b1⟩
theorem x_samel {H : Heap} {locs : List Loc} {ls : Array Slot} {st0 : List Value} {a : Array Value} {post : Int64 → Prop} (hr : va_Run p l e R s m args below meth c H locs cells slots 0 0 (F0 m pc ls st0) st (vp_Sl post a) (fun _ => False)) (kk : ∀ r : Int64, post r → W p l e R s m args below meth c H locs cells slots Q (F0 m (pc + 3) ls (.long r :: st))) : W p l e R s m args below meth c H locs cells slots Q (F0 m pc ls st0) := by
  intro T hT Y
  obtain ⟨v, st₀, t, T', L, h0, Y', hL, e1, -, ⟨r, ho, hp, hh⟩, go⟩ := hr T hT Y
  cases ho
  obtain ⟨t', a1, b1⟩ := kk r hp T' (by rw [e1, hh, h0]) (Stand.forget Y' (fun q h => (hL q h).elim))
  exact ⟨t', go t' a1, b1⟩
def xCi0 (l : Launch) (D : va_G) (cl : List vw_C) (tys : List (ClassId × FieldType)) (NW : List Cond) (ws : va_W) (y : MethodName) (Ts : List Cond) (d : Nat) (as : List Value) (post : Int32 → Prop) : Prop := Met l y Ts { frames := d, cells := 0, slots := 0, locals := 40 * d } (va_Pc as (fun U => va_P D cl ws U.heap ∧ va_K D cl tys U ∧ (∀ c ∈ NW, isNest c = true ∧ va_Nw c U) ∧ va_D (fun _ => True) ws)) (vp_Si post) 0 0 (fun _ => False)
theorem x_ret0i (G : xG p s m args c cc nL own Ts NW D cl tys A) {post : Int32 → Prop} {v : Int32} {rt : FieldType} (hr : meth.sig.returnType = some rt) (hlk : meth.locks = false) (hn : narrow rt (.int v) = .int v) (d : decode cc pc = .ok (.ireturn, 1)) (hp : post v) : xJ p l e R s m args below meth c 0 0 (MQ below (vp_Si post) args s 0 0 (fun _ => False)) D cl A nL (fun H locs => H = s.heap ∧ locs = []) ws vs pc [.int v] := fun H locs ls hP hD hS hl => W.zret G.1 G.2.1 hr hn (fun t ht hW => ⟨v, rfl, hp, ht.trans hS.1⟩) (fun q hq => by rw [hS.2] at hq; cases hq) d hlk
theorem xCi0.of {y : MethodName} {d : Nat} {as : List Value} {post : Int32 → Prop} {ret : Option FieldType} {Ts' : List Cond} (hT : Ts = Cond.code y cc nL ret :: Ts') (hy : plainName y.cls = true) (vs : List Value) (hvs : asL vs = lv_args 0 as) (hlen : (lg_sl as).length ≤ nL)
    (body : ∀ (p : Program) (e : Env) (s : State) (m : MethodId) (args : Array Value) (below : List Frame) (meth : Method) (c : Code) (A : Nat → Prop), xG p s m args c cc nL y.cls Ts NW D cl tys A → meth.sig.returnType = ret → meth.locks = false → xJ p l e { frames := d, cells := 0, slots := 0, locals := 40 * d } s m args below meth c 0 0 (MQ below (vp_Si post) args s 0 0 (fun _ => False)) D cl A nL (fun H locs => H = s.heap ∧ locs = []) ws vs 0 []) : xCi0 l D cl tys NW ws y Ts d as post := by
  refine Met.ofW (cc := cc) (maxL := nL) (ret := ret) hy hT ?_
  intro p e s m args below meth c s₁ B hml hv
  obtain ⟨rfl, hP, hK, hN, hD0⟩ := hv
  have hD := hD0.self (sz := s.heap.size)
  have hl := lv_entry as (n := nL) hlen
  rw [lg_entry_eq]
  generalize (lg_sl as ++ List.replicate (nL - (lg_sl as).length) Slot.unset).toArray = ls at hl ⊢
  rw [← hvs] at hl
  exact body p e s m _ below meth c (va_A ws s.heap.size) ⟨B.exec, B.bytes, hml, findClass_of_methodNamed B.named, atoms_spec (ws := Ts) B.pre, hK, hN, fun q h => Or.inr h⟩ B.returns B.notSynchronized s.heap [] ls hP hD ⟨rfl, rfl⟩ (xLV.of hl)
def xCl0 (l : Launch) (D : va_G) (cl : List vw_C) (tys : List (ClassId × FieldType)) (NW : List Cond) (ws : va_W) (y : MethodName) (Ts : List Cond) (d : Nat) (as : List Value) (post : Int64 → Prop) : Prop := Met l y Ts { frames := d, cells := 0, slots := 0, locals := 40 * d } (va_Pc as (fun U => va_P D cl ws U.heap ∧ va_K D cl tys U ∧ (∀ c ∈ NW, isNest c = true ∧ va_Nw c U) ∧ va_D (fun _ => True) ws)) (vp_Sl post) 0 0 (fun _ => False)
theorem x_ret0l (G : xG p s m args c cc nL own Ts NW D cl tys A) {post : Int64 → Prop} {v : Int64} (hr : meth.sig.returnType = some .long) (hlk : meth.locks = false) (d : decode cc pc = .ok (.lreturn, 1)) (hp : post v) : xJ p l e R s m args below meth c 0 0 (MQ below (vp_Sl post) args s 0 0 (fun _ => False)) D cl A nL (fun H locs => H = s.heap ∧ locs = []) ws vs pc [.long v] := fun H locs ls hP hD hS hl => W.lret G.1 G.2.1 hr (fun t ht hW => ⟨v, rfl, hp, ht.trans hS.1⟩) (fun q hq => by rw [hS.2] at hq; cases hq) d hlk
theorem xCl0.of {y : MethodName} {d : Nat} {as : List Value} {post : Int64 → Prop} {ret : Option FieldType} {Ts' : List Cond} (hT : Ts = Cond.code y cc nL ret :: Ts') (hy : plainName y.cls = true) (vs : List Value) (hvs : asL vs = lv_args 0 as) (hlen : (lg_sl as).length ≤ nL)
    (body : ∀ (p : Program) (e : Env) (s : State) (m : MethodId) (args : Array Value) (below : List Frame) (meth : Method) (c : Code) (A : Nat → Prop), xG p s m args c cc nL y.cls Ts NW D cl tys A → meth.sig.returnType = ret → meth.locks = false → xJ p l e { frames := d, cells := 0, slots := 0, locals := 40 * d } s m args below meth c 0 0 (MQ below (vp_Sl post) args s 0 0 (fun _ => False)) D cl A nL (fun H locs => H = s.heap ∧ locs = []) ws vs 0 []) : xCl0 l D cl tys NW ws y Ts d as post := by
  refine Met.ofW (cc := cc) (maxL := nL) (ret := ret) hy hT ?_
  intro p e s m args below meth c s₁ B hml hv
  obtain ⟨rfl, hP, hK, hN, hD0⟩ := hv
  have hD := hD0.self (sz := s.heap.size)
  have hl := lv_entry as (n := nL) hlen
  rw [lg_entry_eq]
  generalize (lg_sl as ++ List.replicate (nL - (lg_sl as).length) Slot.unset).toArray = ls at hl ⊢
  rw [← hvs] at hl
  exact body p e s m _ below meth c (va_A ws s.heap.size) ⟨B.exec, B.bytes, hml, findClass_of_methodNamed B.named, atoms_spec (ws := Ts) B.pre, hK, hN, fun q h => Or.inr h⟩ B.returns B.notSynchronized s.heap [] ls hP hD ⟨rfl, rfl⟩ (xLV.of hl)
theorem x_weakS {S' : Heap → List Loc → Prop} (h : ∀ H locs, S H locs → S' H locs) (k : xJ p l e R s m args below meth c cells slots Q D cl A nL (S') (ws) (vs) (pc) (st)) : xJ p l e R s m args below meth c cells slots Q D cl A nL (S) (ws) (vs) (pc) (st) := fun H locs ls hP hD hS hl => k H locs ls hP hD (h H locs hS) hl
theorem x_begin (k : xJ p l e R s m args below meth c cells slots Q D cl A nL (va_S A s.heap) (ws) (vs) (pc) (st)) : xJ p l e R s m args below meth c cells slots Q D cl A nL (fun H locs => H = s.heap ∧ locs = []) (ws) (vs) (pc) (st) := x_weakS (fun H locs h => by rw [h.1, h.2]; exact va_S.rf) k
theorem x_call0V0i (G : xG p s m args c cc nL own Ts NW D cl tys A) {b : Nat} {C : String} {y : MethodName} {bytes : ByteArray} {maxL index d : Nat} {ret : Option FieldType} {Tc : List Cond} {post : Int32 → Prop} (hM : xCi0 l D cl tys NW ws y Tc d [.ref b] post) (q0 : Nat) {fs : List Value} {ci : Nat} {T : u_T} {N : Nat} (he : ws[q0]? = some (b, .inr (ci, fs))) (hc : cl[ci]? = some (C, T, N)) (cw : CallW R s args own C index y bytes maxL ret Tc { frames := d, cells := 0, slots := 0, locals := 40 * d } 0 0 0) (dd : decode cc pc = .ok (.invokevirtual index, 3)) (hroom : (st.map fun v => v.category).sum ≤ 8) (hcs : cells ≤ R.cells ∧ slots ≤ R.slots) (k : ∀ r : Int32, post r → xJ p l e R s m args below meth c cells slots Q D cl A nL (S) (ws) (vs) (pc + 3) (.int r :: st)) : xJ p l e R s m args below meth c cells slots Q D cl A nL (S) (ws) (vs) (pc) (.ref b :: st) := fun H locs ls hP hD hS hl => x_samei (va_runV (As := []) (rest := st) ⟨G.1, G.2.1, G.2.2.1, G.2.2.2.1, G.2.2.2.2.1⟩ hM cw ⟨fun a U g mk q => by obtain ⟨q0, qP, qK, qN, qD⟩ := q; exact ⟨q0, qP, va_K.moved (u := U) (U := U.calling g mk a) (Vm.Alike.refl U.vm) qK, fun c hc => ⟨(qN c hc).1, nest_same (s := U) (U := U.calling g mk a) (qN c hc).1 rfl (qN c hc).2⟩, qD⟩, va_recv G.2.2.2.2.2.1 hP hc he, fun U hU hW => ⟨rfl, by rw [hU]; exact hP, va_K.moved hW.alike G.2.2.2.2.2.1, fun c hc => ⟨(G.2.2.2.2.2.2.1 c hc).1, nest_warm (G.2.2.2.2.2.2.1 c hc).1 hW (G.2.2.2.2.2.2.1 c hc).2⟩, hD.weaken (fun _ _ _ _ => trivial)⟩⟩ rfl rfl hl.1 rfl (lv_room hroom) dd ⟨hcs.1, hcs.2⟩) (fun r hr => k r hr H locs ls hP hD hS hl)
theorem x_call0V0l (G : xG p s m args c cc nL own Ts NW D cl tys A) {b : Nat} {C : String} {y : MethodName} {bytes : ByteArray} {maxL index d : Nat} {ret : Option FieldType} {Tc : List Cond} {post : Int64 → Prop} (hM : xCl0 l D cl tys NW ws y Tc d [.ref b] post) (q0 : Nat) {fs : List Value} {ci : Nat} {T : u_T} {N : Nat} (he : ws[q0]? = some (b, .inr (ci, fs))) (hc : cl[ci]? = some (C, T, N)) (cw : CallW R s args own C index y bytes maxL ret Tc { frames := d, cells := 0, slots := 0, locals := 40 * d } 0 0 0) (dd : decode cc pc = .ok (.invokevirtual index, 3)) (hroom : (st.map fun v => v.category).sum ≤ 8) (hcs : cells ≤ R.cells ∧ slots ≤ R.slots) (k : ∀ r : Int64, post r → xJ p l e R s m args below meth c cells slots Q D cl A nL (S) (ws) (vs) (pc + 3) (.long r :: st)) : xJ p l e R s m args below meth c cells slots Q D cl A nL (S) (ws) (vs) (pc) (.ref b :: st) := fun H locs ls hP hD hS hl => x_samel (va_runV (As := []) (rest := st) ⟨G.1, G.2.1, G.2.2.1, G.2.2.2.1, G.2.2.2.2.1⟩ hM cw ⟨fun a U g mk q => by obtain ⟨q0, qP, qK, qN, qD⟩ := q; exact ⟨q0, qP, va_K.moved (u := U) (U := U.calling g mk a) (Vm.Alike.refl U.vm) qK, fun c hc => ⟨(qN c hc).1, nest_same (s := U) (U := U.calling g mk a) (qN c hc).1 rfl (qN c hc).2⟩, qD⟩, va_recv G.2.2.2.2.2.1 hP hc he, fun U hU hW => ⟨rfl, by rw [hU]; exact hP, va_K.moved hW.alike G.2.2.2.2.2.1, fun c hc => ⟨(G.2.2.2.2.2.2.1 c hc).1, nest_warm (G.2.2.2.2.2.2.1 c hc).1 hW (G.2.2.2.2.2.2.1 c hc).2⟩, hD.weaken (fun _ _ _ _ => trivial)⟩⟩ rfl rfl hl.1 rfl (lv_room hroom) dd ⟨hcs.1, hcs.2⟩) (fun r hr => k r hr H locs ls hP hD hS hl)
theorem x_call0VN0i (G : xG p s m args c cc nL own Ts NW D cl tys A) {b : Nat} {C : String} {host : String} {y : MethodName} {bytes : ByteArray} {maxL index d : Nat} {ret : Option FieldType} {Tc : List Cond} {post : Int32 → Prop} (hM : xCi0 l D cl tys NW ws y Tc d [.ref b] post) (q0 : Nat) {fs : List Value} {ci : Nat} {T : u_T} {N : Nat} (he : ws[q0]? = some (b, .inr (ci, fs))) (hc : cl[ci]? = some (C, T, N)) (cw : (va_CN R s args own index y host bytes maxL ret Tc { frames := d, cells := 0, slots := 0, locals := 40 * d } 0 0 0 ∧ (Cond.instanceMethod y).before args s = true ∧ (Cond.selects C y y).before args s = true)) (dd : decode cc pc = .ok (.invokevirtual index, 3)) (hroom : (st.map fun v => v.category).sum ≤ 8) (hcs : cells ≤ R.cells ∧ slots ≤ R.slots) (k : ∀ r : Int32, post r → xJ p l e R s m args below meth c cells slots Q D cl A nL (S) (ws) (vs) (pc + 3) (.int r :: st)) : xJ p l e R s m args below meth c cells slots Q D cl A nL (S) (ws) (vs) (pc) (.ref b :: st) := fun H locs ls hP hD hS hl => x_samei (va_runVN (As := []) (rest := st) ⟨G.1, G.2.1, G.2.2.1, G.2.2.2.1, G.2.2.2.2.1⟩ hM cw ⟨fun a U g mk q => by obtain ⟨q0, qP, qK, qN, qD⟩ := q; exact ⟨q0, qP, va_K.moved (u := U) (U := U.calling g mk a) (Vm.Alike.refl U.vm) qK, fun c hc => ⟨(qN c hc).1, nest_same (s := U) (U := U.calling g mk a) (qN c hc).1 rfl (qN c hc).2⟩, qD⟩, va_recv G.2.2.2.2.2.1 hP hc he, fun U hU hW => ⟨rfl, by rw [hU]; exact hP, va_K.moved hW.alike G.2.2.2.2.2.1, fun c hc => ⟨(G.2.2.2.2.2.2.1 c hc).1, nest_warm (G.2.2.2.2.2.2.1 c hc).1 hW (G.2.2.2.2.2.2.1 c hc).2⟩, hD.weaken (fun _ _ _ _ => trivial)⟩⟩ rfl rfl hl.1 rfl (lv_room hroom) dd ⟨hcs.1, hcs.2⟩) (fun r hr => k r hr H locs ls hP hD hS hl)
theorem x_call0VN0l (G : xG p s m args c cc nL own Ts NW D cl tys A) {b : Nat} {C : String} {host : String} {y : MethodName} {bytes : ByteArray} {maxL index d : Nat} {ret : Option FieldType} {Tc : List Cond} {post : Int64 → Prop} (hM : xCl0 l D cl tys NW ws y Tc d [.ref b] post) (q0 : Nat) {fs : List Value} {ci : Nat} {T : u_T} {N : Nat} (he : ws[q0]? = some (b, .inr (ci, fs))) (hc : cl[ci]? = some (C, T, N)) (cw : (va_CN R s args own index y host bytes maxL ret Tc { frames := d, cells := 0, slots := 0, locals := 40 * d } 0 0 0 ∧ (Cond.instanceMethod y).before args s = true ∧ (Cond.selects C y y).before args s = true)) (dd : decode cc pc = .ok (.invokevirtual index, 3)) (hroom : (st.map fun v => v.category).sum ≤ 8) (hcs : cells ≤ R.cells ∧ slots ≤ R.slots) (k : ∀ r : Int64, post r → xJ p l e R s m args below meth c cells slots Q D cl A nL (S) (ws) (vs) (pc + 3) (.long r :: st)) : xJ p l e R s m args below meth c cells slots Q D cl A nL (S) (ws) (vs) (pc) (.ref b :: st) := fun H locs ls hP hD hS hl => x_samel (va_runVN (As := []) (rest := st) ⟨G.1, G.2.1, G.2.2.1, G.2.2.2.1, G.2.2.2.2.1⟩ hM cw ⟨fun a U g mk q => by obtain ⟨q0, qP, qK, qN, qD⟩ := q; exact ⟨q0, qP, va_K.moved (u := U) (U := U.calling g mk a) (Vm.Alike.refl U.vm) qK, fun c hc => ⟨(qN c hc).1, nest_same (s := U) (U := U.calling g mk a) (qN c hc).1 rfl (qN c hc).2⟩, qD⟩, va_recv G.2.2.2.2.2.1 hP hc he, fun U hU hW => ⟨rfl, by rw [hU]; exact hP, va_K.moved hW.alike G.2.2.2.2.2.1, fun c hc => ⟨(G.2.2.2.2.2.2.1 c hc).1, nest_warm (G.2.2.2.2.2.2.1 c hc).1 hW (G.2.2.2.2.2.2.1 c hc).2⟩, hD.weaken (fun _ _ _ _ => trivial)⟩⟩ rfl rfl hl.1 rfl (lv_room hroom) dd ⟨hcs.1, hcs.2⟩) (fun r hr => k r hr H locs ls hP hD hS hl)
theorem x_call0S0i (G : xG p s m args c cc nL own Ts NW D cl tys A) {y : MethodName} {bytes : ByteArray} {maxL index d : Nat} {ret : Option FieldType} {Tc : List Cond} {post : Int32 → Prop} (hM : xCi0 l D cl tys NW ws y Tc d [] post) (cw : (CallB R s args own index y bytes maxL ret Tc { frames := d, cells := 0, slots := 0, locals := 40 * d } 0 0 0 ∧ (Cond.static y).before args s = true)) (dd : decode cc pc = .ok (.invokestatic index, 3)) (hroom : (st.map fun v => v.category).sum ≤ 8) (hcs : cells ≤ R.cells ∧ slots ≤ R.slots) (k : ∀ r : Int32, post r → xJ p l e R s m args below meth c cells slots Q D cl A nL (S) (ws) (vs) (pc + 3) (.int r :: st)) : xJ p l e R s m args below meth c cells slots Q D cl A nL (S) (ws) (vs) (pc) (st) := fun H locs ls hP hD hS hl => x_samei (va_runS (As := []) (rest := st) ⟨G.1, G.2.1, G.2.2.1, G.2.2.2.1, G.2.2.2.2.1⟩ hM cw ⟨fun a U g mk q => by obtain ⟨q0, qP, qK, qN, qD⟩ := q; exact ⟨q0, qP, va_K.moved (u := U) (U := U.calling g mk a) (Vm.Alike.refl U.vm) qK, fun c hc => ⟨(qN c hc).1, nest_same (s := U) (U := U.calling g mk a) (qN c hc).1 rfl (qN c hc).2⟩, qD⟩, fun U hU hW => ⟨rfl, by rw [hU]; exact hP, va_K.moved hW.alike G.2.2.2.2.2.1, fun c hc => ⟨(G.2.2.2.2.2.2.1 c hc).1, nest_warm (G.2.2.2.2.2.2.1 c hc).1 hW (G.2.2.2.2.2.2.1 c hc).2⟩, hD.weaken (fun _ _ _ _ => trivial)⟩⟩ rfl rfl hl.1 rfl (lv_room hroom) dd ⟨hcs.1, hcs.2⟩) (fun r hr => k r hr H locs ls hP hD hS hl)
theorem x_call0S0l (G : xG p s m args c cc nL own Ts NW D cl tys A) {y : MethodName} {bytes : ByteArray} {maxL index d : Nat} {ret : Option FieldType} {Tc : List Cond} {post : Int64 → Prop} (hM : xCl0 l D cl tys NW ws y Tc d [] post) (cw : (CallB R s args own index y bytes maxL ret Tc { frames := d, cells := 0, slots := 0, locals := 40 * d } 0 0 0 ∧ (Cond.static y).before args s = true)) (dd : decode cc pc = .ok (.invokestatic index, 3)) (hroom : (st.map fun v => v.category).sum ≤ 8) (hcs : cells ≤ R.cells ∧ slots ≤ R.slots) (k : ∀ r : Int64, post r → xJ p l e R s m args below meth c cells slots Q D cl A nL (S) (ws) (vs) (pc + 3) (.long r :: st)) : xJ p l e R s m args below meth c cells slots Q D cl A nL (S) (ws) (vs) (pc) (st) := fun H locs ls hP hD hS hl => x_samel (va_runS (As := []) (rest := st) ⟨G.1, G.2.1, G.2.2.1, G.2.2.2.1, G.2.2.2.2.1⟩ hM cw ⟨fun a U g mk q => by obtain ⟨q0, qP, qK, qN, qD⟩ := q; exact ⟨q0, qP, va_K.moved (u := U) (U := U.calling g mk a) (Vm.Alike.refl U.vm) qK, fun c hc => ⟨(qN c hc).1, nest_same (s := U) (U := U.calling g mk a) (qN c hc).1 rfl (qN c hc).2⟩, qD⟩, fun U hU hW => ⟨rfl, by rw [hU]; exact hP, va_K.moved hW.alike G.2.2.2.2.2.1, fun c hc => ⟨(G.2.2.2.2.2.2.1 c hc).1, nest_warm (G.2.2.2.2.2.2.1 c hc).1 hW (G.2.2.2.2.2.2.1 c hc).2⟩, hD.weaken (fun _ _ _ _ => trivial)⟩⟩ rfl rfl hl.1 rfl (lv_room hroom) dd ⟨hcs.1, hcs.2⟩) (fun r hr => k r hr H locs ls hP hD hS hl)
theorem x_call0SN0i (G : xG p s m args c cc nL own Ts NW D cl tys A) {host : String} {y : MethodName} {bytes : ByteArray} {maxL index d : Nat} {ret : Option FieldType} {Tc : List Cond} {post : Int32 → Prop} (hM : xCi0 l D cl tys NW ws y Tc d [] post) (cw : (va_CN R s args own index y host bytes maxL ret Tc { frames := d, cells := 0, slots := 0, locals := 40 * d } 0 0 0 ∧ (Cond.static y).before args s = true ∧ True)) (dd : decode cc pc = .ok (.invokestatic index, 3)) (hroom : (st.map fun v => v.category).sum ≤ 8) (hcs : cells ≤ R.cells ∧ slots ≤ R.slots) (k : ∀ r : Int32, post r → xJ p l e R s m args below meth c cells slots Q D cl A nL (S) (ws) (vs) (pc + 3) (.int r :: st)) : xJ p l e R s m args below meth c cells slots Q D cl A nL (S) (ws) (vs) (pc) (st) := fun H locs ls hP hD hS hl => x_samei (va_runSN (As := []) (rest := st) ⟨G.1, G.2.1, G.2.2.1, G.2.2.2.1, G.2.2.2.2.1⟩ hM cw ⟨fun a U g mk q => by obtain ⟨q0, qP, qK, qN, qD⟩ := q; exact ⟨q0, qP, va_K.moved (u := U) (U := U.calling g mk a) (Vm.Alike.refl U.vm) qK, fun c hc => ⟨(qN c hc).1, nest_same (s := U) (U := U.calling g mk a) (qN c hc).1 rfl (qN c hc).2⟩, qD⟩, fun U hU hW => ⟨rfl, by rw [hU]; exact hP, va_K.moved hW.alike G.2.2.2.2.2.1, fun c hc => ⟨(G.2.2.2.2.2.2.1 c hc).1, nest_warm (G.2.2.2.2.2.2.1 c hc).1 hW (G.2.2.2.2.2.2.1 c hc).2⟩, hD.weaken (fun _ _ _ _ => trivial)⟩⟩ rfl rfl hl.1 rfl (lv_room hroom) dd ⟨hcs.1, hcs.2⟩) (fun r hr => k r hr H locs ls hP hD hS hl)
theorem x_call0SN0l (G : xG p s m args c cc nL own Ts NW D cl tys A) {host : String} {y : MethodName} {bytes : ByteArray} {maxL index d : Nat} {ret : Option FieldType} {Tc : List Cond} {post : Int64 → Prop} (hM : xCl0 l D cl tys NW ws y Tc d [] post) (cw : (va_CN R s args own index y host bytes maxL ret Tc { frames := d, cells := 0, slots := 0, locals := 40 * d } 0 0 0 ∧ (Cond.static y).before args s = true ∧ True)) (dd : decode cc pc = .ok (.invokestatic index, 3)) (hroom : (st.map fun v => v.category).sum ≤ 8) (hcs : cells ≤ R.cells ∧ slots ≤ R.slots) (k : ∀ r : Int64, post r → xJ p l e R s m args below meth c cells slots Q D cl A nL (S) (ws) (vs) (pc + 3) (.long r :: st)) : xJ p l e R s m args below meth c cells slots Q D cl A nL (S) (ws) (vs) (pc) (st) := fun H locs ls hP hD hS hl => x_samel (va_runSN (As := []) (rest := st) ⟨G.1, G.2.1, G.2.2.1, G.2.2.2.1, G.2.2.2.2.1⟩ hM cw ⟨fun a U g mk q => by obtain ⟨q0, qP, qK, qN, qD⟩ := q; exact ⟨q0, qP, va_K.moved (u := U) (U := U.calling g mk a) (Vm.Alike.refl U.vm) qK, fun c hc => ⟨(qN c hc).1, nest_same (s := U) (U := U.calling g mk a) (qN c hc).1 rfl (qN c hc).2⟩, qD⟩, fun U hU hW => ⟨rfl, by rw [hU]; exact hP, va_K.moved hW.alike G.2.2.2.2.2.1, fun c hc => ⟨(G.2.2.2.2.2.2.1 c hc).1, nest_warm (G.2.2.2.2.2.2.1 c hc).1 hW (G.2.2.2.2.2.2.1 c hc).2⟩, hD.weaken (fun _ _ _ _ => trivial)⟩⟩ rfl rfl hl.1 rfl (lv_room hroom) dd ⟨hcs.1, hcs.2⟩) (fun r hr => k r hr H locs ls hP hD hS hl)
theorem x_call0V1i (G : xG p s m args c cc nL own Ts NW D cl tys A) {b : Nat} {C : String} {y : MethodName} {bytes : ByteArray} {maxL index d : Nat} {ret : Option FieldType} {Tc : List Cond} {a1 : Value} {post : Int32 → Prop} (hM : xCi0 l D cl tys NW ws y Tc d [.ref b, a1] post) (q0 : Nat) {fs : List Value} {ci : Nat} {T : u_T} {N : Nat} (he : ws[q0]? = some (b, .inr (ci, fs))) (hc : cl[ci]? = some (C, T, N)) (cw : CallW R s args own C index y bytes maxL ret Tc { frames := d, cells := 0, slots := 0, locals := 40 * d } 0 0 1) (dd : decode cc pc = .ok (.invokevirtual index, 3)) (hroom : (st.map fun v => v.category).sum ≤ 8) (hcs : cells ≤ R.cells ∧ slots ≤ R.slots) (k : ∀ r : Int32, post r → xJ p l e R s m args below meth c cells slots Q D cl A nL (S) (ws) (vs) (pc + 3) (.int r :: st)) : xJ p l e R s m args below meth c cells slots Q D cl A nL (S) (ws) (vs) (pc) (a1 :: .ref b :: st) := fun H locs ls hP hD hS hl => x_samei (va_runV (As := [a1]) (rest := st) ⟨G.1, G.2.1, G.2.2.1, G.2.2.2.1, G.2.2.2.2.1⟩ hM cw ⟨fun a U g mk q => by obtain ⟨q0, qP, qK, qN, qD⟩ := q; exact ⟨q0, qP, va_K.moved (u := U) (U := U.calling g mk a) (Vm.Alike.refl U.vm) qK, fun c hc => ⟨(qN c hc).1, nest_same (s := U) (U := U.calling g mk a) (qN c hc).1 rfl (qN c hc).2⟩, qD⟩, va_recv G.2.2.2.2.2.1 hP hc he, fun U hU hW => ⟨rfl, by rw [hU]; exact hP, va_K.moved hW.alike G.2.2.2.2.2.1, fun c hc => ⟨(G.2.2.2.2.2.2.1 c hc).1, nest_warm (G.2.2.2.2.2.2.1 c hc).1 hW (G.2.2.2.2.2.2.1 c hc).2⟩, hD.weaken (fun _ _ _ _ => trivial)⟩⟩ rfl rfl hl.1 rfl (lv_room hroom) dd ⟨hcs.1, hcs.2⟩) (fun r hr => k r hr H locs ls hP hD hS hl)
theorem x_call0V1l (G : xG p s m args c cc nL own Ts NW D cl tys A) {b : Nat} {C : String} {y : MethodName} {bytes : ByteArray} {maxL index d : Nat} {ret : Option FieldType} {Tc : List Cond} {a1 : Value} {post : Int64 → Prop} (hM : xCl0 l D cl tys NW ws y Tc d [.ref b, a1] post) (q0 : Nat) {fs : List Value} {ci : Nat} {T : u_T} {N : Nat} (he : ws[q0]? = some (b, .inr (ci, fs))) (hc : cl[ci]? = some (C, T, N)) (cw : CallW R s args own C index y bytes maxL ret Tc { frames := d, cells := 0, slots := 0, locals := 40 * d } 0 0 1) (dd : decode cc pc = .ok (.invokevirtual index, 3)) (hroom : (st.map fun v => v.category).sum ≤ 8) (hcs : cells ≤ R.cells ∧ slots ≤ R.slots) (k : ∀ r : Int64, post r → xJ p l e R s m args below meth c cells slots Q D cl A nL (S) (ws) (vs) (pc + 3) (.long r :: st)) : xJ p l e R s m args below meth c cells slots Q D cl A nL (S) (ws) (vs) (pc) (a1 :: .ref b :: st) := fun H locs ls hP hD hS hl => x_samel (va_runV (As := [a1]) (rest := st) ⟨G.1, G.2.1, G.2.2.1, G.2.2.2.1, G.2.2.2.2.1⟩ hM cw ⟨fun a U g mk q => by obtain ⟨q0, qP, qK, qN, qD⟩ := q; exact ⟨q0, qP, va_K.moved (u := U) (U := U.calling g mk a) (Vm.Alike.refl U.vm) qK, fun c hc => ⟨(qN c hc).1, nest_same (s := U) (U := U.calling g mk a) (qN c hc).1 rfl (qN c hc).2⟩, qD⟩, va_recv G.2.2.2.2.2.1 hP hc he, fun U hU hW => ⟨rfl, by rw [hU]; exact hP, va_K.moved hW.alike G.2.2.2.2.2.1, fun c hc => ⟨(G.2.2.2.2.2.2.1 c hc).1, nest_warm (G.2.2.2.2.2.2.1 c hc).1 hW (G.2.2.2.2.2.2.1 c hc).2⟩, hD.weaken (fun _ _ _ _ => trivial)⟩⟩ rfl rfl hl.1 rfl (lv_room hroom) dd ⟨hcs.1, hcs.2⟩) (fun r hr => k r hr H locs ls hP hD hS hl)
theorem x_call0VN1i (G : xG p s m args c cc nL own Ts NW D cl tys A) {b : Nat} {C : String} {host : String} {y : MethodName} {bytes : ByteArray} {maxL index d : Nat} {ret : Option FieldType} {Tc : List Cond} {a1 : Value} {post : Int32 → Prop} (hM : xCi0 l D cl tys NW ws y Tc d [.ref b, a1] post) (q0 : Nat) {fs : List Value} {ci : Nat} {T : u_T} {N : Nat} (he : ws[q0]? = some (b, .inr (ci, fs))) (hc : cl[ci]? = some (C, T, N)) (cw : (va_CN R s args own index y host bytes maxL ret Tc { frames := d, cells := 0, slots := 0, locals := 40 * d } 0 0 1 ∧ (Cond.instanceMethod y).before args s = true ∧ (Cond.selects C y y).before args s = true)) (dd : decode cc pc = .ok (.invokevirtual index, 3)) (hroom : (st.map fun v => v.category).sum ≤ 8) (hcs : cells ≤ R.cells ∧ slots ≤ R.slots) (k : ∀ r : Int32, post r → xJ p l e R s m args below meth c cells slots Q D cl A nL (S) (ws) (vs) (pc + 3) (.int r :: st)) : xJ p l e R s m args below meth c cells slots Q D cl A nL (S) (ws) (vs) (pc) (a1 :: .ref b :: st) := fun H locs ls hP hD hS hl => x_samei (va_runVN (As := [a1]) (rest := st) ⟨G.1, G.2.1, G.2.2.1, G.2.2.2.1, G.2.2.2.2.1⟩ hM cw ⟨fun a U g mk q => by obtain ⟨q0, qP, qK, qN, qD⟩ := q; exact ⟨q0, qP, va_K.moved (u := U) (U := U.calling g mk a) (Vm.Alike.refl U.vm) qK, fun c hc => ⟨(qN c hc).1, nest_same (s := U) (U := U.calling g mk a) (qN c hc).1 rfl (qN c hc).2⟩, qD⟩, va_recv G.2.2.2.2.2.1 hP hc he, fun U hU hW => ⟨rfl, by rw [hU]; exact hP, va_K.moved hW.alike G.2.2.2.2.2.1, fun c hc => ⟨(G.2.2.2.2.2.2.1 c hc).1, nest_warm (G.2.2.2.2.2.2.1 c hc).1 hW (G.2.2.2.2.2.2.1 c hc).2⟩, hD.weaken (fun _ _ _ _ => trivial)⟩⟩ rfl rfl hl.1 rfl (lv_room hroom) dd ⟨hcs.1, hcs.2⟩) (fun r hr => k r hr H locs ls hP hD hS hl)
theorem x_call0VN1l (G : xG p s m args c cc nL own Ts NW D cl tys A) {b : Nat} {C : String} {host : String} {y : MethodName} {bytes : ByteArray} {maxL index d : Nat} {ret : Option FieldType} {Tc : List Cond} {a1 : Value} {post : Int64 → Prop} (hM : xCl0 l D cl tys NW ws y Tc d [.ref b, a1] post) (q0 : Nat) {fs : List Value} {ci : Nat} {T : u_T} {N : Nat} (he : ws[q0]? = some (b, .inr (ci, fs))) (hc : cl[ci]? = some (C, T, N)) (cw : (va_CN R s args own index y host bytes maxL ret Tc { frames := d, cells := 0, slots := 0, locals := 40 * d } 0 0 1 ∧ (Cond.instanceMethod y).before args s = true ∧ (Cond.selects C y y).before args s = true)) (dd : decode cc pc = .ok (.invokevirtual index, 3)) (hroom : (st.map fun v => v.category).sum ≤ 8) (hcs : cells ≤ R.cells ∧ slots ≤ R.slots) (k : ∀ r : Int64, post r → xJ p l e R s m args below meth c cells slots Q D cl A nL (S) (ws) (vs) (pc + 3) (.long r :: st)) : xJ p l e R s m args below meth c cells slots Q D cl A nL (S) (ws) (vs) (pc) (a1 :: .ref b :: st) := fun H locs ls hP hD hS hl => x_samel (va_runVN (As := [a1]) (rest := st) ⟨G.1, G.2.1, G.2.2.1, G.2.2.2.1, G.2.2.2.2.1⟩ hM cw ⟨fun a U g mk q => by obtain ⟨q0, qP, qK, qN, qD⟩ := q; exact ⟨q0, qP, va_K.moved (u := U) (U := U.calling g mk a) (Vm.Alike.refl U.vm) qK, fun c hc => ⟨(qN c hc).1, nest_same (s := U) (U := U.calling g mk a) (qN c hc).1 rfl (qN c hc).2⟩, qD⟩, va_recv G.2.2.2.2.2.1 hP hc he, fun U hU hW => ⟨rfl, by rw [hU]; exact hP, va_K.moved hW.alike G.2.2.2.2.2.1, fun c hc => ⟨(G.2.2.2.2.2.2.1 c hc).1, nest_warm (G.2.2.2.2.2.2.1 c hc).1 hW (G.2.2.2.2.2.2.1 c hc).2⟩, hD.weaken (fun _ _ _ _ => trivial)⟩⟩ rfl rfl hl.1 rfl (lv_room hroom) dd ⟨hcs.1, hcs.2⟩) (fun r hr => k r hr H locs ls hP hD hS hl)
theorem x_call0S1i (G : xG p s m args c cc nL own Ts NW D cl tys A) {y : MethodName} {bytes : ByteArray} {maxL index d : Nat} {ret : Option FieldType} {Tc : List Cond} {a1 : Value} {post : Int32 → Prop} (hM : xCi0 l D cl tys NW ws y Tc d [a1] post) (cw : (CallB R s args own index y bytes maxL ret Tc { frames := d, cells := 0, slots := 0, locals := 40 * d } 0 0 1 ∧ (Cond.static y).before args s = true)) (dd : decode cc pc = .ok (.invokestatic index, 3)) (hroom : (st.map fun v => v.category).sum ≤ 8) (hcs : cells ≤ R.cells ∧ slots ≤ R.slots) (k : ∀ r : Int32, post r → xJ p l e R s m args below meth c cells slots Q D cl A nL (S) (ws) (vs) (pc + 3) (.int r :: st)) : xJ p l e R s m args below meth c cells slots Q D cl A nL (S) (ws) (vs) (pc) (a1 :: st) := fun H locs ls hP hD hS hl => x_samei (va_runS (As := [a1]) (rest := st) ⟨G.1, G.2.1, G.2.2.1, G.2.2.2.1, G.2.2.2.2.1⟩ hM cw ⟨fun a U g mk q => by obtain ⟨q0, qP, qK, qN, qD⟩ := q; exact ⟨q0, qP, va_K.moved (u := U) (U := U.calling g mk a) (Vm.Alike.refl U.vm) qK, fun c hc => ⟨(qN c hc).1, nest_same (s := U) (U := U.calling g mk a) (qN c hc).1 rfl (qN c hc).2⟩, qD⟩, fun U hU hW => ⟨rfl, by rw [hU]; exact hP, va_K.moved hW.alike G.2.2.2.2.2.1, fun c hc => ⟨(G.2.2.2.2.2.2.1 c hc).1, nest_warm (G.2.2.2.2.2.2.1 c hc).1 hW (G.2.2.2.2.2.2.1 c hc).2⟩, hD.weaken (fun _ _ _ _ => trivial)⟩⟩ rfl rfl hl.1 rfl (lv_room hroom) dd ⟨hcs.1, hcs.2⟩) (fun r hr => k r hr H locs ls hP hD hS hl)
theorem x_call0S1l (G : xG p s m args c cc nL own Ts NW D cl tys A) {y : MethodName} {bytes : ByteArray} {maxL index d : Nat} {ret : Option FieldType} {Tc : List Cond} {a1 : Value} {post : Int64 → Prop} (hM : xCl0 l D cl tys NW ws y Tc d [a1] post) (cw : (CallB R s args own index y bytes maxL ret Tc { frames := d, cells := 0, slots := 0, locals := 40 * d } 0 0 1 ∧ (Cond.static y).before args s = true)) (dd : decode cc pc = .ok (.invokestatic index, 3)) (hroom : (st.map fun v => v.category).sum ≤ 8) (hcs : cells ≤ R.cells ∧ slots ≤ R.slots) (k : ∀ r : Int64, post r → xJ p l e R s m args below meth c cells slots Q D cl A nL (S) (ws) (vs) (pc + 3) (.long r :: st)) : xJ p l e R s m args below meth c cells slots Q D cl A nL (S) (ws) (vs) (pc) (a1 :: st) := fun H locs ls hP hD hS hl => x_samel (va_runS (As := [a1]) (rest := st) ⟨G.1, G.2.1, G.2.2.1, G.2.2.2.1, G.2.2.2.2.1⟩ hM cw ⟨fun a U g mk q => by obtain ⟨q0, qP, qK, qN, qD⟩ := q; exact ⟨q0, qP, va_K.moved (u := U) (U := U.calling g mk a) (Vm.Alike.refl U.vm) qK, fun c hc => ⟨(qN c hc).1, nest_same (s := U) (U := U.calling g mk a) (qN c hc).1 rfl (qN c hc).2⟩, qD⟩, fun U hU hW => ⟨rfl, by rw [hU]; exact hP, va_K.moved hW.alike G.2.2.2.2.2.1, fun c hc => ⟨(G.2.2.2.2.2.2.1 c hc).1, nest_warm (G.2.2.2.2.2.2.1 c hc).1 hW (G.2.2.2.2.2.2.1 c hc).2⟩, hD.weaken (fun _ _ _ _ => trivial)⟩⟩ rfl rfl hl.1 rfl (lv_room hroom) dd ⟨hcs.1, hcs.2⟩) (fun r hr => k r hr H locs ls hP hD hS hl)
theorem x_call0SN1i (G : xG p s m args c cc nL own Ts NW D cl tys A) {host : String} {y : MethodName} {bytes : ByteArray} {maxL index d : Nat} {ret : Option FieldType} {Tc : List Cond} {a1 : Value} {post : Int32 → Prop} (hM : xCi0 l D cl tys NW ws y Tc d [a1] post) (cw : (va_CN R s args own index y host bytes maxL ret Tc { frames := d, cells := 0, slots := 0, locals := 40 * d } 0 0 1 ∧ (Cond.static y).before args s = true ∧ True)) (dd : decode cc pc = .ok (.invokestatic index, 3)) (hroom : (st.map fun v => v.category).sum ≤ 8) (hcs : cells ≤ R.cells ∧ slots ≤ R.slots) (k : ∀ r : Int32, post r → xJ p l e R s m args below meth c cells slots Q D cl A nL (S) (ws) (vs) (pc + 3) (.int r :: st)) : xJ p l e R s m args below meth c cells slots Q D cl A nL (S) (ws) (vs) (pc) (a1 :: st) := fun H locs ls hP hD hS hl => x_samei (va_runSN (As := [a1]) (rest := st) ⟨G.1, G.2.1, G.2.2.1, G.2.2.2.1, G.2.2.2.2.1⟩ hM cw ⟨fun a U g mk q => by obtain ⟨q0, qP, qK, qN, qD⟩ := q; exact ⟨q0, qP, va_K.moved (u := U) (U := U.calling g mk a) (Vm.Alike.refl U.vm) qK, fun c hc => ⟨(qN c hc).1, nest_same (s := U) (U := U.calling g mk a) (qN c hc).1 rfl (qN c hc).2⟩, qD⟩, fun U hU hW => ⟨rfl, by rw [hU]; exact hP, va_K.moved hW.alike G.2.2.2.2.2.1, fun c hc => ⟨(G.2.2.2.2.2.2.1 c hc).1, nest_warm (G.2.2.2.2.2.2.1 c hc).1 hW (G.2.2.2.2.2.2.1 c hc).2⟩, hD.weaken (fun _ _ _ _ => trivial)⟩⟩ rfl rfl hl.1 rfl (lv_room hroom) dd ⟨hcs.1, hcs.2⟩) (fun r hr => k r hr H locs ls hP hD hS hl)
theorem x_call0SN1l (G : xG p s m args c cc nL own Ts NW D cl tys A) {host : String} {y : MethodName} {bytes : ByteArray} {maxL index d : Nat} {ret : Option FieldType} {Tc : List Cond} {a1 : Value} {post : Int64 → Prop} (hM : xCl0 l D cl tys NW ws y Tc d [a1] post) (cw : (va_CN R s args own index y host bytes maxL ret Tc { frames := d, cells := 0, slots := 0, locals := 40 * d } 0 0 1 ∧ (Cond.static y).before args s = true ∧ True)) (dd : decode cc pc = .ok (.invokestatic index, 3)) (hroom : (st.map fun v => v.category).sum ≤ 8) (hcs : cells ≤ R.cells ∧ slots ≤ R.slots) (k : ∀ r : Int64, post r → xJ p l e R s m args below meth c cells slots Q D cl A nL (S) (ws) (vs) (pc + 3) (.long r :: st)) : xJ p l e R s m args below meth c cells slots Q D cl A nL (S) (ws) (vs) (pc) (a1 :: st) := fun H locs ls hP hD hS hl => x_samel (va_runSN (As := [a1]) (rest := st) ⟨G.1, G.2.1, G.2.2.1, G.2.2.2.1, G.2.2.2.2.1⟩ hM cw ⟨fun a U g mk q => by obtain ⟨q0, qP, qK, qN, qD⟩ := q; exact ⟨q0, qP, va_K.moved (u := U) (U := U.calling g mk a) (Vm.Alike.refl U.vm) qK, fun c hc => ⟨(qN c hc).1, nest_same (s := U) (U := U.calling g mk a) (qN c hc).1 rfl (qN c hc).2⟩, qD⟩, fun U hU hW => ⟨rfl, by rw [hU]; exact hP, va_K.moved hW.alike G.2.2.2.2.2.1, fun c hc => ⟨(G.2.2.2.2.2.2.1 c hc).1, nest_warm (G.2.2.2.2.2.2.1 c hc).1 hW (G.2.2.2.2.2.2.1 c hc).2⟩, hD.weaken (fun _ _ _ _ => trivial)⟩⟩ rfl rfl hl.1 rfl (lv_room hroom) dd ⟨hcs.1, hcs.2⟩) (fun r hr => k r hr H locs ls hP hD hS hl)
theorem x_call0V2i (G : xG p s m args c cc nL own Ts NW D cl tys A) {b : Nat} {C : String} {y : MethodName} {bytes : ByteArray} {maxL index d : Nat} {ret : Option FieldType} {Tc : List Cond} {a1 a2 : Value} {post : Int32 → Prop} (hM : xCi0 l D cl tys NW ws y Tc d [.ref b, a1, a2] post) (q0 : Nat) {fs : List Value} {ci : Nat} {T : u_T} {N : Nat} (he : ws[q0]? = some (b, .inr (ci, fs))) (hc : cl[ci]? = some (C, T, N)) (cw : CallW R s args own C index y bytes maxL ret Tc { frames := d, cells := 0, slots := 0, locals := 40 * d } 0 0 2) (dd : decode cc pc = .ok (.invokevirtual index, 3)) (hroom : (st.map fun v => v.category).sum ≤ 8) (hcs : cells ≤ R.cells ∧ slots ≤ R.slots) (k : ∀ r : Int32, post r → xJ p l e R s m args below meth c cells slots Q D cl A nL (S) (ws) (vs) (pc + 3) (.int r :: st)) : xJ p l e R s m args below meth c cells slots Q D cl A nL (S) (ws) (vs) (pc) (a2 :: a1 :: .ref b :: st) := fun H locs ls hP hD hS hl => x_samei (va_runV (As := [a1, a2]) (rest := st) ⟨G.1, G.2.1, G.2.2.1, G.2.2.2.1, G.2.2.2.2.1⟩ hM cw ⟨fun a U g mk q => by obtain ⟨q0, qP, qK, qN, qD⟩ := q; exact ⟨q0, qP, va_K.moved (u := U) (U := U.calling g mk a) (Vm.Alike.refl U.vm) qK, fun c hc => ⟨(qN c hc).1, nest_same (s := U) (U := U.calling g mk a) (qN c hc).1 rfl (qN c hc).2⟩, qD⟩, va_recv G.2.2.2.2.2.1 hP hc he, fun U hU hW => ⟨rfl, by rw [hU]; exact hP, va_K.moved hW.alike G.2.2.2.2.2.1, fun c hc => ⟨(G.2.2.2.2.2.2.1 c hc).1, nest_warm (G.2.2.2.2.2.2.1 c hc).1 hW (G.2.2.2.2.2.2.1 c hc).2⟩, hD.weaken (fun _ _ _ _ => trivial)⟩⟩ rfl rfl hl.1 rfl (lv_room hroom) dd ⟨hcs.1, hcs.2⟩) (fun r hr => k r hr H locs ls hP hD hS hl)
theorem x_call0V2l (G : xG p s m args c cc nL own Ts NW D cl tys A) {b : Nat} {C : String} {y : MethodName} {bytes : ByteArray} {maxL index d : Nat} {ret : Option FieldType} {Tc : List Cond} {a1 a2 : Value} {post : Int64 → Prop} (hM : xCl0 l D cl tys NW ws y Tc d [.ref b, a1, a2] post) (q0 : Nat) {fs : List Value} {ci : Nat} {T : u_T} {N : Nat} (he : ws[q0]? = some (b, .inr (ci, fs))) (hc : cl[ci]? = some (C, T, N)) (cw : CallW R s args own C index y bytes maxL ret Tc { frames := d, cells := 0, slots := 0, locals := 40 * d } 0 0 2) (dd : decode cc pc = .ok (.invokevirtual index, 3)) (hroom : (st.map fun v => v.category).sum ≤ 8) (hcs : cells ≤ R.cells ∧ slots ≤ R.slots) (k : ∀ r : Int64, post r → xJ p l e R s m args below meth c cells slots Q D cl A nL (S) (ws) (vs) (pc + 3) (.long r :: st)) : xJ p l e R s m args below meth c cells slots Q D cl A nL (S) (ws) (vs) (pc) (a2 :: a1 :: .ref b :: st) := fun H locs ls hP hD hS hl => x_samel (va_runV (As := [a1, a2]) (rest := st) ⟨G.1, G.2.1, G.2.2.1, G.2.2.2.1, G.2.2.2.2.1⟩ hM cw ⟨fun a U g mk q => by obtain ⟨q0, qP, qK, qN, qD⟩ := q; exact ⟨q0, qP, va_K.moved (u := U) (U := U.calling g mk a) (Vm.Alike.refl U.vm) qK, fun c hc => ⟨(qN c hc).1, nest_same (s := U) (U := U.calling g mk a) (qN c hc).1 rfl (qN c hc).2⟩, qD⟩, va_recv G.2.2.2.2.2.1 hP hc he, fun U hU hW => ⟨rfl, by rw [hU]; exact hP, va_K.moved hW.alike G.2.2.2.2.2.1, fun c hc => ⟨(G.2.2.2.2.2.2.1 c hc).1, nest_warm (G.2.2.2.2.2.2.1 c hc).1 hW (G.2.2.2.2.2.2.1 c hc).2⟩, hD.weaken (fun _ _ _ _ => trivial)⟩⟩ rfl rfl hl.1 rfl (lv_room hroom) dd ⟨hcs.1, hcs.2⟩) (fun r hr => k r hr H locs ls hP hD hS hl)
theorem x_call0VN2i (G : xG p s m args c cc nL own Ts NW D cl tys A) {b : Nat} {C : String} {host : String} {y : MethodName} {bytes : ByteArray} {maxL index d : Nat} {ret : Option FieldType} {Tc : List Cond} {a1 a2 : Value} {post : Int32 → Prop} (hM : xCi0 l D cl tys NW ws y Tc d [.ref b, a1, a2] post) (q0 : Nat) {fs : List Value} {ci : Nat} {T : u_T} {N : Nat} (he : ws[q0]? = some (b, .inr (ci, fs))) (hc : cl[ci]? = some (C, T, N)) (cw : (va_CN R s args own index y host bytes maxL ret Tc { frames := d, cells := 0, slots := 0, locals := 40 * d } 0 0 2 ∧ (Cond.instanceMethod y).before args s = true ∧ (Cond.selects C y y).before args s = true)) (dd : decode cc pc = .ok (.invokevirtual index, 3)) (hroom : (st.map fun v => v.category).sum ≤ 8) (hcs : cells ≤ R.cells ∧ slots ≤ R.slots) (k : ∀ r : Int32, post r → xJ p l e R s m args below meth c cells slots Q D cl A nL (S) (ws) (vs) (pc + 3) (.int r :: st)) : xJ p l e R s m args below meth c cells slots Q D cl A nL (S) (ws) (vs) (pc) (a2 :: a1 :: .ref b :: st) := fun H locs ls hP hD hS hl => x_samei (va_runVN (As := [a1, a2]) (rest := st) ⟨G.1, G.2.1, G.2.2.1, G.2.2.2.1, G.2.2.2.2.1⟩ hM cw ⟨fun a U g mk q => by obtain ⟨q0, qP, qK, qN, qD⟩ := q; exact ⟨q0, qP, va_K.moved (u := U) (U := U.calling g mk a) (Vm.Alike.refl U.vm) qK, fun c hc => ⟨(qN c hc).1, nest_same (s := U) (U := U.calling g mk a) (qN c hc).1 rfl (qN c hc).2⟩, qD⟩, va_recv G.2.2.2.2.2.1 hP hc he, fun U hU hW => ⟨rfl, by rw [hU]; exact hP, va_K.moved hW.alike G.2.2.2.2.2.1, fun c hc => ⟨(G.2.2.2.2.2.2.1 c hc).1, nest_warm (G.2.2.2.2.2.2.1 c hc).1 hW (G.2.2.2.2.2.2.1 c hc).2⟩, hD.weaken (fun _ _ _ _ => trivial)⟩⟩ rfl rfl hl.1 rfl (lv_room hroom) dd ⟨hcs.1, hcs.2⟩) (fun r hr => k r hr H locs ls hP hD hS hl)
theorem x_call0VN2l (G : xG p s m args c cc nL own Ts NW D cl tys A) {b : Nat} {C : String} {host : String} {y : MethodName} {bytes : ByteArray} {maxL index d : Nat} {ret : Option FieldType} {Tc : List Cond} {a1 a2 : Value} {post : Int64 → Prop} (hM : xCl0 l D cl tys NW ws y Tc d [.ref b, a1, a2] post) (q0 : Nat) {fs : List Value} {ci : Nat} {T : u_T} {N : Nat} (he : ws[q0]? = some (b, .inr (ci, fs))) (hc : cl[ci]? = some (C, T, N)) (cw : (va_CN R s args own index y host bytes maxL ret Tc { frames := d, cells := 0, slots := 0, locals := 40 * d } 0 0 2 ∧ (Cond.instanceMethod y).before args s = true ∧ (Cond.selects C y y).before args s = true)) (dd : decode cc pc = .ok (.invokevirtual index, 3)) (hroom : (st.map fun v => v.category).sum ≤ 8) (hcs : cells ≤ R.cells ∧ slots ≤ R.slots) (k : ∀ r : Int64, post r → xJ p l e R s m args below meth c cells slots Q D cl A nL (S) (ws) (vs) (pc + 3) (.long r :: st)) : xJ p l e R s m args below meth c cells slots Q D cl A nL (S) (ws) (vs) (pc) (a2 :: a1 :: .ref b :: st) := fun H locs ls hP hD hS hl => x_samel (va_runVN (As := [a1, a2]) (rest := st) ⟨G.1, G.2.1, G.2.2.1, G.2.2.2.1, G.2.2.2.2.1⟩ hM cw ⟨fun a U g mk q => by obtain ⟨q0, qP, qK, qN, qD⟩ := q; exact ⟨q0, qP, va_K.moved (u := U) (U := U.calling g mk a) (Vm.Alike.refl U.vm) qK, fun c hc => ⟨(qN c hc).1, nest_same (s := U) (U := U.calling g mk a) (qN c hc).1 rfl (qN c hc).2⟩, qD⟩, va_recv G.2.2.2.2.2.1 hP hc he, fun U hU hW => ⟨rfl, by rw [hU]; exact hP, va_K.moved hW.alike G.2.2.2.2.2.1, fun c hc => ⟨(G.2.2.2.2.2.2.1 c hc).1, nest_warm (G.2.2.2.2.2.2.1 c hc).1 hW (G.2.2.2.2.2.2.1 c hc).2⟩, hD.weaken (fun _ _ _ _ => trivial)⟩⟩ rfl rfl hl.1 rfl (lv_room hroom) dd ⟨hcs.1, hcs.2⟩) (fun r hr => k r hr H locs ls hP hD hS hl)
theorem x_call0S2i (G : xG p s m args c cc nL own Ts NW D cl tys A) {y : MethodName} {bytes : ByteArray} {maxL index d : Nat} {ret : Option FieldType} {Tc : List Cond} {a1 a2 : Value} {post : Int32 → Prop} (hM : xCi0 l D cl tys NW ws y Tc d [a1, a2] post) (cw : (CallB R s args own index y bytes maxL ret Tc { frames := d, cells := 0, slots := 0, locals := 40 * d } 0 0 2 ∧ (Cond.static y).before args s = true)) (dd : decode cc pc = .ok (.invokestatic index, 3)) (hroom : (st.map fun v => v.category).sum ≤ 8) (hcs : cells ≤ R.cells ∧ slots ≤ R.slots) (k : ∀ r : Int32, post r → xJ p l e R s m args below meth c cells slots Q D cl A nL (S) (ws) (vs) (pc + 3) (.int r :: st)) : xJ p l e R s m args below meth c cells slots Q D cl A nL (S) (ws) (vs) (pc) (a2 :: a1 :: st) := fun H locs ls hP hD hS hl => x_samei (va_runS (As := [a1, a2]) (rest := st) ⟨G.1, G.2.1, G.2.2.1, G.2.2.2.1, G.2.2.2.2.1⟩ hM cw ⟨fun a U g mk q => by obtain ⟨q0, qP, qK, qN, qD⟩ := q; exact ⟨q0, qP, va_K.moved (u := U) (U := U.calling g mk a) (Vm.Alike.refl U.vm) qK, fun c hc => ⟨(qN c hc).1, nest_same (s := U) (U := U.calling g mk a) (qN c hc).1 rfl (qN c hc).2⟩, qD⟩, fun U hU hW => ⟨rfl, by rw [hU]; exact hP, va_K.moved hW.alike G.2.2.2.2.2.1, fun c hc => ⟨(G.2.2.2.2.2.2.1 c hc).1, nest_warm (G.2.2.2.2.2.2.1 c hc).1 hW (G.2.2.2.2.2.2.1 c hc).2⟩, hD.weaken (fun _ _ _ _ => trivial)⟩⟩ rfl rfl hl.1 rfl (lv_room hroom) dd ⟨hcs.1, hcs.2⟩) (fun r hr => k r hr H locs ls hP hD hS hl)
theorem x_call0S2l (G : xG p s m args c cc nL own Ts NW D cl tys A) {y : MethodName} {bytes : ByteArray} {maxL index d : Nat} {ret : Option FieldType} {Tc : List Cond} {a1 a2 : Value} {post : Int64 → Prop} (hM : xCl0 l D cl tys NW ws y Tc d [a1, a2] post) (cw : (CallB R s args own index y bytes maxL ret Tc { frames := d, cells := 0, slots := 0, locals := 40 * d } 0 0 2 ∧ (Cond.static y).before args s = true)) (dd : decode cc pc = .ok (.invokestatic index, 3)) (hroom : (st.map fun v => v.category).sum ≤ 8) (hcs : cells ≤ R.cells ∧ slots ≤ R.slots) (k : ∀ r : Int64, post r → xJ p l e R s m args below meth c cells slots Q D cl A nL (S) (ws) (vs) (pc + 3) (.long r :: st)) : xJ p l e R s m args below meth c cells slots Q D cl A nL (S) (ws) (vs) (pc) (a2 :: a1 :: st) := fun H locs ls hP hD hS hl => x_samel (va_runS (As := [a1, a2]) (rest := st) ⟨G.1, G.2.1, G.2.2.1, G.2.2.2.1, G.2.2.2.2.1⟩ hM cw ⟨fun a U g mk q => by obtain ⟨q0, qP, qK, qN, qD⟩ := q; exact ⟨q0, qP, va_K.moved (u := U) (U := U.calling g mk a) (Vm.Alike.refl U.vm) qK, fun c hc => ⟨(qN c hc).1, nest_same (s := U) (U := U.calling g mk a) (qN c hc).1 rfl (qN c hc).2⟩, qD⟩, fun U hU hW => ⟨rfl, by rw [hU]; exact hP, va_K.moved hW.alike G.2.2.2.2.2.1, fun c hc => ⟨(G.2.2.2.2.2.2.1 c hc).1, nest_warm (G.2.2.2.2.2.2.1 c hc).1 hW (G.2.2.2.2.2.2.1 c hc).2⟩, hD.weaken (fun _ _ _ _ => trivial)⟩⟩ rfl rfl hl.1 rfl (lv_room hroom) dd ⟨hcs.1, hcs.2⟩) (fun r hr => k r hr H locs ls hP hD hS hl)
theorem x_call0SN2i (G : xG p s m args c cc nL own Ts NW D cl tys A) {host : String} {y : MethodName} {bytes : ByteArray} {maxL index d : Nat} {ret : Option FieldType} {Tc : List Cond} {a1 a2 : Value} {post : Int32 → Prop} (hM : xCi0 l D cl tys NW ws y Tc d [a1, a2] post) (cw : (va_CN R s args own index y host bytes maxL ret Tc { frames := d, cells := 0, slots := 0, locals := 40 * d } 0 0 2 ∧ (Cond.static y).before args s = true ∧ True)) (dd : decode cc pc = .ok (.invokestatic index, 3)) (hroom : (st.map fun v => v.category).sum ≤ 8) (hcs : cells ≤ R.cells ∧ slots ≤ R.slots) (k : ∀ r : Int32, post r → xJ p l e R s m args below meth c cells slots Q D cl A nL (S) (ws) (vs) (pc + 3) (.int r :: st)) : xJ p l e R s m args below meth c cells slots Q D cl A nL (S) (ws) (vs) (pc) (a2 :: a1 :: st) := fun H locs ls hP hD hS hl => x_samei (va_runSN (As := [a1, a2]) (rest := st) ⟨G.1, G.2.1, G.2.2.1, G.2.2.2.1, G.2.2.2.2.1⟩ hM cw ⟨fun a U g mk q => by obtain ⟨q0, qP, qK, qN, qD⟩ := q; exact ⟨q0, qP, va_K.moved (u := U) (U := U.calling g mk a) (Vm.Alike.refl U.vm) qK, fun c hc => ⟨(qN c hc).1, nest_same (s := U) (U := U.calling g mk a) (qN c hc).1 rfl (qN c hc).2⟩, qD⟩, fun U hU hW => ⟨rfl, by rw [hU]; exact hP, va_K.moved hW.alike G.2.2.2.2.2.1, fun c hc => ⟨(G.2.2.2.2.2.2.1 c hc).1, nest_warm (G.2.2.2.2.2.2.1 c hc).1 hW (G.2.2.2.2.2.2.1 c hc).2⟩, hD.weaken (fun _ _ _ _ => trivial)⟩⟩ rfl rfl hl.1 rfl (lv_room hroom) dd ⟨hcs.1, hcs.2⟩) (fun r hr => k r hr H locs ls hP hD hS hl)
theorem x_call0SN2l (G : xG p s m args c cc nL own Ts NW D cl tys A) {host : String} {y : MethodName} {bytes : ByteArray} {maxL index d : Nat} {ret : Option FieldType} {Tc : List Cond} {a1 a2 : Value} {post : Int64 → Prop} (hM : xCl0 l D cl tys NW ws y Tc d [a1, a2] post) (cw : (va_CN R s args own index y host bytes maxL ret Tc { frames := d, cells := 0, slots := 0, locals := 40 * d } 0 0 2 ∧ (Cond.static y).before args s = true ∧ True)) (dd : decode cc pc = .ok (.invokestatic index, 3)) (hroom : (st.map fun v => v.category).sum ≤ 8) (hcs : cells ≤ R.cells ∧ slots ≤ R.slots) (k : ∀ r : Int64, post r → xJ p l e R s m args below meth c cells slots Q D cl A nL (S) (ws) (vs) (pc + 3) (.long r :: st)) : xJ p l e R s m args below meth c cells slots Q D cl A nL (S) (ws) (vs) (pc) (a2 :: a1 :: st) := fun H locs ls hP hD hS hl => x_samel (va_runSN (As := [a1, a2]) (rest := st) ⟨G.1, G.2.1, G.2.2.1, G.2.2.2.1, G.2.2.2.2.1⟩ hM cw ⟨fun a U g mk q => by obtain ⟨q0, qP, qK, qN, qD⟩ := q; exact ⟨q0, qP, va_K.moved (u := U) (U := U.calling g mk a) (Vm.Alike.refl U.vm) qK, fun c hc => ⟨(qN c hc).1, nest_same (s := U) (U := U.calling g mk a) (qN c hc).1 rfl (qN c hc).2⟩, qD⟩, fun U hU hW => ⟨rfl, by rw [hU]; exact hP, va_K.moved hW.alike G.2.2.2.2.2.1, fun c hc => ⟨(G.2.2.2.2.2.2.1 c hc).1, nest_warm (G.2.2.2.2.2.2.1 c hc).1 hW (G.2.2.2.2.2.2.1 c hc).2⟩, hD.weaken (fun _ _ _ _ => trivial)⟩⟩ rfl rfl hl.1 rfl (lv_room hroom) dd ⟨hcs.1, hcs.2⟩) (fun r hr => k r hr H locs ls hP hD hS hl)
theorem x_call0V3i (G : xG p s m args c cc nL own Ts NW D cl tys A) {b : Nat} {C : String} {y : MethodName} {bytes : ByteArray} {maxL index d : Nat} {ret : Option FieldType} {Tc : List Cond} {a1 a2 a3 : Value} {post : Int32 → Prop} (hM : xCi0 l D cl tys NW ws y Tc d [.ref b, a1, a2, a3] post) (q0 : Nat) {fs : List Value} {ci : Nat} {T : u_T} {N : Nat} (he : ws[q0]? = some (b, .inr (ci, fs))) (hc : cl[ci]? = some (C, T, N)) (cw : CallW R s args own C index y bytes maxL ret Tc { frames := d, cells := 0, slots := 0, locals := 40 * d } 0 0 3) (dd : decode cc pc = .ok (.invokevirtual index, 3)) (hroom : (st.map fun v => v.category).sum ≤ 8) (hcs : cells ≤ R.cells ∧ slots ≤ R.slots) (k : ∀ r : Int32, post r → xJ p l e R s m args below meth c cells slots Q D cl A nL (S) (ws) (vs) (pc + 3) (.int r :: st)) : xJ p l e R s m args below meth c cells slots Q D cl A nL (S) (ws) (vs) (pc) (a3 :: a2 :: a1 :: .ref b :: st) := fun H locs ls hP hD hS hl => x_samei (va_runV (As := [a1, a2, a3]) (rest := st) ⟨G.1, G.2.1, G.2.2.1, G.2.2.2.1, G.2.2.2.2.1⟩ hM cw ⟨fun a U g mk q => by obtain ⟨q0, qP, qK, qN, qD⟩ := q; exact ⟨q0, qP, va_K.moved (u := U) (U := U.calling g mk a) (Vm.Alike.refl U.vm) qK, fun c hc => ⟨(qN c hc).1, nest_same (s := U) (U := U.calling g mk a) (qN c hc).1 rfl (qN c hc).2⟩, qD⟩, va_recv G.2.2.2.2.2.1 hP hc he, fun U hU hW => ⟨rfl, by rw [hU]; exact hP, va_K.moved hW.alike G.2.2.2.2.2.1, fun c hc => ⟨(G.2.2.2.2.2.2.1 c hc).1, nest_warm (G.2.2.2.2.2.2.1 c hc).1 hW (G.2.2.2.2.2.2.1 c hc).2⟩, hD.weaken (fun _ _ _ _ => trivial)⟩⟩ rfl rfl hl.1 rfl (lv_room hroom) dd ⟨hcs.1, hcs.2⟩) (fun r hr => k r hr H locs ls hP hD hS hl)
theorem x_call0V3l (G : xG p s m args c cc nL own Ts NW D cl tys A) {b : Nat} {C : String} {y : MethodName} {bytes : ByteArray} {maxL index d : Nat} {ret : Option FieldType} {Tc : List Cond} {a1 a2 a3 : Value} {post : Int64 → Prop} (hM : xCl0 l D cl tys NW ws y Tc d [.ref b, a1, a2, a3] post) (q0 : Nat) {fs : List Value} {ci : Nat} {T : u_T} {N : Nat} (he : ws[q0]? = some (b, .inr (ci, fs))) (hc : cl[ci]? = some (C, T, N)) (cw : CallW R s args own C index y bytes maxL ret Tc { frames := d, cells := 0, slots := 0, locals := 40 * d } 0 0 3) (dd : decode cc pc = .ok (.invokevirtual index, 3)) (hroom : (st.map fun v => v.category).sum ≤ 8) (hcs : cells ≤ R.cells ∧ slots ≤ R.slots) (k : ∀ r : Int64, post r → xJ p l e R s m args below meth c cells slots Q D cl A nL (S) (ws) (vs) (pc + 3) (.long r :: st)) : xJ p l e R s m args below meth c cells slots Q D cl A nL (S) (ws) (vs) (pc) (a3 :: a2 :: a1 :: .ref b :: st) := fun H locs ls hP hD hS hl => x_samel (va_runV (As := [a1, a2, a3]) (rest := st) ⟨G.1, G.2.1, G.2.2.1, G.2.2.2.1, G.2.2.2.2.1⟩ hM cw ⟨fun a U g mk q => by obtain ⟨q0, qP, qK, qN, qD⟩ := q; exact ⟨q0, qP, va_K.moved (u := U) (U := U.calling g mk a) (Vm.Alike.refl U.vm) qK, fun c hc => ⟨(qN c hc).1, nest_same (s := U) (U := U.calling g mk a) (qN c hc).1 rfl (qN c hc).2⟩, qD⟩, va_recv G.2.2.2.2.2.1 hP hc he, fun U hU hW => ⟨rfl, by rw [hU]; exact hP, va_K.moved hW.alike G.2.2.2.2.2.1, fun c hc => ⟨(G.2.2.2.2.2.2.1 c hc).1, nest_warm (G.2.2.2.2.2.2.1 c hc).1 hW (G.2.2.2.2.2.2.1 c hc).2⟩, hD.weaken (fun _ _ _ _ => trivial)⟩⟩ rfl rfl hl.1 rfl (lv_room hroom) dd ⟨hcs.1, hcs.2⟩) (fun r hr => k r hr H locs ls hP hD hS hl)
theorem x_call0VN3i (G : xG p s m args c cc nL own Ts NW D cl tys A) {b : Nat} {C : String} {host : String} {y : MethodName} {bytes : ByteArray} {maxL index d : Nat} {ret : Option FieldType} {Tc : List Cond} {a1 a2 a3 : Value} {post : Int32 → Prop} (hM : xCi0 l D cl tys NW ws y Tc d [.ref b, a1, a2, a3] post) (q0 : Nat) {fs : List Value} {ci : Nat} {T : u_T} {N : Nat} (he : ws[q0]? = some (b, .inr (ci, fs))) (hc : cl[ci]? = some (C, T, N)) (cw : (va_CN R s args own index y host bytes maxL ret Tc { frames := d, cells := 0, slots := 0, locals := 40 * d } 0 0 3 ∧ (Cond.instanceMethod y).before args s = true ∧ (Cond.selects C y y).before args s = true)) (dd : decode cc pc = .ok (.invokevirtual index, 3)) (hroom : (st.map fun v => v.category).sum ≤ 8) (hcs : cells ≤ R.cells ∧ slots ≤ R.slots) (k : ∀ r : Int32, post r → xJ p l e R s m args below meth c cells slots Q D cl A nL (S) (ws) (vs) (pc + 3) (.int r :: st)) : xJ p l e R s m args below meth c cells slots Q D cl A nL (S) (ws) (vs) (pc) (a3 :: a2 :: a1 :: .ref b :: st) := fun H locs ls hP hD hS hl => x_samei (va_runVN (As := [a1, a2, a3]) (rest := st) ⟨G.1, G.2.1, G.2.2.1, G.2.2.2.1, G.2.2.2.2.1⟩ hM cw ⟨fun a U g mk q => by obtain ⟨q0, qP, qK, qN, qD⟩ := q; exact ⟨q0, qP, va_K.moved (u := U) (U := U.calling g mk a) (Vm.Alike.refl U.vm) qK, fun c hc => ⟨(qN c hc).1, nest_same (s := U) (U := U.calling g mk a) (qN c hc).1 rfl (qN c hc).2⟩, qD⟩, va_recv G.2.2.2.2.2.1 hP hc he, fun U hU hW => ⟨rfl, by rw [hU]; exact hP, va_K.moved hW.alike G.2.2.2.2.2.1, fun c hc => ⟨(G.2.2.2.2.2.2.1 c hc).1, nest_warm (G.2.2.2.2.2.2.1 c hc).1 hW (G.2.2.2.2.2.2.1 c hc).2⟩, hD.weaken (fun _ _ _ _ => trivial)⟩⟩ rfl rfl hl.1 rfl (lv_room hroom) dd ⟨hcs.1, hcs.2⟩) (fun r hr => k r hr H locs ls hP hD hS hl)
theorem x_call0VN3l (G : xG p s m args c cc nL own Ts NW D cl tys A) {b : Nat} {C : String} {host : String} {y : MethodName} {bytes : ByteArray} {maxL index d : Nat} {ret : Option FieldType} {Tc : List Cond} {a1 a2 a3 : Value} {post : Int64 → Prop} (hM : xCl0 l D cl tys NW ws y Tc d [.ref b, a1, a2, a3] post) (q0 : Nat) {fs : List Value} {ci : Nat} {T : u_T} {N : Nat} (he : ws[q0]? = some (b, .inr (ci, fs))) (hc : cl[ci]? = some (C, T, N)) (cw : (va_CN R s args own index y host bytes maxL ret Tc { frames := d, cells := 0, slots := 0, locals := 40 * d } 0 0 3 ∧ (Cond.instanceMethod y).before args s = true ∧ (Cond.selects C y y).before args s = true)) (dd : decode cc pc = .ok (.invokevirtual index, 3)) (hroom : (st.map fun v => v.category).sum ≤ 8) (hcs : cells ≤ R.cells ∧ slots ≤ R.slots) (k : ∀ r : Int64, post r → xJ p l e R s m args below meth c cells slots Q D cl A nL (S) (ws) (vs) (pc + 3) (.long r :: st)) : xJ p l e R s m args below meth c cells slots Q D cl A nL (S) (ws) (vs) (pc) (a3 :: a2 :: a1 :: .ref b :: st) := fun H locs ls hP hD hS hl => x_samel (va_runVN (As := [a1, a2, a3]) (rest := st) ⟨G.1, G.2.1, G.2.2.1, G.2.2.2.1, G.2.2.2.2.1⟩ hM cw ⟨fun a U g mk q => by obtain ⟨q0, qP, qK, qN, qD⟩ := q; exact ⟨q0, qP, va_K.moved (u := U) (U := U.calling g mk a) (Vm.Alike.refl U.vm) qK, fun c hc => ⟨(qN c hc).1, nest_same (s := U) (U := U.calling g mk a) (qN c hc).1 rfl (qN c hc).2⟩, qD⟩, va_recv G.2.2.2.2.2.1 hP hc he, fun U hU hW => ⟨rfl, by rw [hU]; exact hP, va_K.moved hW.alike G.2.2.2.2.2.1, fun c hc => ⟨(G.2.2.2.2.2.2.1 c hc).1, nest_warm (G.2.2.2.2.2.2.1 c hc).1 hW (G.2.2.2.2.2.2.1 c hc).2⟩, hD.weaken (fun _ _ _ _ => trivial)⟩⟩ rfl rfl hl.1 rfl (lv_room hroom) dd ⟨hcs.1, hcs.2⟩) (fun r hr => k r hr H locs ls hP hD hS hl)
theorem x_call0S3i (G : xG p s m args c cc nL own Ts NW D cl tys A) {y : MethodName} {bytes : ByteArray} {maxL index d : Nat} {ret : Option FieldType} {Tc : List Cond} {a1 a2 a3 : Value} {post : Int32 → Prop} (hM : xCi0 l D cl tys NW ws y Tc d [a1, a2, a3] post) (cw : (CallB R s args own index y bytes maxL ret Tc { frames := d, cells := 0, slots := 0, locals := 40 * d } 0 0 3 ∧ (Cond.static y).before args s = true)) (dd : decode cc pc = .ok (.invokestatic index, 3)) (hroom : (st.map fun v => v.category).sum ≤ 8) (hcs : cells ≤ R.cells ∧ slots ≤ R.slots) (k : ∀ r : Int32, post r → xJ p l e R s m args below meth c cells slots Q D cl A nL (S) (ws) (vs) (pc + 3) (.int r :: st)) : xJ p l e R s m args below meth c cells slots Q D cl A nL (S) (ws) (vs) (pc) (a3 :: a2 :: a1 :: st) := fun H locs ls hP hD hS hl => x_samei (va_runS (As := [a1, a2, a3]) (rest := st) ⟨G.1, G.2.1, G.2.2.1, G.2.2.2.1, G.2.2.2.2.1⟩ hM cw ⟨fun a U g mk q => by obtain ⟨q0, qP, qK, qN, qD⟩ := q; exact ⟨q0, qP, va_K.moved (u := U) (U := U.calling g mk a) (Vm.Alike.refl U.vm) qK, fun c hc => ⟨(qN c hc).1, nest_same (s := U) (U := U.calling g mk a) (qN c hc).1 rfl (qN c hc).2⟩, qD⟩, fun U hU hW => ⟨rfl, by rw [hU]; exact hP, va_K.moved hW.alike G.2.2.2.2.2.1, fun c hc => ⟨(G.2.2.2.2.2.2.1 c hc).1, nest_warm (G.2.2.2.2.2.2.1 c hc).1 hW (G.2.2.2.2.2.2.1 c hc).2⟩, hD.weaken (fun _ _ _ _ => trivial)⟩⟩ rfl rfl hl.1 rfl (lv_room hroom) dd ⟨hcs.1, hcs.2⟩) (fun r hr => k r hr H locs ls hP hD hS hl)
theorem x_call0S3l (G : xG p s m args c cc nL own Ts NW D cl tys A) {y : MethodName} {bytes : ByteArray} {maxL index d : Nat} {ret : Option FieldType} {Tc : List Cond} {a1 a2 a3 : Value} {post : Int64 → Prop} (hM : xCl0 l D cl tys NW ws y Tc d [a1, a2, a3] post) (cw : (CallB R s args own index y bytes maxL ret Tc { frames := d, cells := 0, slots := 0, locals := 40 * d } 0 0 3 ∧ (Cond.static y).before args s = true)) (dd : decode cc pc = .ok (.invokestatic index, 3)) (hroom : (st.map fun v => v.category).sum ≤ 8) (hcs : cells ≤ R.cells ∧ slots ≤ R.slots) (k : ∀ r : Int64, post r → xJ p l e R s m args below meth c cells slots Q D cl A nL (S) (ws) (vs) (pc + 3) (.long r :: st)) : xJ p l e R s m args below meth c cells slots Q D cl A nL (S) (ws) (vs) (pc) (a3 :: a2 :: a1 :: st) := fun H locs ls hP hD hS hl => x_samel (va_runS (As := [a1, a2, a3]) (rest := st) ⟨G.1, G.2.1, G.2.2.1, G.2.2.2.1, G.2.2.2.2.1⟩ hM cw ⟨fun a U g mk q => by obtain ⟨q0, qP, qK, qN, qD⟩ := q; exact ⟨q0, qP, va_K.moved (u := U) (U := U.calling g mk a) (Vm.Alike.refl U.vm) qK, fun c hc => ⟨(qN c hc).1, nest_same (s := U) (U := U.calling g mk a) (qN c hc).1 rfl (qN c hc).2⟩, qD⟩, fun U hU hW => ⟨rfl, by rw [hU]; exact hP, va_K.moved hW.alike G.2.2.2.2.2.1, fun c hc => ⟨(G.2.2.2.2.2.2.1 c hc).1, nest_warm (G.2.2.2.2.2.2.1 c hc).1 hW (G.2.2.2.2.2.2.1 c hc).2⟩, hD.weaken (fun _ _ _ _ => trivial)⟩⟩ rfl rfl hl.1 rfl (lv_room hroom) dd ⟨hcs.1, hcs.2⟩) (fun r hr => k r hr H locs ls hP hD hS hl)
theorem x_call0SN3i (G : xG p s m args c cc nL own Ts NW D cl tys A) {host : String} {y : MethodName} {bytes : ByteArray} {maxL index d : Nat} {ret : Option FieldType} {Tc : List Cond} {a1 a2 a3 : Value} {post : Int32 → Prop} (hM : xCi0 l D cl tys NW ws y Tc d [a1, a2, a3] post) (cw : (va_CN R s args own index y host bytes maxL ret Tc { frames := d, cells := 0, slots := 0, locals := 40 * d } 0 0 3 ∧ (Cond.static y).before args s = true ∧ True)) (dd : decode cc pc = .ok (.invokestatic index, 3)) (hroom : (st.map fun v => v.category).sum ≤ 8) (hcs : cells ≤ R.cells ∧ slots ≤ R.slots) (k : ∀ r : Int32, post r → xJ p l e R s m args below meth c cells slots Q D cl A nL (S) (ws) (vs) (pc + 3) (.int r :: st)) : xJ p l e R s m args below meth c cells slots Q D cl A nL (S) (ws) (vs) (pc) (a3 :: a2 :: a1 :: st) := fun H locs ls hP hD hS hl => x_samei (va_runSN (As := [a1, a2, a3]) (rest := st) ⟨G.1, G.2.1, G.2.2.1, G.2.2.2.1, G.2.2.2.2.1⟩ hM cw ⟨fun a U g mk q => by obtain ⟨q0, qP, qK, qN, qD⟩ := q; exact ⟨q0, qP, va_K.moved (u := U) (U := U.calling g mk a) (Vm.Alike.refl U.vm) qK, fun c hc => ⟨(qN c hc).1, nest_same (s := U) (U := U.calling g mk a) (qN c hc).1 rfl (qN c hc).2⟩, qD⟩, fun U hU hW => ⟨rfl, by rw [hU]; exact hP, va_K.moved hW.alike G.2.2.2.2.2.1, fun c hc => ⟨(G.2.2.2.2.2.2.1 c hc).1, nest_warm (G.2.2.2.2.2.2.1 c hc).1 hW (G.2.2.2.2.2.2.1 c hc).2⟩, hD.weaken (fun _ _ _ _ => trivial)⟩⟩ rfl rfl hl.1 rfl (lv_room hroom) dd ⟨hcs.1, hcs.2⟩) (fun r hr => k r hr H locs ls hP hD hS hl)
theorem x_call0SN3l (G : xG p s m args c cc nL own Ts NW D cl tys A) {host : String} {y : MethodName} {bytes : ByteArray} {maxL index d : Nat} {ret : Option FieldType} {Tc : List Cond} {a1 a2 a3 : Value} {post : Int64 → Prop} (hM : xCl0 l D cl tys NW ws y Tc d [a1, a2, a3] post) (cw : (va_CN R s args own index y host bytes maxL ret Tc { frames := d, cells := 0, slots := 0, locals := 40 * d } 0 0 3 ∧ (Cond.static y).before args s = true ∧ True)) (dd : decode cc pc = .ok (.invokestatic index, 3)) (hroom : (st.map fun v => v.category).sum ≤ 8) (hcs : cells ≤ R.cells ∧ slots ≤ R.slots) (k : ∀ r : Int64, post r → xJ p l e R s m args below meth c cells slots Q D cl A nL (S) (ws) (vs) (pc + 3) (.long r :: st)) : xJ p l e R s m args below meth c cells slots Q D cl A nL (S) (ws) (vs) (pc) (a3 :: a2 :: a1 :: st) := fun H locs ls hP hD hS hl => x_samel (va_runSN (As := [a1, a2, a3]) (rest := st) ⟨G.1, G.2.1, G.2.2.1, G.2.2.2.1, G.2.2.2.2.1⟩ hM cw ⟨fun a U g mk q => by obtain ⟨q0, qP, qK, qN, qD⟩ := q; exact ⟨q0, qP, va_K.moved (u := U) (U := U.calling g mk a) (Vm.Alike.refl U.vm) qK, fun c hc => ⟨(qN c hc).1, nest_same (s := U) (U := U.calling g mk a) (qN c hc).1 rfl (qN c hc).2⟩, qD⟩, fun U hU hW => ⟨rfl, by rw [hU]; exact hP, va_K.moved hW.alike G.2.2.2.2.2.1, fun c hc => ⟨(G.2.2.2.2.2.2.1 c hc).1, nest_warm (G.2.2.2.2.2.2.1 c hc).1 hW (G.2.2.2.2.2.2.1 c hc).2⟩, hD.weaken (fun _ _ _ _ => trivial)⟩⟩ rfl rfl hl.1 rfl (lv_room hroom) dd ⟨hcs.1, hcs.2⟩) (fun r hr => k r hr H locs ls hP hD hS hl)
theorem x_call0V4i (G : xG p s m args c cc nL own Ts NW D cl tys A) {b : Nat} {C : String} {y : MethodName} {bytes : ByteArray} {maxL index d : Nat} {ret : Option FieldType} {Tc : List Cond} {a1 a2 a3 a4 : Value} {post : Int32 → Prop} (hM : xCi0 l D cl tys NW ws y Tc d [.ref b, a1, a2, a3, a4] post) (q0 : Nat) {fs : List Value} {ci : Nat} {T : u_T} {N : Nat} (he : ws[q0]? = some (b, .inr (ci, fs))) (hc : cl[ci]? = some (C, T, N)) (cw : CallW R s args own C index y bytes maxL ret Tc { frames := d, cells := 0, slots := 0, locals := 40 * d } 0 0 4) (dd : decode cc pc = .ok (.invokevirtual index, 3)) (hroom : (st.map fun v => v.category).sum ≤ 8) (hcs : cells ≤ R.cells ∧ slots ≤ R.slots) (k : ∀ r : Int32, post r → xJ p l e R s m args below meth c cells slots Q D cl A nL (S) (ws) (vs) (pc + 3) (.int r :: st)) : xJ p l e R s m args below meth c cells slots Q D cl A nL (S) (ws) (vs) (pc) (a4 :: a3 :: a2 :: a1 :: .ref b :: st) := fun H locs ls hP hD hS hl => x_samei (va_runV (As := [a1, a2, a3, a4]) (rest := st) ⟨G.1, G.2.1, G.2.2.1, G.2.2.2.1, G.2.2.2.2.1⟩ hM cw ⟨fun a U g mk q => by obtain ⟨q0, qP, qK, qN, qD⟩ := q; exact ⟨q0, qP, va_K.moved (u := U) (U := U.calling g mk a) (Vm.Alike.refl U.vm) qK, fun c hc => ⟨(qN c hc).1, nest_same (s := U) (U := U.calling g mk a) (qN c hc).1 rfl (qN c hc).2⟩, qD⟩, va_recv G.2.2.2.2.2.1 hP hc he, fun U hU hW => ⟨rfl, by rw [hU]; exact hP, va_K.moved hW.alike G.2.2.2.2.2.1, fun c hc => ⟨(G.2.2.2.2.2.2.1 c hc).1, nest_warm (G.2.2.2.2.2.2.1 c hc).1 hW (G.2.2.2.2.2.2.1 c hc).2⟩, hD.weaken (fun _ _ _ _ => trivial)⟩⟩ rfl rfl hl.1 rfl (lv_room hroom) dd ⟨hcs.1, hcs.2⟩) (fun r hr => k r hr H locs ls hP hD hS hl)
theorem x_call0V4l (G : xG p s m args c cc nL own Ts NW D cl tys A) {b : Nat} {C : String} {y : MethodName} {bytes : ByteArray} {maxL index d : Nat} {ret : Option FieldType} {Tc : List Cond} {a1 a2 a3 a4 : Value} {post : Int64 → Prop} (hM : xCl0 l D cl tys NW ws y Tc d [.ref b, a1, a2, a3, a4] post) (q0 : Nat) {fs : List Value} {ci : Nat} {T : u_T} {N : Nat} (he : ws[q0]? = some (b, .inr (ci, fs))) (hc : cl[ci]? = some (C, T, N)) (cw : CallW R s args own C index y bytes maxL ret Tc { frames := d, cells := 0, slots := 0, locals := 40 * d } 0 0 4) (dd : decode cc pc = .ok (.invokevirtual index, 3)) (hroom : (st.map fun v => v.category).sum ≤ 8) (hcs : cells ≤ R.cells ∧ slots ≤ R.slots) (k : ∀ r : Int64, post r → xJ p l e R s m args below meth c cells slots Q D cl A nL (S) (ws) (vs) (pc + 3) (.long r :: st)) : xJ p l e R s m args below meth c cells slots Q D cl A nL (S) (ws) (vs) (pc) (a4 :: a3 :: a2 :: a1 :: .ref b :: st) := fun H locs ls hP hD hS hl => x_samel (va_runV (As := [a1, a2, a3, a4]) (rest := st) ⟨G.1, G.2.1, G.2.2.1, G.2.2.2.1, G.2.2.2.2.1⟩ hM cw ⟨fun a U g mk q => by obtain ⟨q0, qP, qK, qN, qD⟩ := q; exact ⟨q0, qP, va_K.moved (u := U) (U := U.calling g mk a) (Vm.Alike.refl U.vm) qK, fun c hc => ⟨(qN c hc).1, nest_same (s := U) (U := U.calling g mk a) (qN c hc).1 rfl (qN c hc).2⟩, qD⟩, va_recv G.2.2.2.2.2.1 hP hc he, fun U hU hW => ⟨rfl, by rw [hU]; exact hP, va_K.moved hW.alike G.2.2.2.2.2.1, fun c hc => ⟨(G.2.2.2.2.2.2.1 c hc).1, nest_warm (G.2.2.2.2.2.2.1 c hc).1 hW (G.2.2.2.2.2.2.1 c hc).2⟩, hD.weaken (fun _ _ _ _ => trivial)⟩⟩ rfl rfl hl.1 rfl (lv_room hroom) dd ⟨hcs.1, hcs.2⟩) (fun r hr => k r hr H locs ls hP hD hS hl)
theorem x_call0VN4i (G : xG p s m args c cc nL own Ts NW D cl tys A) {b : Nat} {C : String} {host : String} {y : MethodName} {bytes : ByteArray} {maxL index d : Nat} {ret : Option FieldType} {Tc : List Cond} {a1 a2 a3 a4 : Value} {post : Int32 → Prop} (hM : xCi0 l D cl tys NW ws y Tc d [.ref b, a1, a2, a3, a4] post) (q0 : Nat) {fs : List Value} {ci : Nat} {T : u_T} {N : Nat} (he : ws[q0]? = some (b, .inr (ci, fs))) (hc : cl[ci]? = some (C, T, N)) (cw : (va_CN R s args own index y host bytes maxL ret Tc { frames := d, cells := 0, slots := 0, locals := 40 * d } 0 0 4 ∧ (Cond.instanceMethod y).before args s = true ∧ (Cond.selects C y y).before args s = true)) (dd : decode cc pc = .ok (.invokevirtual index, 3)) (hroom : (st.map fun v => v.category).sum ≤ 8) (hcs : cells ≤ R.cells ∧ slots ≤ R.slots) (k : ∀ r : Int32, post r → xJ p l e R s m args below meth c cells slots Q D cl A nL (S) (ws) (vs) (pc + 3) (.int r :: st)) : xJ p l e R s m args below meth c cells slots Q D cl A nL (S) (ws) (vs) (pc) (a4 :: a3 :: a2 :: a1 :: .ref b :: st) := fun H locs ls hP hD hS hl => x_samei (va_runVN (As := [a1, a2, a3, a4]) (rest := st) ⟨G.1, G.2.1, G.2.2.1, G.2.2.2.1, G.2.2.2.2.1⟩ hM cw ⟨fun a U g mk q => by obtain ⟨q0, qP, qK, qN, qD⟩ := q; exact ⟨q0, qP, va_K.moved (u := U) (U := U.calling g mk a) (Vm.Alike.refl U.vm) qK, fun c hc => ⟨(qN c hc).1, nest_same (s := U) (U := U.calling g mk a) (qN c hc).1 rfl (qN c hc).2⟩, qD⟩, va_recv G.2.2.2.2.2.1 hP hc he, fun U hU hW => ⟨rfl, by rw [hU]; exact hP, va_K.moved hW.alike G.2.2.2.2.2.1, fun c hc => ⟨(G.2.2.2.2.2.2.1 c hc).1, nest_warm (G.2.2.2.2.2.2.1 c hc).1 hW (G.2.2.2.2.2.2.1 c hc).2⟩, hD.weaken (fun _ _ _ _ => trivial)⟩⟩ rfl rfl hl.1 rfl (lv_room hroom) dd ⟨hcs.1, hcs.2⟩) (fun r hr => k r hr H locs ls hP hD hS hl)
theorem x_call0VN4l (G : xG p s m args c cc nL own Ts NW D cl tys A) {b : Nat} {C : String} {host : String} {y : MethodName} {bytes : ByteArray} {maxL index d : Nat} {ret : Option FieldType} {Tc : List Cond} {a1 a2 a3 a4 : Value} {post : Int64 → Prop} (hM : xCl0 l D cl tys NW ws y Tc d [.ref b, a1, a2, a3, a4] post) (q0 : Nat) {fs : List Value} {ci : Nat} {T : u_T} {N : Nat} (he : ws[q0]? = some (b, .inr (ci, fs))) (hc : cl[ci]? = some (C, T, N)) (cw : (va_CN R s args own index y host bytes maxL ret Tc { frames := d, cells := 0, slots := 0, locals := 40 * d } 0 0 4 ∧ (Cond.instanceMethod y).before args s = true ∧ (Cond.selects C y y).before args s = true)) (dd : decode cc pc = .ok (.invokevirtual index, 3)) (hroom : (st.map fun v => v.category).sum ≤ 8) (hcs : cells ≤ R.cells ∧ slots ≤ R.slots) (k : ∀ r : Int64, post r → xJ p l e R s m args below meth c cells slots Q D cl A nL (S) (ws) (vs) (pc + 3) (.long r :: st)) : xJ p l e R s m args below meth c cells slots Q D cl A nL (S) (ws) (vs) (pc) (a4 :: a3 :: a2 :: a1 :: .ref b :: st) := fun H locs ls hP hD hS hl => x_samel (va_runVN (As := [a1, a2, a3, a4]) (rest := st) ⟨G.1, G.2.1, G.2.2.1, G.2.2.2.1, G.2.2.2.2.1⟩ hM cw ⟨fun a U g mk q => by obtain ⟨q0, qP, qK, qN, qD⟩ := q; exact ⟨q0, qP, va_K.moved (u := U) (U := U.calling g mk a) (Vm.Alike.refl U.vm) qK, fun c hc => ⟨(qN c hc).1, nest_same (s := U) (U := U.calling g mk a) (qN c hc).1 rfl (qN c hc).2⟩, qD⟩, va_recv G.2.2.2.2.2.1 hP hc he, fun U hU hW => ⟨rfl, by rw [hU]; exact hP, va_K.moved hW.alike G.2.2.2.2.2.1, fun c hc => ⟨(G.2.2.2.2.2.2.1 c hc).1, nest_warm (G.2.2.2.2.2.2.1 c hc).1 hW (G.2.2.2.2.2.2.1 c hc).2⟩, hD.weaken (fun _ _ _ _ => trivial)⟩⟩ rfl rfl hl.1 rfl (lv_room hroom) dd ⟨hcs.1, hcs.2⟩) (fun r hr => k r hr H locs ls hP hD hS hl)
theorem x_call0S4i (G : xG p s m args c cc nL own Ts NW D cl tys A) {y : MethodName} {bytes : ByteArray} {maxL index d : Nat} {ret : Option FieldType} {Tc : List Cond} {a1 a2 a3 a4 : Value} {post : Int32 → Prop} (hM : xCi0 l D cl tys NW ws y Tc d [a1, a2, a3, a4] post) (cw : (CallB R s args own index y bytes maxL ret Tc { frames := d, cells := 0, slots := 0, locals := 40 * d } 0 0 4 ∧ (Cond.static y).before args s = true)) (dd : decode cc pc = .ok (.invokestatic index, 3)) (hroom : (st.map fun v => v.category).sum ≤ 8) (hcs : cells ≤ R.cells ∧ slots ≤ R.slots) (k : ∀ r : Int32, post r → xJ p l e R s m args below meth c cells slots Q D cl A nL (S) (ws) (vs) (pc + 3) (.int r :: st)) : xJ p l e R s m args below meth c cells slots Q D cl A nL (S) (ws) (vs) (pc) (a4 :: a3 :: a2 :: a1 :: st) := fun H locs ls hP hD hS hl => x_samei (va_runS (As := [a1, a2, a3, a4]) (rest := st) ⟨G.1, G.2.1, G.2.2.1, G.2.2.2.1, G.2.2.2.2.1⟩ hM cw ⟨fun a U g mk q => by obtain ⟨q0, qP, qK, qN, qD⟩ := q; exact ⟨q0, qP, va_K.moved (u := U) (U := U.calling g mk a) (Vm.Alike.refl U.vm) qK, fun c hc => ⟨(qN c hc).1, nest_same (s := U) (U := U.calling g mk a) (qN c hc).1 rfl (qN c hc).2⟩, qD⟩, fun U hU hW => ⟨rfl, by rw [hU]; exact hP, va_K.moved hW.alike G.2.2.2.2.2.1, fun c hc => ⟨(G.2.2.2.2.2.2.1 c hc).1, nest_warm (G.2.2.2.2.2.2.1 c hc).1 hW (G.2.2.2.2.2.2.1 c hc).2⟩, hD.weaken (fun _ _ _ _ => trivial)⟩⟩ rfl rfl hl.1 rfl (lv_room hroom) dd ⟨hcs.1, hcs.2⟩) (fun r hr => k r hr H locs ls hP hD hS hl)
theorem x_call0S4l (G : xG p s m args c cc nL own Ts NW D cl tys A) {y : MethodName} {bytes : ByteArray} {maxL index d : Nat} {ret : Option FieldType} {Tc : List Cond} {a1 a2 a3 a4 : Value} {post : Int64 → Prop} (hM : xCl0 l D cl tys NW ws y Tc d [a1, a2, a3, a4] post) (cw : (CallB R s args own index y bytes maxL ret Tc { frames := d, cells := 0, slots := 0, locals := 40 * d } 0 0 4 ∧ (Cond.static y).before args s = true)) (dd : decode cc pc = .ok (.invokestatic index, 3)) (hroom : (st.map fun v => v.category).sum ≤ 8) (hcs : cells ≤ R.cells ∧ slots ≤ R.slots) (k : ∀ r : Int64, post r → xJ p l e R s m args below meth c cells slots Q D cl A nL (S) (ws) (vs) (pc + 3) (.long r :: st)) : xJ p l e R s m args below meth c cells slots Q D cl A nL (S) (ws) (vs) (pc) (a4 :: a3 :: a2 :: a1 :: st) := fun H locs ls hP hD hS hl => x_samel (va_runS (As := [a1, a2, a3, a4]) (rest := st) ⟨G.1, G.2.1, G.2.2.1, G.2.2.2.1, G.2.2.2.2.1⟩ hM cw ⟨fun a U g mk q => by obtain ⟨q0, qP, qK, qN, qD⟩ := q; exact ⟨q0, qP, va_K.moved (u := U) (U := U.calling g mk a) (Vm.Alike.refl U.vm) qK, fun c hc => ⟨(qN c hc).1, nest_same (s := U) (U := U.calling g mk a) (qN c hc).1 rfl (qN c hc).2⟩, qD⟩, fun U hU hW => ⟨rfl, by rw [hU]; exact hP, va_K.moved hW.alike G.2.2.2.2.2.1, fun c hc => ⟨(G.2.2.2.2.2.2.1 c hc).1, nest_warm (G.2.2.2.2.2.2.1 c hc).1 hW (G.2.2.2.2.2.2.1 c hc).2⟩, hD.weaken (fun _ _ _ _ => trivial)⟩⟩ rfl rfl hl.1 rfl (lv_room hroom) dd ⟨hcs.1, hcs.2⟩) (fun r hr => k r hr H locs ls hP hD hS hl)
theorem x_call0SN4i (G : xG p s m args c cc nL own Ts NW D cl tys A) {host : String} {y : MethodName} {bytes : ByteArray} {maxL index d : Nat} {ret : Option FieldType} {Tc : List Cond} {a1 a2 a3 a4 : Value} {post : Int32 → Prop} (hM : xCi0 l D cl tys NW ws y Tc d [a1, a2, a3, a4] post) (cw : (va_CN R s args own index y host bytes maxL ret Tc { frames := d, cells := 0, slots := 0, locals := 40 * d } 0 0 4 ∧ (Cond.static y).before args s = true ∧ True)) (dd : decode cc pc = .ok (.invokestatic index, 3)) (hroom : (st.map fun v => v.category).sum ≤ 8) (hcs : cells ≤ R.cells ∧ slots ≤ R.slots) (k : ∀ r : Int32, post r → xJ p l e R s m args below meth c cells slots Q D cl A nL (S) (ws) (vs) (pc + 3) (.int r :: st)) : xJ p l e R s m args below meth c cells slots Q D cl A nL (S) (ws) (vs) (pc) (a4 :: a3 :: a2 :: a1 :: st) := fun H locs ls hP hD hS hl => x_samei (va_runSN (As := [a1, a2, a3, a4]) (rest := st) ⟨G.1, G.2.1, G.2.2.1, G.2.2.2.1, G.2.2.2.2.1⟩ hM cw ⟨fun a U g mk q => by obtain ⟨q0, qP, qK, qN, qD⟩ := q; exact ⟨q0, qP, va_K.moved (u := U) (U := U.calling g mk a) (Vm.Alike.refl U.vm) qK, fun c hc => ⟨(qN c hc).1, nest_same (s := U) (U := U.calling g mk a) (qN c hc).1 rfl (qN c hc).2⟩, qD⟩, fun U hU hW => ⟨rfl, by rw [hU]; exact hP, va_K.moved hW.alike G.2.2.2.2.2.1, fun c hc => ⟨(G.2.2.2.2.2.2.1 c hc).1, nest_warm (G.2.2.2.2.2.2.1 c hc).1 hW (G.2.2.2.2.2.2.1 c hc).2⟩, hD.weaken (fun _ _ _ _ => trivial)⟩⟩ rfl rfl hl.1 rfl (lv_room hroom) dd ⟨hcs.1, hcs.2⟩) (fun r hr => k r hr H locs ls hP hD hS hl)
theorem x_call0SN4l (G : xG p s m args c cc nL own Ts NW D cl tys A) {host : String} {y : MethodName} {bytes : ByteArray} {maxL index d : Nat} {ret : Option FieldType} {Tc : List Cond} {a1 a2 a3 a4 : Value} {post : Int64 → Prop} (hM : xCl0 l D cl tys NW ws y Tc d [a1, a2, a3, a4] post) (cw : (va_CN R s args own index y host bytes maxL ret Tc { frames := d, cells := 0, slots := 0, locals := 40 * d } 0 0 4 ∧ (Cond.static y).before args s = true ∧ True)) (dd : decode cc pc = .ok (.invokestatic index, 3)) (hroom : (st.map fun v => v.category).sum ≤ 8) (hcs : cells ≤ R.cells ∧ slots ≤ R.slots) (k : ∀ r : Int64, post r → xJ p l e R s m args below meth c cells slots Q D cl A nL (S) (ws) (vs) (pc + 3) (.long r :: st)) : xJ p l e R s m args below meth c cells slots Q D cl A nL (S) (ws) (vs) (pc) (a4 :: a3 :: a2 :: a1 :: st) := fun H locs ls hP hD hS hl => x_samel (va_runSN (As := [a1, a2, a3, a4]) (rest := st) ⟨G.1, G.2.1, G.2.2.1, G.2.2.2.1, G.2.2.2.2.1⟩ hM cw ⟨fun a U g mk q => by obtain ⟨q0, qP, qK, qN, qD⟩ := q; exact ⟨q0, qP, va_K.moved (u := U) (U := U.calling g mk a) (Vm.Alike.refl U.vm) qK, fun c hc => ⟨(qN c hc).1, nest_same (s := U) (U := U.calling g mk a) (qN c hc).1 rfl (qN c hc).2⟩, qD⟩, fun U hU hW => ⟨rfl, by rw [hU]; exact hP, va_K.moved hW.alike G.2.2.2.2.2.1, fun c hc => ⟨(G.2.2.2.2.2.2.1 c hc).1, nest_warm (G.2.2.2.2.2.2.1 c hc).1 hW (G.2.2.2.2.2.2.1 c hc).2⟩, hD.weaken (fun _ _ _ _ => trivial)⟩⟩ rfl rfl hl.1 rfl (lv_room hroom) dd ⟨hcs.1, hcs.2⟩) (fun r hr => k r hr H locs ls hP hD hS hl)
end XL
end
section
-- ===== PART A: goes FIRST, ahead of the names: the tables' words, and 'selects' of the private methods out of them =====
/-- a private method of a class that the tables say can be made, by its rows of tables_1 -/
def lw_okq (q : MethodName × Nat) : Prop := (q.1.cls ≠ "java/lang/invoke/MethodHandle" ∧ q.1.cls ≠ "java/lang/invoke/VarHandle") ∧ Cond.instantiable q.1.cls q.2 ∈ tables_1 ∧ Cond.privateMethod q.1 ∈ tables_1 ∧ Cond.instanceMethod q.1 ∈ tables_1
theorem lw_p0 : lw_okq (⟨"CranePlan$Search", "makeBest", "()Z"⟩, 9) := ⟨⟨by decide +kernel, by decide +kernel⟩, List.mem_of_getElem? (i := 138) (by decide +kernel), List.mem_of_getElem? (i := 199) (by decide +kernel), List.mem_of_getElem? (i := 200) (by decide +kernel)⟩
theorem lw_p1 : lw_okq (⟨"CranePlan$Search", "gather", "()V"⟩, 9) := ⟨⟨by decide +kernel, by decide +kernel⟩, List.mem_of_getElem? (i := 138) (by decide +kernel), List.mem_of_getElem? (i := 203) (by decide +kernel), List.mem_of_getElem? (i := 204) (by decide +kernel)⟩
theorem lw_p2 : lw_okq (⟨"CranePlan$Bays", "movesOf", "(I)I"⟩, 3) := ⟨⟨by decide +kernel, by decide +kernel⟩, List.mem_of_getElem? (i := 26) (by decide +kernel), List.mem_of_getElem? (i := 208) (by decide +kernel), List.mem_of_getElem? (i := 209) (by decide +kernel)⟩
theorem lw_p3 : lw_okq (⟨"CranePlan$Bays", "has", "(I)Z"⟩, 3) := ⟨⟨by decide +kernel, by decide +kernel⟩, List.mem_of_getElem? (i := 26) (by decide +kernel), List.mem_of_getElem? (i := 212) (by decide +kernel), List.mem_of_getElem? (i := 213) (by decide +kernel)⟩
theorem lw_p4 : lw_okq (⟨"CranePlan$Cranes", "isOut", "(I)Z"⟩, 6) := ⟨⟨by decide +kernel, by decide +kernel⟩, List.mem_of_getElem? (i := 46) (by decide +kernel), List.mem_of_getElem? (i := 216) (by decide +kernel), List.mem_of_getElem? (i := 217) (by decide +kernel)⟩
theorem lw_p5 : lw_okq (⟨"CranePlan$Cranes", "has", "(I)Z"⟩, 6) := ⟨⟨by decide +kernel, by decide +kernel⟩, List.mem_of_getElem? (i := 46) (by decide +kernel), List.mem_of_getElem? (i := 220) (by decide +kernel), List.mem_of_getElem? (i := 221) (by decide +kernel)⟩
theorem lw_p6 : lw_okq (⟨"CranePlan$Search", "share", "([I)V"⟩, 9) := ⟨⟨by decide +kernel, by decide +kernel⟩, List.mem_of_getElem? (i := 138) (by decide +kernel), List.mem_of_getElem? (i := 225) (by decide +kernel), List.mem_of_getElem? (i := 226) (by decide +kernel)⟩
theorem lw_p7 : lw_okq (⟨"CranePlan$Timetable", "clear", "()V"⟩, 12) := ⟨⟨by decide +kernel, by decide +kernel⟩, List.mem_of_getElem? (i := 87) (by decide +kernel), List.mem_of_getElem? (i := 229) (by decide +kernel), List.mem_of_getElem? (i := 230) (by decide +kernel)⟩
theorem lw_p8 : lw_okq (⟨"CranePlan$Timetable", "give", "(II)V"⟩, 12) := ⟨⟨by decide +kernel, by decide +kernel⟩, List.mem_of_getElem? (i := 87) (by decide +kernel), List.mem_of_getElem? (i := 234) (by decide +kernel), List.mem_of_getElem? (i := 235) (by decide +kernel)⟩
theorem lw_p9 : lw_okq (⟨"CranePlan$Timetable", "keepsApart", "()Z"⟩, 12) := ⟨⟨by decide +kernel, by decide +kernel⟩, List.mem_of_getElem? (i := 87) (by decide +kernel), List.mem_of_getElem? (i := 240) (by decide +kernel), List.mem_of_getElem? (i := 241) (by decide +kernel)⟩
theorem lw_p10 : lw_okq (⟨"CranePlan$Timetable", "tooNear", "(II)Z"⟩, 12) := ⟨⟨by decide +kernel, by decide +kernel⟩, List.mem_of_getElem? (i := 87) (by decide +kernel), List.mem_of_getElem? (i := 244) (by decide +kernel), List.mem_of_getElem? (i := 245) (by decide +kernel)⟩
theorem lw_p11 : lw_okq (⟨"CranePlan$Timetable", "setTimes", "()V"⟩, 12) := ⟨⟨by decide +kernel, by decide +kernel⟩, List.mem_of_getElem? (i := 87) (by decide +kernel), List.mem_of_getElem? (i := 248) (by decide +kernel), List.mem_of_getElem? (i := 249) (by decide +kernel)⟩
theorem lw_p12 : lw_okq (⟨"CranePlan$Timetable", "setTimesOf", "(II)V"⟩, 12) := ⟨⟨by decide +kernel, by decide +kernel⟩, List.mem_of_getElem? (i := 87) (by decide +kernel), List.mem_of_getElem? (i := 252) (by decide +kernel), List.mem_of_getElem? (i := 253) (by decide +kernel)⟩
theorem lw_p13 : lw_okq (⟨"CranePlan$Cranes", "timeFor", "(II)I"⟩, 6) := ⟨⟨by decide +kernel, by decide +kernel⟩, List.mem_of_getElem? (i := 46) (by decide +kernel), List.mem_of_getElem? (i := 258) (by decide +kernel), List.mem_of_getElem? (i := 259) (by decide +kernel)⟩
theorem lw_p14 : lw_okq (⟨"CranePlan$Timetable", "whenCame", "(II)I"⟩, 12) := ⟨⟨by decide +kernel, by decide +kernel⟩, List.mem_of_getElem? (i := 87) (by decide +kernel), List.mem_of_getElem? (i := 265) (by decide +kernel), List.mem_of_getElem? (i := 266) (by decide +kernel)⟩
theorem lw_p15 : lw_okq (⟨"CranePlan$Timetable", "isBetterThan", "(II)Z"⟩, 12) := ⟨⟨by decide +kernel, by decide +kernel⟩, List.mem_of_getElem? (i := 87) (by decide +kernel), List.mem_of_getElem? (i := 269) (by decide +kernel), List.mem_of_getElem? (i := 270) (by decide +kernel)⟩
def lw_privs_1 : List (MethodName × Nat) := [(⟨"CranePlan$Search", "makeBest", "()Z"⟩, 9), (⟨"CranePlan$Search", "gather", "()V"⟩, 9), (⟨"CranePlan$Bays", "movesOf", "(I)I"⟩, 3), (⟨"CranePlan$Bays", "has", "(I)Z"⟩, 3), (⟨"CranePlan$Cranes", "isOut", "(I)Z"⟩, 6), (⟨"CranePlan$Cranes", "has", "(I)Z"⟩, 6), (⟨"CranePlan$Search", "share", "([I)V"⟩, 9), (⟨"CranePlan$Timetable", "clear", "()V"⟩, 12), (⟨"CranePlan$Timetable", "give", "(II)V"⟩, 12), (⟨"CranePlan$Timetable", "keepsApart", "()Z"⟩, 12), (⟨"CranePlan$Timetable", "tooNear", "(II)Z"⟩, 12), (⟨"CranePlan$Timetable", "setTimes", "()V"⟩, 12), (⟨"CranePlan$Timetable", "setTimesOf", "(II)V"⟩, 12), (⟨"CranePlan$Cranes", "timeFor", "(II)I"⟩, 6), (⟨"CranePlan$Timetable", "whenCame", "(II)I"⟩, 12), (⟨"CranePlan$Timetable", "isBetterThan", "(II)Z"⟩, 12)]
theorem lw_r1 : ∀ q ∈ lw_privs_1, lw_okq q := List.forall_mem_cons.mpr ⟨lw_p0, List.forall_mem_cons.mpr ⟨lw_p1, List.forall_mem_cons.mpr ⟨lw_p2, List.forall_mem_cons.mpr ⟨lw_p3, List.forall_mem_cons.mpr ⟨lw_p4, List.forall_mem_cons.mpr ⟨lw_p5, List.forall_mem_cons.mpr ⟨lw_p6, List.forall_mem_cons.mpr ⟨lw_p7, List.forall_mem_cons.mpr ⟨lw_p8, List.forall_mem_cons.mpr ⟨lw_p9, List.forall_mem_cons.mpr ⟨lw_p10, List.forall_mem_cons.mpr ⟨lw_p11, List.forall_mem_cons.mpr ⟨lw_p12, List.forall_mem_cons.mpr ⟨lw_p13, List.forall_mem_cons.mpr ⟨lw_p14, List.forall_mem_cons.mpr ⟨lw_p15, fun _ h => absurd h List.not_mem_nil⟩⟩⟩⟩⟩⟩⟩⟩⟩⟩⟩⟩⟩⟩⟩⟩
theorem lw_p16 : lw_okq (⟨"CranePlan$Search", "nextChoice", "()Z"⟩, 9) := ⟨⟨by decide +kernel, by decide +kernel⟩, List.mem_of_getElem? (i := 138) (by decide +kernel), List.mem_of_getElem? (i := 276) (by decide +kernel), List.mem_of_getElem? (i := 277) (by decide +kernel)⟩
theorem lw_p17 : lw_okq (⟨"CranePlan$Timetable", "sortRows", "()V"⟩, 12) := ⟨⟨by decide +kernel, by decide +kernel⟩, List.mem_of_getElem? (i := 87) (by decide +kernel), List.mem_of_getElem? (i := 280) (by decide +kernel), List.mem_of_getElem? (i := 281) (by decide +kernel)⟩
theorem lw_p18 : lw_okq (⟨"CranePlan$Timetable", "beginsAhead", "(II)Z"⟩, 12) := ⟨⟨by decide +kernel, by decide +kernel⟩, List.mem_of_getElem? (i := 87) (by decide +kernel), List.mem_of_getElem? (i := 284) (by decide +kernel), List.mem_of_getElem? (i := 285) (by decide +kernel)⟩
theorem lw_p19 : lw_okq (⟨"CranePlan$Cranes", "able", "()I"⟩, 6) := ⟨⟨by decide +kernel, by decide +kernel⟩, List.mem_of_getElem? (i := 46) (by decide +kernel), List.mem_of_getElem? (i := 292) (by decide +kernel), List.mem_of_getElem? (i := 293) (by decide +kernel)⟩
theorem lw_p20 : lw_okq (⟨"CranePlan$Bays", "allMoves", "()I"⟩, 3) := ⟨⟨by decide +kernel, by decide +kernel⟩, List.mem_of_getElem? (i := 26) (by decide +kernel), List.mem_of_getElem? (i := 297) (by decide +kernel), List.mem_of_getElem? (i := 298) (by decide +kernel)⟩
theorem lw_p21 : lw_okq (⟨"CranePlan$Cranes", "timeTogether", "(I)I"⟩, 6) := ⟨⟨by decide +kernel, by decide +kernel⟩, List.mem_of_getElem? (i := 46) (by decide +kernel), List.mem_of_getElem? (i := 302) (by decide +kernel), List.mem_of_getElem? (i := 303) (by decide +kernel)⟩
theorem lw_p22 : lw_okq (⟨"CranePlan$Cranes", "leastTime", "(I)I"⟩, 6) := ⟨⟨by decide +kernel, by decide +kernel⟩, List.mem_of_getElem? (i := 46) (by decide +kernel), List.mem_of_getElem? (i := 307) (by decide +kernel), List.mem_of_getElem? (i := 308) (by decide +kernel)⟩
theorem lw_p23 : lw_okq (⟨"java/lang/Throwable", "fillInStackTrace", "(I)Ljava/lang/Throwable;"⟩, 6) := ⟨⟨by decide +kernel, by decide +kernel⟩, List.mem_of_getElem? (i := 369) (by decide +kernel), List.mem_of_getElem? (i := 367) (by decide +kernel), List.mem_of_getElem? (i := 368) (by decide +kernel)⟩
theorem lw_p24 : lw_okq (⟨"CranePlan$Bays", "isFull", "()Z"⟩, 3) := ⟨⟨by decide +kernel, by decide +kernel⟩, List.mem_of_getElem? (i := 26) (by decide +kernel), List.mem_of_getElem? (i := 399) (by decide +kernel), List.mem_of_getElem? (i := 400) (by decide +kernel)⟩
theorem lw_p25 : lw_okq (⟨"CranePlan$Bays", "add", "(II)I"⟩, 3) := ⟨⟨by decide +kernel, by decide +kernel⟩, List.mem_of_getElem? (i := 26) (by decide +kernel), List.mem_of_getElem? (i := 419) (by decide +kernel), List.mem_of_getElem? (i := 420) (by decide +kernel)⟩
theorem lw_p26 : lw_okq (⟨"CranePlan$Cranes", "setRate", "(III)V"⟩, 6) := ⟨⟨by decide +kernel, by decide +kernel⟩, List.mem_of_getElem? (i := 46) (by decide +kernel), List.mem_of_getElem? (i := 451) (by decide +kernel), List.mem_of_getElem? (i := 452) (by decide +kernel)⟩
theorem lw_p27 : lw_okq (⟨"CranePlan$Timetable", "bayWorkedAt", "(II)I"⟩, 12) := ⟨⟨by decide +kernel, by decide +kernel⟩, List.mem_of_getElem? (i := 87) (by decide +kernel), List.mem_of_getElem? (i := 479) (by decide +kernel), List.mem_of_getElem? (i := 480) (by decide +kernel)⟩
theorem lw_p28 : lw_okq (⟨"CranePlan$Timetable", "bayCameTo", "(II)I"⟩, 12) := ⟨⟨by decide +kernel, by decide +kernel⟩, List.mem_of_getElem? (i := 87) (by decide +kernel), List.mem_of_getElem? (i := 491) (by decide +kernel), List.mem_of_getElem? (i := 492) (by decide +kernel)⟩
theorem lw_p29 : lw_okq (⟨"CranePlan$Timetable", "doneBy", "(II)I"⟩, 12) := ⟨⟨by decide +kernel, by decide +kernel⟩, List.mem_of_getElem? (i := 87) (by decide +kernel), List.mem_of_getElem? (i := 504) (by decide +kernel), List.mem_of_getElem? (i := 505) (by decide +kernel)⟩
theorem lw_p30 : lw_okq (⟨"CranePlan$Cranes", "movesIn", "(II)I"⟩, 6) := ⟨⟨by decide +kernel, by decide +kernel⟩, List.mem_of_getElem? (i := 46) (by decide +kernel), List.mem_of_getElem? (i := 508) (by decide +kernel), List.mem_of_getElem? (i := 509) (by decide +kernel)⟩
theorem lw_p31 : lw_okq (⟨"CranePlan$Bays", "takeOff", "(II)V"⟩, 3) := ⟨⟨by decide +kernel, by decide +kernel⟩, List.mem_of_getElem? (i := 26) (by decide +kernel), List.mem_of_getElem? (i := 512) (by decide +kernel), List.mem_of_getElem? (i := 513) (by decide +kernel)⟩
def lw_privs_2 : List (MethodName × Nat) := [(⟨"CranePlan$Search", "nextChoice", "()Z"⟩, 9), (⟨"CranePlan$Timetable", "sortRows", "()V"⟩, 12), (⟨"CranePlan$Timetable", "beginsAhead", "(II)Z"⟩, 12), (⟨"CranePlan$Cranes", "able", "()I"⟩, 6), (⟨"CranePlan$Bays", "allMoves", "()I"⟩, 3), (⟨"CranePlan$Cranes", "timeTogether", "(I)I"⟩, 6), (⟨"CranePlan$Cranes", "leastTime", "(I)I"⟩, 6), (⟨"java/lang/Throwable", "fillInStackTrace", "(I)Ljava/lang/Throwable;"⟩, 6), (⟨"CranePlan$Bays", "isFull", "()Z"⟩, 3), (⟨"CranePlan$Bays", "add", "(II)I"⟩, 3), (⟨"CranePlan$Cranes", "setRate", "(III)V"⟩, 6), (⟨"CranePlan$Timetable", "bayWorkedAt", "(II)I"⟩, 12), (⟨"CranePlan$Timetable", "bayCameTo", "(II)I"⟩, 12), (⟨"CranePlan$Timetable", "doneBy", "(II)I"⟩, 12), (⟨"CranePlan$Cranes", "movesIn", "(II)I"⟩, 6), (⟨"CranePlan$Bays", "takeOff", "(II)V"⟩, 3)]
theorem lw_r2 : ∀ q ∈ lw_privs_2, lw_okq q := List.forall_mem_cons.mpr ⟨lw_p16, List.forall_mem_cons.mpr ⟨lw_p17, List.forall_mem_cons.mpr ⟨lw_p18, List.forall_mem_cons.mpr ⟨lw_p19, List.forall_mem_cons.mpr ⟨lw_p20, List.forall_mem_cons.mpr ⟨lw_p21, List.forall_mem_cons.mpr ⟨lw_p22, List.forall_mem_cons.mpr ⟨lw_p23, List.forall_mem_cons.mpr ⟨lw_p24, List.forall_mem_cons.mpr ⟨lw_p25, List.forall_mem_cons.mpr ⟨lw_p26, List.forall_mem_cons.mpr ⟨lw_p27, List.forall_mem_cons.mpr ⟨lw_p28, List.forall_mem_cons.mpr ⟨lw_p29, List.forall_mem_cons.mpr ⟨lw_p30, List.forall_mem_cons.mpr ⟨lw_p31, fun _ h => absurd h List.not_mem_nil⟩⟩⟩⟩⟩⟩⟩⟩⟩⟩⟩⟩⟩⟩⟩⟩
theorem lw_p32 : lw_okq (⟨"CranePlan$Cranes", "putOut", "(I)V"⟩, 6) := ⟨⟨by decide +kernel, by decide +kernel⟩, List.mem_of_getElem? (i := 46) (by decide +kernel), List.mem_of_getElem? (i := 517) (by decide +kernel), List.mem_of_getElem? (i := 518) (by decide +kernel)⟩
theorem lw_p33 : lw_okq (⟨"CranePlan$Timetable", "ofRow", "(II)I"⟩, 12) := ⟨⟨by decide +kernel, by decide +kernel⟩, List.mem_of_getElem? (i := 87) (by decide +kernel), List.mem_of_getElem? (i := 530) (by decide +kernel), List.mem_of_getElem? (i := 531) (by decide +kernel)⟩
theorem lw_p34 : lw_okq (⟨"CranePlanModel", "refuse", "(I)I"⟩, 16) := ⟨⟨by decide +kernel, by decide +kernel⟩, List.mem_of_getElem? (i := 543) (by decide +kernel), List.mem_of_getElem? (i := 609) (by decide +kernel), List.mem_of_getElem? (i := 610) (by decide +kernel)⟩
theorem lw_p35 : lw_okq (⟨"CranePlanModel", "isCrane", "(I)Z"⟩, 16) := ⟨⟨by decide +kernel, by decide +kernel⟩, List.mem_of_getElem? (i := 543) (by decide +kernel), List.mem_of_getElem? (i := 617) (by decide +kernel), List.mem_of_getElem? (i := 618) (by decide +kernel)⟩
theorem lw_p36 : lw_okq (⟨"CranePlanModel", "search", "()I"⟩, 16) := ⟨⟨by decide +kernel, by decide +kernel⟩, List.mem_of_getElem? (i := 543) (by decide +kernel), List.mem_of_getElem? (i := 629) (by decide +kernel), List.mem_of_getElem? (i := 630) (by decide +kernel)⟩
theorem lw_p37 : lw_okq (⟨"CranePlanModel", "all", "(I)I"⟩, 16) := ⟨⟨by decide +kernel, by decide +kernel⟩, List.mem_of_getElem? (i := 543) (by decide +kernel), List.mem_of_getElem? (i := 633) (by decide +kernel), List.mem_of_getElem? (i := 634) (by decide +kernel)⟩
theorem lw_p38 : lw_okq (⟨"CranePlanModel", "isAllowed", "()Z"⟩, 16) := ⟨⟨by decide +kernel, by decide +kernel⟩, List.mem_of_getElem? (i := 543) (by decide +kernel), List.mem_of_getElem? (i := 638) (by decide +kernel), List.mem_of_getElem? (i := 639) (by decide +kernel)⟩
theorem lw_p39 : lw_okq (⟨"CranePlanModel", "spans", "()Z"⟩, 16) := ⟨⟨by decide +kernel, by decide +kernel⟩, List.mem_of_getElem? (i := 543) (by decide +kernel), List.mem_of_getElem? (i := 642) (by decide +kernel), List.mem_of_getElem? (i := 643) (by decide +kernel)⟩
theorem lw_p40 : lw_okq (⟨"CranePlanModel", "times", "()I"⟩, 16) := ⟨⟨by decide +kernel, by decide +kernel⟩, List.mem_of_getElem? (i := 543) (by decide +kernel), List.mem_of_getElem? (i := 646) (by decide +kernel), List.mem_of_getElem? (i := 647) (by decide +kernel)⟩
theorem lw_p41 : lw_okq (⟨"CranePlanModel", "takes", "(II)I"⟩, 16) := ⟨⟨by decide +kernel, by decide +kernel⟩, List.mem_of_getElem? (i := 543) (by decide +kernel), List.mem_of_getElem? (i := 650) (by decide +kernel), List.mem_of_getElem? (i := 651) (by decide +kernel)⟩
theorem lw_p42 : lw_okq (⟨"CranePlanModel", "steps", "()I"⟩, 16) := ⟨⟨by decide +kernel, by decide +kernel⟩, List.mem_of_getElem? (i := 543) (by decide +kernel), List.mem_of_getElem? (i := 654) (by decide +kernel), List.mem_of_getElem? (i := 655) (by decide +kernel)⟩
theorem lw_p43 : lw_okq (⟨"CranePlanModel", "goesOn", "()Z"⟩, 16) := ⟨⟨by decide +kernel, by decide +kernel⟩, List.mem_of_getElem? (i := 543) (by decide +kernel), List.mem_of_getElem? (i := 658) (by decide +kernel), List.mem_of_getElem? (i := 659) (by decide +kernel)⟩
theorem lw_p44 : lw_okq (⟨"CranePlanModel", "working", "()I"⟩, 16) := ⟨⟨by decide +kernel, by decide +kernel⟩, List.mem_of_getElem? (i := 543) (by decide +kernel), List.mem_of_getElem? (i := 662) (by decide +kernel), List.mem_of_getElem? (i := 663) (by decide +kernel)⟩
theorem lw_p45 : lw_okq (⟨"CranePlanModel", "lays", "()I"⟩, 16) := ⟨⟨by decide +kernel, by decide +kernel⟩, List.mem_of_getElem? (i := 543) (by decide +kernel), List.mem_of_getElem? (i := 670) (by decide +kernel), List.mem_of_getElem? (i := 671) (by decide +kernel)⟩
theorem lw_p46 : lw_okq (⟨"CranePlanModel", "ahead", "(I)I"⟩, 16) := ⟨⟨by decide +kernel, by decide +kernel⟩, List.mem_of_getElem? (i := 543) (by decide +kernel), List.mem_of_getElem? (i := 690) (by decide +kernel), List.mem_of_getElem? (i := 691) (by decide +kernel)⟩
def lw_privs_3 : List (MethodName × Nat) := [(⟨"CranePlan$Cranes", "putOut", "(I)V"⟩, 6), (⟨"CranePlan$Timetable", "ofRow", "(II)I"⟩, 12), (⟨"CranePlanModel", "refuse", "(I)I"⟩, 16), (⟨"CranePlanModel", "isCrane", "(I)Z"⟩, 16), (⟨"CranePlanModel", "search", "()I"⟩, 16), (⟨"CranePlanModel", "all", "(I)I"⟩, 16), (⟨"CranePlanModel", "isAllowed", "()Z"⟩, 16), (⟨"CranePlanModel", "spans", "()Z"⟩, 16), (⟨"CranePlanModel", "times", "()I"⟩, 16), (⟨"CranePlanModel", "takes", "(II)I"⟩, 16), (⟨"CranePlanModel", "steps", "()I"⟩, 16), (⟨"CranePlanModel", "goesOn", "()Z"⟩, 16), (⟨"CranePlanModel", "working", "()I"⟩, 16), (⟨"CranePlanModel", "lays", "()I"⟩, 16), (⟨"CranePlanModel", "ahead", "(I)I"⟩, 16)]
theorem lw_r3 : ∀ q ∈ lw_privs_3, lw_okq q := List.forall_mem_cons.mpr ⟨lw_p32, List.forall_mem_cons.mpr ⟨lw_p33, List.forall_mem_cons.mpr ⟨lw_p34, List.forall_mem_cons.mpr ⟨lw_p35, List.forall_mem_cons.mpr ⟨lw_p36, List.forall_mem_cons.mpr ⟨lw_p37, List.forall_mem_cons.mpr ⟨lw_p38, List.forall_mem_cons.mpr ⟨lw_p39, List.forall_mem_cons.mpr ⟨lw_p40, List.forall_mem_cons.mpr ⟨lw_p41, List.forall_mem_cons.mpr ⟨lw_p42, List.forall_mem_cons.mpr ⟨lw_p43, List.forall_mem_cons.mpr ⟨lw_p44, List.forall_mem_cons.mpr ⟨lw_p45, List.forall_mem_cons.mpr ⟨lw_p46, fun _ h => absurd h List.not_mem_nil⟩⟩⟩⟩⟩⟩⟩⟩⟩⟩⟩⟩⟩⟩⟩
def lw_privs : List (MethodName × Nat) := lw_privs_1 ++ (lw_privs_2 ++ (lw_privs_3))
def lw_tbl : List Cond := k2_sels lw_privs ++ tables_1
theorem lw_privs_ok : ∀ q ∈ lw_privs, lw_okq q := by
  show ∀ q ∈ lw_privs_1 ++ (lw_privs_2 ++ (lw_privs_3)), lw_okq q
  exact List.forall_mem_append.mpr ⟨lw_r1, List.forall_mem_append.mpr ⟨lw_r2, lw_r3⟩⟩
end
section
/-! NAMES: classes, fields, methods, words (made by wip/whole/tools/names.py out of the claim's own listing) -/
def bigW : List Cond := lw_tbl.filter goodWord
def nwW : List Cond := lw_tbl.filter isNest
theorem inB {w : Cond} (i : Nat) (h : lw_tbl[i]? = some w) (hg : goodWord w = true) : w ∈ bigW := List.mem_filter.mpr ⟨List.mem_of_getElem? h, hg⟩
theorem inN {w : Cond} (i : Nat) (h : lw_tbl[i]? = some w) (hg : isNest w = true) : w ∈ nwW := List.mem_filter.mpr ⟨List.mem_of_getElem? h, hg⟩
theorem bigW_good {w : Cond} (h : w ∈ bigW) : (w.onTables && w.keeps) = true ∨ ∃ ty, w = .arrayClass ty := good_of_word (List.mem_filter.mp h).2
def RB : String := "CranePlan$Bays"
def FB : u_T := fun k => match k with
  | 0 => ("CranePlan$Bays", "hatch", "[I", true)
  | 1 => ("CranePlan$Bays", "work", "[I", true)
  | _ => ("CranePlan$Bays", "total", "I", false)
def tB : Nat → FieldType := fun k => match k with
  | 0 => (.array .int)
  | 1 => (.array .int)
  | _ => .int
abbrev NB : Nat := 3
def RK : String := "CranePlan$Cranes"
def FK : u_T := fun k => match k with
  | 0 => ("CranePlan$Cranes", "total", "I", true)
  | 1 => ("CranePlan$Cranes", "gap", "I", true)
  | 2 => ("CranePlan$Cranes", "moves", "[I", true)
  | 3 => ("CranePlan$Cranes", "minutes", "[I", true)
  | 4 => ("CranePlan$Cranes", "out", "[Z", true)
  | _ => ("CranePlan$Cranes", "stepMinutes", "I", false)
def tK : Nat → FieldType := fun k => match k with
  | 0 => .int
  | 1 => .int
  | 2 => (.array .int)
  | 3 => (.array .int)
  | 4 => (.array .boolean)
  | _ => .int
abbrev NK : Nat := 6
def RS : String := "CranePlan$Search"
def FS : u_T := fun k => match k with
  | 0 => ("CranePlan$Search", "bays", "LCranePlan$Bays;", true)
  | 1 => ("CranePlan$Search", "cranes", "LCranePlan$Cranes;", true)
  | 2 => ("CranePlan$Search", "timetable", "LCranePlan$Timetable;", true)
  | 3 => ("CranePlan$Search", "busy", "[I", true)
  | 4 => ("CranePlan$Search", "able", "[I", true)
  | 5 => ("CranePlan$Search", "choice", "[I", true)
  | 6 => ("CranePlan$Search", "best", "[I", true)
  | 7 => ("CranePlan$Search", "busyBays", "I", false)
  | _ => ("CranePlan$Search", "ableCranes", "I", false)
def tS : Nat → FieldType := fun k => match k with
  | 0 => (.object "CranePlan$Bays")
  | 1 => (.object "CranePlan$Cranes")
  | 2 => (.object "CranePlan$Timetable")
  | 3 => (.array .int)
  | 4 => (.array .int)
  | 5 => (.array .int)
  | 6 => (.array .int)
  | 7 => .int
  | _ => .int
abbrev NS : Nat := 9
def RT : String := "CranePlan$Timetable"
def FT : u_T := fun k => match k with
  | 0 => ("CranePlan$Timetable", "bays", "LCranePlan$Bays;", true)
  | 1 => ("CranePlan$Timetable", "cranes", "LCranePlan$Cranes;", true)
  | 2 => ("CranePlan$Timetable", "craneOf", "[I", true)
  | 3 => ("CranePlan$Timetable", "begin", "[I", true)
  | 4 => ("CranePlan$Timetable", "end", "[I", true)
  | 5 => ("CranePlan$Timetable", "first", "[I", true)
  | 6 => ("CranePlan$Timetable", "last", "[I", true)
  | 7 => ("CranePlan$Timetable", "came", "[[I", true)
  | 8 => ("CranePlan$Timetable", "bayOfRow", "[I", true)
  | 9 => ("CranePlan$Timetable", "rows", "I", false)
  | 10 => ("CranePlan$Timetable", "finish", "I", false)
  | _ => ("CranePlan$Timetable", "steps", "I", false)
def tT : Nat → FieldType := fun k => match k with
  | 0 => (.object "CranePlan$Bays")
  | 1 => (.object "CranePlan$Cranes")
  | 2 => (.array .int)
  | 3 => (.array .int)
  | 4 => (.array .int)
  | 5 => (.array .int)
  | 6 => (.array .int)
  | 7 => (.array (.array .int))
  | 8 => (.array .int)
  | 9 => .int
  | 10 => .int
  | _ => .int
abbrev NT : Nat := 12
def RP : String := "CranePlan"
def FP : u_T := fun k => match k with
  | 0 => ("CranePlan", "bays", "LCranePlan$Bays;", true)
  | 1 => ("CranePlan", "cranes", "LCranePlan$Cranes;", true)
  | 2 => ("CranePlan", "timetable", "LCranePlan$Timetable;", true)
  | 3 => ("CranePlan", "search", "LCranePlan$Search;", true)
  | _ => ("CranePlan", "planned", "Z", false)
def tP : Nat → FieldType := fun k => match k with
  | 0 => (.object "CranePlan$Bays")
  | 1 => (.object "CranePlan$Cranes")
  | 2 => (.object "CranePlan$Timetable")
  | 3 => (.object "CranePlan$Search")
  | _ => .boolean
abbrev NP : Nat := 5
def RM : String := "CranePlanModel"
def FM : u_T := fun k => match k with
  | 0 => ("CranePlanModel", "thrown", "I", false)
  | 1 => ("CranePlanModel", "cranes", "I", true)
  | 2 => ("CranePlanModel", "gap", "I", true)
  | 3 => ("CranePlanModel", "bays", "I", false)
  | 4 => ("CranePlanModel", "hatch", "[I", true)
  | 5 => ("CranePlanModel", "work", "[I", true)
  | 6 => ("CranePlanModel", "moves", "[I", true)
  | 7 => ("CranePlanModel", "minutes", "[I", true)
  | 8 => ("CranePlanModel", "out", "[Z", true)
  | 9 => ("CranePlanModel", "step", "I", false)
  | 10 => ("CranePlanModel", "planned", "Z", false)
  | 11 => ("CranePlanModel", "tried", "[I", true)
  | 12 => ("CranePlanModel", "best", "[I", true)
  | 13 => ("CranePlanModel", "come", "[I", true)
  | 14 => ("CranePlanModel", "first", "[I", true)
  | _ => ("CranePlanModel", "last", "[I", true)
def tM : Nat → FieldType := fun k => match k with
  | 0 => .int
  | 1 => .int
  | 2 => .int
  | 3 => .int
  | 4 => (.array .int)
  | 5 => (.array .int)
  | 6 => (.array .int)
  | 7 => (.array .int)
  | 8 => (.array .boolean)
  | 9 => .int
  | 10 => .boolean
  | 11 => (.array .int)
  | 12 => (.array .int)
  | 13 => (.array .int)
  | 14 => (.array .int)
  | _ => (.array .int)
abbrev NM : Nat := 16
def RL : String := "CranePlanLaw"
abbrev vCl : List vw_C := [(RB, FB, NB), (RK, FK, NK), (RS, FS, NS), (RT, FT, NT), (RP, FP, NP), (RM, FM, NM)]
theorem nB_ok : ∀ a, a < NB → ∀ b, b < NB → a ≠ b → (FB a).2.1 ≠ (FB b).2.1 := by decide +kernel
theorem tB_ok : ∀ k, k < NB → parseFieldDescriptor (FB k).2.2.1 = some (tB k) := by decide +kernel
theorem iB_ok : ∀ w ∈ u_ws RB FB NB, w ∈ bigW := by decide +kernel
theorem nK_ok : ∀ a, a < NK → ∀ b, b < NK → a ≠ b → (FK a).2.1 ≠ (FK b).2.1 := by decide +kernel
theorem tK_ok : ∀ k, k < NK → parseFieldDescriptor (FK k).2.2.1 = some (tK k) := by decide +kernel
theorem iK_ok : ∀ w ∈ u_ws RK FK NK, w ∈ bigW := by decide +kernel
theorem nS_ok : ∀ a, a < NS → ∀ b, b < NS → a ≠ b → (FS a).2.1 ≠ (FS b).2.1 := by decide +kernel
theorem tS_ok : ∀ k, k < NS → parseFieldDescriptor (FS k).2.2.1 = some (tS k) := by decide +kernel
theorem iS_ok : ∀ w ∈ u_ws RS FS NS, w ∈ bigW := by decide +kernel
theorem nT_ok : ∀ a, a < NT → ∀ b, b < NT → a ≠ b → (FT a).2.1 ≠ (FT b).2.1 := by decide +kernel
theorem tT_ok : ∀ k, k < NT → parseFieldDescriptor (FT k).2.2.1 = some (tT k) := by decide +kernel
theorem iT_ok : ∀ w ∈ u_ws RT FT NT, w ∈ bigW := by decide +kernel
theorem nP_ok : ∀ a, a < NP → ∀ b, b < NP → a ≠ b → (FP a).2.1 ≠ (FP b).2.1 := by decide +kernel
theorem tP_ok : ∀ k, k < NP → parseFieldDescriptor (FP k).2.2.1 = some (tP k) := by decide +kernel
theorem iP_ok : ∀ w ∈ u_ws RP FP NP, w ∈ bigW := by decide +kernel
theorem nM_ok : ∀ a, a < NM → ∀ b, b < NM → a ≠ b → (FM a).2.1 ≠ (FM b).2.1 := by decide +kernel
theorem tM_ok : ∀ k, k < NM → parseFieldDescriptor (FM k).2.2.1 = some (tM k) := by decide +kernel
theorem iM_ok : ∀ w ∈ u_ws RM FM NM, w ∈ bigW := by decide +kernel
abbrev bP_init : ByteArray := prog_1_method_1_code
def yP_init : MethodName := ⟨RP, "<init>", "(II)V"⟩
abbrev bP_bay : ByteArray := prog_1_method_2_code
def yP_bay : MethodName := ⟨RP, "bay", "(II)I"⟩
abbrev bP_rate : ByteArray := prog_1_method_3_code
def yP_rate : MethodName := ⟨RP, "rate", "(III)Z"⟩
abbrev bP_step : ByteArray := prog_1_method_4_code
def yP_step : MethodName := ⟨RP, "step", "(I)Z"⟩
abbrev bP_plan : ByteArray := prog_1_method_5_code
def yP_plan : MethodName := ⟨RP, "plan", "()I"⟩
abbrev bP_works : ByteArray := prog_1_method_6_code
def yP_works : MethodName := ⟨RP, "works", "(II)I"⟩
abbrev bP_where : ByteArray := prog_1_method_7_code
def yP_where : MethodName := ⟨RP, "where", "(II)I"⟩
abbrev bP_fails : ByteArray := prog_1_method_8_code
def yP_fails : MethodName := ⟨RP, "fails", "(II)I"⟩
abbrev bP_bound : ByteArray := prog_1_method_9_code
def yP_bound : MethodName := ⟨RP, "bound", "()I"⟩
abbrev bP_row : ByteArray := prog_1_method_10_code
def yP_row : MethodName := ⟨RP, "row", "(II)I"⟩
abbrev bP_look : ByteArray := prog_1_method_11_code
def yP_look : MethodName := ⟨RP, "look", "(II)I"⟩
abbrev bP_count : ByteArray := prog_1_method_12_code
def yP_count : MethodName := ⟨RP, "count", "(I)I"⟩
abbrev bP_within : ByteArray := prog_1_method_13_code
def yP_within : MethodName := ⟨RP, "within", "(III)Z"⟩
abbrev bP_held : ByteArray := prog_1_method_14_code
def yP_held : MethodName := ⟨RP, "held", "(III)I"⟩
abbrev bP_dividedUp : ByteArray := prog_1_method_15_code
def yP_dividedUp : MethodName := ⟨RP, "dividedUp", "(JJ)J"⟩
abbrev bB_init : ByteArray := prog_2_method_1_code
def yB_init : MethodName := ⟨RB, "<init>", "()V"⟩
abbrev bB_has : ByteArray := prog_2_method_2_code
def yB_has : MethodName := ⟨RB, "has", "(I)Z"⟩
abbrev bB_isFull : ByteArray := prog_2_method_3_code
def yB_isFull : MethodName := ⟨RB, "isFull", "()Z"⟩
abbrev bB_add : ByteArray := prog_2_method_4_code
def yB_add : MethodName := ⟨RB, "add", "(II)I"⟩
abbrev bB_movesOf : ByteArray := prog_2_method_5_code
def yB_movesOf : MethodName := ⟨RB, "movesOf", "(I)I"⟩
abbrev bB_allMoves : ByteArray := prog_2_method_6_code
def yB_allMoves : MethodName := ⟨RB, "allMoves", "()I"⟩
abbrev bB_takeOff : ByteArray := prog_2_method_7_code
def yB_takeOff : MethodName := ⟨RB, "takeOff", "(II)V"⟩
abbrev bK_init : ByteArray := prog_3_method_1_code
def yK_init : MethodName := ⟨RK, "<init>", "(II)V"⟩
abbrev bK_has : ByteArray := prog_3_method_2_code
def yK_has : MethodName := ⟨RK, "has", "(I)Z"⟩
abbrev bK_isOut : ByteArray := prog_3_method_3_code
def yK_isOut : MethodName := ⟨RK, "isOut", "(I)Z"⟩
abbrev bK_putOut : ByteArray := prog_3_method_4_code
def yK_putOut : MethodName := ⟨RK, "putOut", "(I)V"⟩
abbrev bK_setRate : ByteArray := prog_3_method_5_code
def yK_setRate : MethodName := ⟨RK, "setRate", "(III)V"⟩
abbrev bK_able : ByteArray := prog_3_method_6_code
def yK_able : MethodName := ⟨RK, "able", "()I"⟩
abbrev bK_timeFor : ByteArray := prog_3_method_7_code
def yK_timeFor : MethodName := ⟨RK, "timeFor", "(II)I"⟩
abbrev bK_movesIn : ByteArray := prog_3_method_8_code
def yK_movesIn : MethodName := ⟨RK, "movesIn", "(II)I"⟩
abbrev bK_leastTime : ByteArray := prog_3_method_9_code
def yK_leastTime : MethodName := ⟨RK, "leastTime", "(I)I"⟩
abbrev bK_timeTogether : ByteArray := prog_3_method_10_code
def yK_timeTogether : MethodName := ⟨RK, "timeTogether", "(I)I"⟩
abbrev bS_init : ByteArray := prog_4_method_1_code
def yS_init : MethodName := ⟨RS, "<init>", "(LCranePlan$Bays;LCranePlan$Cranes;LCranePlan$Timetable;)V"⟩
abbrev bS_makeBest : ByteArray := prog_4_method_2_code
def yS_makeBest : MethodName := ⟨RS, "makeBest", "()Z"⟩
abbrev bS_gather : ByteArray := prog_4_method_3_code
def yS_gather : MethodName := ⟨RS, "gather", "()V"⟩
abbrev bS_share : ByteArray := prog_4_method_4_code
def yS_share : MethodName := ⟨RS, "share", "([I)V"⟩
abbrev bS_nextChoice : ByteArray := prog_4_method_5_code
def yS_nextChoice : MethodName := ⟨RS, "nextChoice", "()Z"⟩
abbrev bT_init : ByteArray := prog_5_method_1_code
def yT_init : MethodName := ⟨RT, "<init>", "(LCranePlan$Bays;LCranePlan$Cranes;)V"⟩
abbrev bT_clear : ByteArray := prog_5_method_2_code
def yT_clear : MethodName := ⟨RT, "clear", "()V"⟩
abbrev bT_give : ByteArray := prog_5_method_3_code
def yT_give : MethodName := ⟨RT, "give", "(II)V"⟩
abbrev bT_keepsApart : ByteArray := prog_5_method_4_code
def yT_keepsApart : MethodName := ⟨RT, "keepsApart", "()Z"⟩
abbrev bT_tooNear : ByteArray := prog_5_method_5_code
def yT_tooNear : MethodName := ⟨RT, "tooNear", "(II)Z"⟩
abbrev bT_setTimes : ByteArray := prog_5_method_6_code
def yT_setTimes : MethodName := ⟨RT, "setTimes", "()V"⟩
abbrev bT_setTimesOf : ByteArray := prog_5_method_7_code
def yT_setTimesOf : MethodName := ⟨RT, "setTimesOf", "(II)V"⟩
abbrev bT_whenCame : ByteArray := prog_5_method_8_code
def yT_whenCame : MethodName := ⟨RT, "whenCame", "(II)I"⟩
abbrev bT_isBetterThan : ByteArray := prog_5_method_9_code
def yT_isBetterThan : MethodName := ⟨RT, "isBetterThan", "(II)Z"⟩
abbrev bT_sortRows : ByteArray := prog_5_method_10_code
def yT_sortRows : MethodName := ⟨RT, "sortRows", "()V"⟩
abbrev bT_beginsAhead : ByteArray := prog_5_method_11_code
def yT_beginsAhead : MethodName := ⟨RT, "beginsAhead", "(II)Z"⟩
abbrev bT_ofRow : ByteArray := prog_5_method_12_code
def yT_ofRow : MethodName := ⟨RT, "ofRow", "(II)I"⟩
abbrev bT_bayWorkedAt : ByteArray := prog_5_method_13_code
def yT_bayWorkedAt : MethodName := ⟨RT, "bayWorkedAt", "(II)I"⟩
abbrev bT_bayCameTo : ByteArray := prog_5_method_14_code
def yT_bayCameTo : MethodName := ⟨RT, "bayCameTo", "(II)I"⟩
abbrev bT_doneBy : ByteArray := prog_5_method_15_code
def yT_doneBy : MethodName := ⟨RT, "doneBy", "(II)I"⟩
abbrev bM_init : ByteArray := prog_7_method_1_code
def yM_init : MethodName := ⟨RM, "<init>", "(II)V"⟩
abbrev bM_thrown : ByteArray := prog_7_method_2_code
def yM_thrown : MethodName := ⟨RM, "thrown", "()I"⟩
abbrev bM_refuse : ByteArray := prog_7_method_3_code
def yM_refuse : MethodName := ⟨RM, "refuse", "(I)I"⟩
abbrev bM_in : ByteArray := prog_7_method_4_code
def yM_in : MethodName := ⟨RM, "in", "(III)Z"⟩
abbrev bM_isCrane : ByteArray := prog_7_method_5_code
def yM_isCrane : MethodName := ⟨RM, "isCrane", "(I)Z"⟩
abbrev bM_bay : ByteArray := prog_7_method_6_code
def yM_bay : MethodName := ⟨RM, "bay", "(II)I"⟩
abbrev bM_rate : ByteArray := prog_7_method_7_code
def yM_rate : MethodName := ⟨RM, "rate", "(III)Z"⟩
abbrev bM_step : ByteArray := prog_7_method_8_code
def yM_step : MethodName := ⟨RM, "step", "(I)Z"⟩
abbrev bM_all : ByteArray := prog_7_method_9_code
def yM_all : MethodName := ⟨RM, "all", "(I)I"⟩
abbrev bM_takes : ByteArray := prog_7_method_10_code
def yM_takes : MethodName := ⟨RM, "takes", "(II)I"⟩
abbrev bM_spans : ByteArray := prog_7_method_11_code
def yM_spans : MethodName := ⟨RM, "spans", "()Z"⟩
abbrev bM_times : ByteArray := prog_7_method_12_code
def yM_times : MethodName := ⟨RM, "times", "()I"⟩
abbrev bM_steps : ByteArray := prog_7_method_13_code
def yM_steps : MethodName := ⟨RM, "steps", "()I"⟩
abbrev bM_goesOn : ByteArray := prog_7_method_14_code
def yM_goesOn : MethodName := ⟨RM, "goesOn", "()Z"⟩
abbrev bM_isAllowed : ByteArray := prog_7_method_15_code
def yM_isAllowed : MethodName := ⟨RM, "isAllowed", "()Z"⟩
abbrev bM_search : ByteArray := prog_7_method_16_code
def yM_search : MethodName := ⟨RM, "search", "()I"⟩
abbrev bM_plan : ByteArray := prog_7_method_17_code
def yM_plan : MethodName := ⟨RM, "plan", "()I"⟩
abbrev bM_lays : ByteArray := prog_7_method_18_code
def yM_lays : MethodName := ⟨RM, "lays", "()I"⟩
abbrev bM_works : ByteArray := prog_7_method_19_code
def yM_works : MethodName := ⟨RM, "works", "(II)I"⟩
abbrev bM_where : ByteArray := prog_7_method_20_code
def yM_where : MethodName := ⟨RM, "where", "(II)I"⟩
abbrev bM_fails : ByteArray := prog_7_method_21_code
def yM_fails : MethodName := ⟨RM, "fails", "(II)I"⟩
abbrev bM_working : ByteArray := prog_7_method_22_code
def yM_working : MethodName := ⟨RM, "working", "()I"⟩
abbrev bM_bound : ByteArray := prog_7_method_23_code
def yM_bound : MethodName := ⟨RM, "bound", "()I"⟩
abbrev bM_row : ByteArray := prog_7_method_24_code
def yM_row : MethodName := ⟨RM, "row", "(II)I"⟩
abbrev bM_ahead : ByteArray := prog_7_method_25_code
def yM_ahead : MethodName := ⟨RM, "ahead", "(I)I"⟩
abbrev bM_look : ByteArray := prog_7_method_26_code
def yM_look : MethodName := ⟨RM, "look", "(II)I"⟩
abbrev bM_count : ByteArray := prog_7_method_27_code
def yM_count : MethodName := ⟨RM, "count", "(I)I"⟩
abbrev bL_cell : ByteArray := method_2_code
def yL_cell : MethodName := ⟨RL, "cell", "([II)I"⟩
abbrev bL_bay : ByteArray := method_3_code
def yL_bay : MethodName := ⟨RL, "bay", "(LCranePlan;II[J)I"⟩
abbrev bL_rate : ByteArray := method_4_code
def yL_rate : MethodName := ⟨RL, "rate", "(LCranePlan;III[J)I"⟩
abbrev bL_works : ByteArray := method_5_code
def yL_works : MethodName := ⟨RL, "works", "(LCranePlan;II[J)I"⟩
abbrev bL_where : ByteArray := method_6_code
def yL_where : MethodName := ⟨RL, "where", "(LCranePlan;II[J)I"⟩
abbrev bL_fails : ByteArray := method_7_code
def yL_fails : MethodName := ⟨RL, "fails", "(LCranePlan;II[J)I"⟩
abbrev bL_row : ByteArray := method_8_code
def yL_row : MethodName := ⟨RL, "row", "(LCranePlan;II[J)I"⟩
abbrev bL_look : ByteArray := method_9_code
def yL_look : MethodName := ⟨RL, "look", "(LCranePlan;II[J)I"⟩
theorem wd_47 : (Jvm.Cond.initialized "CranePlanLaw") ∈ bigW := inB 47 (by decide +kernel) rfl
theorem wd_48 : (Jvm.Cond.initialized "CranePlan") ∈ bigW := inB 48 (by decide +kernel) rfl
theorem wd_49 : (Jvm.Cond.initialized "CranePlan$Bays") ∈ bigW := inB 49 (by decide +kernel) rfl
theorem wd_50 : (Jvm.Cond.initialized "CranePlan$Cranes") ∈ bigW := inB 50 (by decide +kernel) rfl
theorem wd_51 : (Jvm.Cond.initialized "java/lang/Math") ∈ bigW := inB 51 (by decide +kernel) rfl
theorem wd_52 : (Jvm.Cond.initialized "java/util/Arrays") ∈ bigW := inB 52 (by decide +kernel) rfl
theorem wd_53 : (Jvm.Cond.initialized "CranePlan$Timetable") ∈ bigW := inB 53 (by decide +kernel) rfl
theorem wd_54 : (Jvm.Cond.initialized "CranePlan$Search") ∈ bigW := inB 54 (by decide +kernel) rfl
theorem wd_55 : (Jvm.Cond.initialized "CranePlanModel") ∈ bigW := inB 55 (by decide +kernel) rfl
theorem wd_56 : (Jvm.Cond.initialized "java/lang/Throwable") ∈ bigW := inB 56 (by decide +kernel) rfl
theorem wd_57 : (Jvm.Cond.initialized "java/lang/Exception") ∈ bigW := inB 57 (by decide +kernel) rfl
theorem wd_58 : (Jvm.Cond.initialized "java/lang/RuntimeException") ∈ bigW := inB 58 (by decide +kernel) rfl
theorem wd_59 : (Jvm.Cond.initialized "java/lang/IllegalArgumentException") ∈ bigW := inB 59 (by decide +kernel) rfl
theorem wd_60 : (Jvm.Cond.initialized "java/lang/IllegalStateException") ∈ bigW := inB 60 (by decide +kernel) rfl
theorem wd_61 : (Jvm.Cond.initialized "java/lang/ArithmeticException") ∈ bigW := inB 61 (by decide +kernel) rfl
theorem wd_62 : (Jvm.Cond.initialized "java/lang/System") ∈ bigW := inB 62 (by decide +kernel) rfl
theorem wd_63 : (Jvm.Cond.initialized "java/lang/IndexOutOfBoundsException") ∈ bigW := inB 63 (by decide +kernel) rfl
theorem wd_64 : (Jvm.Cond.classLink "CranePlanLaw" (8 : Nat) "CranePlan") ∈ bigW := inB 64 (by decide +kernel) rfl
theorem wd_65 : (Jvm.Cond.instantiable "CranePlan" (5 : Nat)) ∈ bigW := inB 65 (by decide +kernel) rfl
theorem wd_66 : (Jvm.Cond.methodLink "CranePlanLaw" (46 : Nat) ({ cls := "CranePlan", name := "<init>", desc := "(II)V" } : Jvm.MethodName)) ∈ bigW := inB 66 (by decide +kernel) rfl
theorem wd_67 : (Jvm.Cond.instanceMethod ({ cls := "CranePlan", name := "<init>", desc := "(II)V" } : Jvm.MethodName)) ∈ bigW := inB 67 (by decide +kernel) rfl
theorem wd_68 : (Jvm.Cond.code ({ cls := "CranePlan", name := "<init>", desc := "(II)V" } : Jvm.MethodName) prog_1_method_1_code (3 : Nat) (Option.none : Option Jvm.ClassFile.FieldType)) ∈ bigW := inB 68 (by decide +kernel) rfl
theorem wd_69 : (Jvm.Cond.methodLink "CranePlan" (1 : Nat) ({ cls := "java/lang/Object", name := "<init>", desc := "()V" } : Jvm.MethodName)) ∈ bigW := inB 69 (by decide +kernel) rfl
theorem wd_70 : (Jvm.Cond.instanceMethod ({ cls := "java/lang/Object", name := "<init>", desc := "()V" } : Jvm.MethodName)) ∈ bigW := inB 70 (by decide +kernel) rfl
theorem wd_71 : (Jvm.Cond.code ({ cls := "java/lang/Object", name := "<init>", desc := "()V" } : Jvm.MethodName) object_method_1_code (1 : Nat) (Option.none : Option Jvm.ClassFile.FieldType)) ∈ bigW := inB 71 (by decide +kernel) rfl
theorem wd_72 : (Jvm.Cond.classLink "CranePlan" (7 : Nat) "CranePlan$Bays") ∈ bigW := inB 72 (by decide +kernel) rfl
theorem wd_73 : (Jvm.Cond.instantiable "CranePlan$Bays" (3 : Nat)) ∈ bigW := inB 73 (by decide +kernel) rfl
theorem nd_74 : (Jvm.Cond.methodLinkNest "CranePlan" (9 : Nat) ({ cls := "CranePlan$Bays", name := "<init>", desc := "()V" } : Jvm.MethodName) "CranePlan") ∈ nwW := inN 74 (by decide +kernel) rfl
theorem wd_75 : (Jvm.Cond.instanceMethod ({ cls := "CranePlan$Bays", name := "<init>", desc := "()V" } : Jvm.MethodName)) ∈ bigW := inB 75 (by decide +kernel) rfl
theorem wd_76 : (Jvm.Cond.code ({ cls := "CranePlan$Bays", name := "<init>", desc := "()V" } : Jvm.MethodName) prog_2_method_1_code (1 : Nat) (Option.none : Option Jvm.ClassFile.FieldType)) ∈ bigW := inB 76 (by decide +kernel) rfl
theorem wd_77 : (Jvm.Cond.methodLink "CranePlan$Bays" (3 : Nat) ({ cls := "java/lang/Object", name := "<init>", desc := "()V" } : Jvm.MethodName)) ∈ bigW := inB 77 (by decide +kernel) rfl
theorem wd_78 : (Jvm.Cond.fieldLink "CranePlan$Bays" (9 : Nat) "CranePlan$Bays" "hatch" "[I") ∈ bigW := inB 78 (by decide +kernel) rfl
theorem nd_79 : (Jvm.Cond.fieldLinkNest "CranePlan" (169 : Nat) "CranePlan$Bays" "hatch" "[I" "CranePlan") ∈ nwW := inN 79 (by decide +kernel) rfl
theorem wd_80 : (Jvm.Cond.fieldLink "CranePlan$Bays" (15 : Nat) "CranePlan$Bays" "work" "[I") ∈ bigW := inB 80 (by decide +kernel) rfl
theorem nd_81 : (Jvm.Cond.fieldLinkNest "CranePlan" (173 : Nat) "CranePlan$Bays" "work" "[I" "CranePlan") ∈ nwW := inN 81 (by decide +kernel) rfl
theorem wd_82 : (Jvm.Cond.fieldLink "CranePlan$Bays" (18 : Nat) "CranePlan$Bays" "total" "I") ∈ bigW := inB 82 (by decide +kernel) rfl
theorem nd_83 : (Jvm.Cond.fieldLinkNest "CranePlan" (120 : Nat) "CranePlan$Bays" "total" "I" "CranePlan") ∈ nwW := inN 83 (by decide +kernel) rfl
theorem wd_91 : (Jvm.Cond.arrayClass Jvm.ClassFile.FieldType.int) ∈ bigW := inB 91 (by decide +kernel) rfl
theorem wd_92 : (Jvm.Cond.classLink "CranePlan" (16 : Nat) "CranePlan$Cranes") ∈ bigW := inB 92 (by decide +kernel) rfl
theorem wd_93 : (Jvm.Cond.instantiable "CranePlan$Cranes" (6 : Nat)) ∈ bigW := inB 93 (by decide +kernel) rfl
theorem wd_94 : (Jvm.Cond.methodLink "CranePlan" (18 : Nat) ({ cls := "CranePlan", name := "held", desc := "(III)I" } : Jvm.MethodName)) ∈ bigW := inB 94 (by decide +kernel) rfl
theorem wd_95 : (Jvm.Cond.static ({ cls := "CranePlan", name := "held", desc := "(III)I" } : Jvm.MethodName)) ∈ bigW := inB 95 (by decide +kernel) rfl
theorem wd_96 : (Jvm.Cond.code ({ cls := "CranePlan", name := "held", desc := "(III)I" } : Jvm.MethodName) prog_1_method_14_code (3 : Nat) (Option.some Jvm.ClassFile.FieldType.int)) ∈ bigW := inB 96 (by decide +kernel) rfl
theorem wd_97 : (Jvm.Cond.methodLink "CranePlan" (182 : Nat) ({ cls := "java/lang/Math", name := "min", desc := "(II)I" } : Jvm.MethodName)) ∈ bigW := inB 97 (by decide +kernel) rfl
theorem wd_98 : (Jvm.Cond.static ({ cls := "java/lang/Math", name := "min", desc := "(II)I" } : Jvm.MethodName)) ∈ bigW := inB 98 (by decide +kernel) rfl
theorem wd_99 : (Jvm.Cond.code ({ cls := "java/lang/Math", name := "min", desc := "(II)I" } : Jvm.MethodName) prog_13_method_69_code (2 : Nat) (Option.some Jvm.ClassFile.FieldType.int)) ∈ bigW := inB 99 (by decide +kernel) rfl
theorem wd_100 : (Jvm.Cond.methodLink "CranePlan" (153 : Nat) ({ cls := "java/lang/Math", name := "max", desc := "(II)I" } : Jvm.MethodName)) ∈ bigW := inB 100 (by decide +kernel) rfl
theorem wd_101 : (Jvm.Cond.static ({ cls := "java/lang/Math", name := "max", desc := "(II)I" } : Jvm.MethodName)) ∈ bigW := inB 101 (by decide +kernel) rfl
theorem wd_102 : (Jvm.Cond.code ({ cls := "java/lang/Math", name := "max", desc := "(II)I" } : Jvm.MethodName) prog_13_method_65_code (2 : Nat) (Option.some Jvm.ClassFile.FieldType.int)) ∈ bigW := inB 102 (by decide +kernel) rfl
theorem nd_103 : (Jvm.Cond.methodLinkNest "CranePlan" (22 : Nat) ({ cls := "CranePlan$Cranes", name := "<init>", desc := "(II)V" } : Jvm.MethodName) "CranePlan") ∈ nwW := inN 103 (by decide +kernel) rfl
theorem wd_104 : (Jvm.Cond.instanceMethod ({ cls := "CranePlan$Cranes", name := "<init>", desc := "(II)V" } : Jvm.MethodName)) ∈ bigW := inB 104 (by decide +kernel) rfl
theorem wd_105 : (Jvm.Cond.code ({ cls := "CranePlan$Cranes", name := "<init>", desc := "(II)V" } : Jvm.MethodName) prog_3_method_1_code (3 : Nat) (Option.none : Option Jvm.ClassFile.FieldType)) ∈ bigW := inB 105 (by decide +kernel) rfl
theorem wd_106 : (Jvm.Cond.methodLink "CranePlan$Cranes" (3 : Nat) ({ cls := "java/lang/Object", name := "<init>", desc := "()V" } : Jvm.MethodName)) ∈ bigW := inB 106 (by decide +kernel) rfl
theorem wd_107 : (Jvm.Cond.methodLink "CranePlan$Cranes" (32 : Nat) ({ cls := "java/util/Arrays", name := "fill", desc := "([II)V" } : Jvm.MethodName)) ∈ bigW := inB 107 (by decide +kernel) rfl
theorem wd_108 : (Jvm.Cond.static ({ cls := "java/util/Arrays", name := "fill", desc := "([II)V" } : Jvm.MethodName)) ∈ bigW := inB 108 (by decide +kernel) rfl
theorem wd_109 : (Jvm.Cond.code ({ cls := "java/util/Arrays", name := "fill", desc := "([II)V" } : Jvm.MethodName) prog_18_method_103_code (4 : Nat) (Option.none : Option Jvm.ClassFile.FieldType)) ∈ bigW := inB 109 (by decide +kernel) rfl
theorem wd_110 : (Jvm.Cond.fieldLink "CranePlan$Cranes" (26 : Nat) "CranePlan$Cranes" "total" "I") ∈ bigW := inB 110 (by decide +kernel) rfl
theorem wd_111 : (Jvm.Cond.fieldLink "CranePlan$Cranes" (29 : Nat) "CranePlan$Cranes" "gap" "I") ∈ bigW := inB 111 (by decide +kernel) rfl
theorem nd_112 : (Jvm.Cond.fieldLinkNest "CranePlan$Timetable" (72 : Nat) "CranePlan$Cranes" "gap" "I" "CranePlan") ∈ nwW := inN 112 (by decide +kernel) rfl
theorem wd_113 : (Jvm.Cond.fieldLink "CranePlan$Cranes" (9 : Nat) "CranePlan$Cranes" "moves" "[I") ∈ bigW := inB 113 (by decide +kernel) rfl
theorem wd_114 : (Jvm.Cond.fieldLink "CranePlan$Cranes" (15 : Nat) "CranePlan$Cranes" "minutes" "[I") ∈ bigW := inB 114 (by decide +kernel) rfl
theorem wd_115 : (Jvm.Cond.fieldLink "CranePlan$Cranes" (18 : Nat) "CranePlan$Cranes" "out" "[Z") ∈ bigW := inB 115 (by decide +kernel) rfl
theorem wd_116 : (Jvm.Cond.fieldLink "CranePlan$Cranes" (22 : Nat) "CranePlan$Cranes" "stepMinutes" "I") ∈ bigW := inB 116 (by decide +kernel) rfl
theorem nd_117 : (Jvm.Cond.fieldLinkNest "CranePlan" (92 : Nat) "CranePlan$Cranes" "stepMinutes" "I" "CranePlan") ∈ nwW := inN 117 (by decide +kernel) rfl
theorem nd_118 : (Jvm.Cond.fieldLinkNest "CranePlan$Timetable" (95 : Nat) "CranePlan$Cranes" "stepMinutes" "I" "CranePlan") ∈ nwW := inN 118 (by decide +kernel) rfl
theorem wd_132 : (Jvm.Cond.arrayClass Jvm.ClassFile.FieldType.boolean) ∈ bigW := inB 132 (by decide +kernel) rfl
theorem wd_133 : (Jvm.Cond.classLink "CranePlan" (29 : Nat) "CranePlan$Timetable") ∈ bigW := inB 133 (by decide +kernel) rfl
theorem wd_134 : (Jvm.Cond.instantiable "CranePlan$Timetable" (12 : Nat)) ∈ bigW := inB 134 (by decide +kernel) rfl
theorem nd_135 : (Jvm.Cond.methodLinkNest "CranePlan" (31 : Nat) ({ cls := "CranePlan$Timetable", name := "<init>", desc := "(LCranePlan$Bays;LCranePlan$Cranes;)V" } : Jvm.MethodName) "CranePlan") ∈ nwW := inN 135 (by decide +kernel) rfl
theorem wd_136 : (Jvm.Cond.instanceMethod ({ cls := "CranePlan$Timetable", name := "<init>", desc := "(LCranePlan$Bays;LCranePlan$Cranes;)V" } : Jvm.MethodName)) ∈ bigW := inB 136 (by decide +kernel) rfl
theorem wd_137 : (Jvm.Cond.code ({ cls := "CranePlan$Timetable", name := "<init>", desc := "(LCranePlan$Bays;LCranePlan$Cranes;)V" } : Jvm.MethodName) prog_5_method_1_code (3 : Nat) (Option.none : Option Jvm.ClassFile.FieldType)) ∈ bigW := inB 137 (by decide +kernel) rfl
theorem wd_138 : (Jvm.Cond.methodLink "CranePlan$Timetable" (3 : Nat) ({ cls := "java/lang/Object", name := "<init>", desc := "()V" } : Jvm.MethodName)) ∈ bigW := inB 138 (by decide +kernel) rfl
theorem wd_139 : (Jvm.Cond.classLink "CranePlan$Timetable" (27 : Nat) "[[I") ∈ bigW := inB 139 (by decide +kernel) rfl
theorem wd_141 : (Jvm.Cond.fieldLink "CranePlan$Timetable" (45 : Nat) "CranePlan$Timetable" "bays" "LCranePlan$Bays;") ∈ bigW := inB 141 (by decide +kernel) rfl
theorem wd_142 : (Jvm.Cond.fieldLink "CranePlan$Timetable" (49 : Nat) "CranePlan$Timetable" "cranes" "LCranePlan$Cranes;") ∈ bigW := inB 142 (by decide +kernel) rfl
theorem wd_143 : (Jvm.Cond.fieldLink "CranePlan$Timetable" (9 : Nat) "CranePlan$Timetable" "craneOf" "[I") ∈ bigW := inB 143 (by decide +kernel) rfl
theorem nd_144 : (Jvm.Cond.fieldLinkNest "CranePlan" (176 : Nat) "CranePlan$Timetable" "craneOf" "[I" "CranePlan") ∈ nwW := inN 144 (by decide +kernel) rfl
theorem wd_145 : (Jvm.Cond.fieldLink "CranePlan$Timetable" (15 : Nat) "CranePlan$Timetable" "begin" "[I") ∈ bigW := inB 145 (by decide +kernel) rfl
theorem wd_146 : (Jvm.Cond.fieldLink "CranePlan$Timetable" (18 : Nat) "CranePlan$Timetable" "end" "[I") ∈ bigW := inB 146 (by decide +kernel) rfl
theorem wd_147 : (Jvm.Cond.fieldLink "CranePlan$Timetable" (21 : Nat) "CranePlan$Timetable" "first" "[I") ∈ bigW := inB 147 (by decide +kernel) rfl
theorem wd_148 : (Jvm.Cond.fieldLink "CranePlan$Timetable" (24 : Nat) "CranePlan$Timetable" "last" "[I") ∈ bigW := inB 148 (by decide +kernel) rfl
theorem wd_149 : (Jvm.Cond.fieldLink "CranePlan$Timetable" (29 : Nat) "CranePlan$Timetable" "came" "[[I") ∈ bigW := inB 149 (by decide +kernel) rfl
theorem wd_150 : (Jvm.Cond.fieldLink "CranePlan$Timetable" (32 : Nat) "CranePlan$Timetable" "bayOfRow" "[I") ∈ bigW := inB 150 (by decide +kernel) rfl
theorem wd_151 : (Jvm.Cond.fieldLink "CranePlan$Timetable" (35 : Nat) "CranePlan$Timetable" "rows" "I") ∈ bigW := inB 151 (by decide +kernel) rfl
theorem nd_152 : (Jvm.Cond.fieldLinkNest "CranePlan" (158 : Nat) "CranePlan$Timetable" "rows" "I" "CranePlan") ∈ nwW := inN 152 (by decide +kernel) rfl
theorem wd_153 : (Jvm.Cond.fieldLink "CranePlan$Timetable" (39 : Nat) "CranePlan$Timetable" "finish" "I") ∈ bigW := inB 153 (by decide +kernel) rfl
theorem nd_154 : (Jvm.Cond.fieldLinkNest "CranePlan$Search" (64 : Nat) "CranePlan$Timetable" "finish" "I" "CranePlan") ∈ nwW := inN 154 (by decide +kernel) rfl
theorem nd_155 : (Jvm.Cond.fieldLinkNest "CranePlan" (99 : Nat) "CranePlan$Timetable" "finish" "I" "CranePlan") ∈ nwW := inN 155 (by decide +kernel) rfl
theorem wd_156 : (Jvm.Cond.fieldLink "CranePlan$Timetable" (42 : Nat) "CranePlan$Timetable" "steps" "I") ∈ bigW := inB 156 (by decide +kernel) rfl
theorem nd_157 : (Jvm.Cond.fieldLinkNest "CranePlan$Search" (67 : Nat) "CranePlan$Timetable" "steps" "I" "CranePlan") ∈ nwW := inN 157 (by decide +kernel) rfl
theorem nd_158 : (Jvm.Cond.fieldLinkNest "CranePlan" (179 : Nat) "CranePlan$Timetable" "steps" "I" "CranePlan") ∈ nwW := inN 158 (by decide +kernel) rfl
theorem wd_184 : (Jvm.Cond.classLink "CranePlan" (38 : Nat) "CranePlan$Search") ∈ bigW := inB 184 (by decide +kernel) rfl
theorem wd_185 : (Jvm.Cond.instantiable "CranePlan$Search" (9 : Nat)) ∈ bigW := inB 185 (by decide +kernel) rfl
theorem nd_186 : (Jvm.Cond.methodLinkNest "CranePlan" (40 : Nat) ({ cls := "CranePlan$Search", name := "<init>", desc := "(LCranePlan$Bays;LCranePlan$Cranes;LCranePlan$Timetable;)V" } : Jvm.MethodName) "CranePlan") ∈ nwW := inN 186 (by decide +kernel) rfl
theorem wd_187 : (Jvm.Cond.instanceMethod ({ cls := "CranePlan$Search", name := "<init>", desc := "(LCranePlan$Bays;LCranePlan$Cranes;LCranePlan$Timetable;)V" } : Jvm.MethodName)) ∈ bigW := inB 187 (by decide +kernel) rfl
theorem wd_188 : (Jvm.Cond.code ({ cls := "CranePlan$Search", name := "<init>", desc := "(LCranePlan$Bays;LCranePlan$Cranes;LCranePlan$Timetable;)V" } : Jvm.MethodName) prog_4_method_1_code (4 : Nat) (Option.none : Option Jvm.ClassFile.FieldType)) ∈ bigW := inB 188 (by decide +kernel) rfl
theorem wd_189 : (Jvm.Cond.methodLink "CranePlan$Search" (3 : Nat) ({ cls := "java/lang/Object", name := "<init>", desc := "()V" } : Jvm.MethodName)) ∈ bigW := inB 189 (by decide +kernel) rfl
theorem wd_190 : (Jvm.Cond.fieldLink "CranePlan$Search" (31 : Nat) "CranePlan$Search" "bays" "LCranePlan$Bays;") ∈ bigW := inB 190 (by decide +kernel) rfl
theorem wd_191 : (Jvm.Cond.fieldLink "CranePlan$Search" (35 : Nat) "CranePlan$Search" "cranes" "LCranePlan$Cranes;") ∈ bigW := inB 191 (by decide +kernel) rfl
theorem wd_192 : (Jvm.Cond.fieldLink "CranePlan$Search" (39 : Nat) "CranePlan$Search" "timetable" "LCranePlan$Timetable;") ∈ bigW := inB 192 (by decide +kernel) rfl
theorem wd_193 : (Jvm.Cond.fieldLink "CranePlan$Search" (9 : Nat) "CranePlan$Search" "busy" "[I") ∈ bigW := inB 193 (by decide +kernel) rfl
theorem wd_194 : (Jvm.Cond.fieldLink "CranePlan$Search" (15 : Nat) "CranePlan$Search" "able" "[I") ∈ bigW := inB 194 (by decide +kernel) rfl
theorem wd_195 : (Jvm.Cond.fieldLink "CranePlan$Search" (18 : Nat) "CranePlan$Search" "choice" "[I") ∈ bigW := inB 195 (by decide +kernel) rfl
theorem wd_196 : (Jvm.Cond.fieldLink "CranePlan$Search" (21 : Nat) "CranePlan$Search" "best" "[I") ∈ bigW := inB 196 (by decide +kernel) rfl
theorem wd_197 : (Jvm.Cond.fieldLink "CranePlan$Search" (24 : Nat) "CranePlan$Search" "busyBays" "I") ∈ bigW := inB 197 (by decide +kernel) rfl
theorem wd_198 : (Jvm.Cond.fieldLink "CranePlan$Search" (28 : Nat) "CranePlan$Search" "ableCranes" "I") ∈ bigW := inB 198 (by decide +kernel) rfl
theorem wd_218 : (Jvm.Cond.fieldLink "CranePlan" (10 : Nat) "CranePlan" "bays" "LCranePlan$Bays;") ∈ bigW := inB 218 (by decide +kernel) rfl
theorem wd_219 : (Jvm.Cond.fieldLink "CranePlan" (25 : Nat) "CranePlan" "cranes" "LCranePlan$Cranes;") ∈ bigW := inB 219 (by decide +kernel) rfl
theorem wd_220 : (Jvm.Cond.fieldLink "CranePlan" (34 : Nat) "CranePlan" "timetable" "LCranePlan$Timetable;") ∈ bigW := inB 220 (by decide +kernel) rfl
theorem wd_221 : (Jvm.Cond.fieldLink "CranePlan" (43 : Nat) "CranePlan" "search" "LCranePlan$Search;") ∈ bigW := inB 221 (by decide +kernel) rfl
theorem wd_222 : (Jvm.Cond.fieldLink "CranePlan" (47 : Nat) "CranePlan" "planned" "Z") ∈ bigW := inB 222 (by decide +kernel) rfl
theorem wd_234 : (Jvm.Cond.methodLink "CranePlanLaw" (64 : Nat) ({ cls := "CranePlan", name := "step", desc := "(I)Z" } : Jvm.MethodName)) ∈ bigW := inB 234 (by decide +kernel) rfl
theorem wd_235 : (Jvm.Cond.instanceMethod ({ cls := "CranePlan", name := "step", desc := "(I)Z" } : Jvm.MethodName)) ∈ bigW := inB 235 (by decide +kernel) rfl
theorem wd_236 : (Jvm.Cond.selects "CranePlan" ({ cls := "CranePlan", name := "step", desc := "(I)Z" } : Jvm.MethodName) ({ cls := "CranePlan", name := "step", desc := "(I)Z" } : Jvm.MethodName)) ∈ bigW := inB 236 (by decide +kernel) rfl
theorem wd_237 : (Jvm.Cond.code ({ cls := "CranePlan", name := "step", desc := "(I)Z" } : Jvm.MethodName) prog_1_method_4_code (2 : Nat) (Option.some Jvm.ClassFile.FieldType.boolean)) ∈ bigW := inB 237 (by decide +kernel) rfl
theorem wd_238 : (Jvm.Cond.methodLink "CranePlan" (51 : Nat) ({ cls := "CranePlan", name := "within", desc := "(III)Z" } : Jvm.MethodName)) ∈ bigW := inB 238 (by decide +kernel) rfl
theorem wd_239 : (Jvm.Cond.static ({ cls := "CranePlan", name := "within", desc := "(III)Z" } : Jvm.MethodName)) ∈ bigW := inB 239 (by decide +kernel) rfl
theorem wd_240 : (Jvm.Cond.code ({ cls := "CranePlan", name := "within", desc := "(III)Z" } : Jvm.MethodName) prog_1_method_13_code (3 : Nat) (Option.some Jvm.ClassFile.FieldType.boolean)) ∈ bigW := inB 240 (by decide +kernel) rfl
theorem wd_241 : (Jvm.Cond.methodLink "CranePlanLaw" (69 : Nat) ({ cls := "CranePlan", name := "plan", desc := "()I" } : Jvm.MethodName)) ∈ bigW := inB 241 (by decide +kernel) rfl
theorem wd_242 : (Jvm.Cond.instanceMethod ({ cls := "CranePlan", name := "plan", desc := "()I" } : Jvm.MethodName)) ∈ bigW := inB 242 (by decide +kernel) rfl
theorem wd_243 : (Jvm.Cond.selects "CranePlan" ({ cls := "CranePlan", name := "plan", desc := "()I" } : Jvm.MethodName) ({ cls := "CranePlan", name := "plan", desc := "()I" } : Jvm.MethodName)) ∈ bigW := inB 243 (by decide +kernel) rfl
theorem wd_244 : (Jvm.Cond.code ({ cls := "CranePlan", name := "plan", desc := "()I" } : Jvm.MethodName) prog_1_method_5_code (1 : Nat) (Option.some Jvm.ClassFile.FieldType.int)) ∈ bigW := inB 244 (by decide +kernel) rfl
theorem nd_245 : (Jvm.Cond.methodLinkNest "CranePlan" (96 : Nat) ({ cls := "CranePlan$Search", name := "makeBest", desc := "()Z" } : Jvm.MethodName) "CranePlan") ∈ nwW := inN 245 (by decide +kernel) rfl
theorem wd_247 : (Jvm.Cond.instanceMethod ({ cls := "CranePlan$Search", name := "makeBest", desc := "()Z" } : Jvm.MethodName)) ∈ bigW := inB 247 (by decide +kernel) rfl
theorem wd_248 : (Jvm.Cond.code ({ cls := "CranePlan$Search", name := "makeBest", desc := "()Z" } : Jvm.MethodName) prog_4_method_2_code (5 : Nat) (Option.some Jvm.ClassFile.FieldType.boolean)) ∈ bigW := inB 248 (by decide +kernel) rfl
theorem wd_249 : (Jvm.Cond.methodLink "CranePlan$Search" (43 : Nat) ({ cls := "CranePlan$Search", name := "gather", desc := "()V" } : Jvm.MethodName)) ∈ bigW := inB 249 (by decide +kernel) rfl
theorem wd_251 : (Jvm.Cond.instanceMethod ({ cls := "CranePlan$Search", name := "gather", desc := "()V" } : Jvm.MethodName)) ∈ bigW := inB 251 (by decide +kernel) rfl
theorem wd_252 : (Jvm.Cond.code ({ cls := "CranePlan$Search", name := "gather", desc := "()V" } : Jvm.MethodName) prog_4_method_3_code (2 : Nat) (Option.none : Option Jvm.ClassFile.FieldType)) ∈ bigW := inB 252 (by decide +kernel) rfl
theorem wd_253 : (Jvm.Cond.methodLink "CranePlan$Search" (82 : Nat) ({ cls := "java/util/Arrays", name := "fill", desc := "([II)V" } : Jvm.MethodName)) ∈ bigW := inB 253 (by decide +kernel) rfl
theorem nd_254 : (Jvm.Cond.methodLinkNest "CranePlan$Search" (88 : Nat) ({ cls := "CranePlan$Bays", name := "movesOf", desc := "(I)I" } : Jvm.MethodName) "CranePlan") ∈ nwW := inN 254 (by decide +kernel) rfl
theorem wd_256 : (Jvm.Cond.instanceMethod ({ cls := "CranePlan$Bays", name := "movesOf", desc := "(I)I" } : Jvm.MethodName)) ∈ bigW := inB 256 (by decide +kernel) rfl
theorem wd_257 : (Jvm.Cond.code ({ cls := "CranePlan$Bays", name := "movesOf", desc := "(I)I" } : Jvm.MethodName) prog_2_method_5_code (2 : Nat) (Option.some Jvm.ClassFile.FieldType.int)) ∈ bigW := inB 257 (by decide +kernel) rfl
theorem wd_258 : (Jvm.Cond.methodLink "CranePlan$Bays" (26 : Nat) ({ cls := "CranePlan$Bays", name := "has", desc := "(I)Z" } : Jvm.MethodName)) ∈ bigW := inB 258 (by decide +kernel) rfl
theorem wd_260 : (Jvm.Cond.instanceMethod ({ cls := "CranePlan$Bays", name := "has", desc := "(I)Z" } : Jvm.MethodName)) ∈ bigW := inB 260 (by decide +kernel) rfl
theorem wd_261 : (Jvm.Cond.code ({ cls := "CranePlan$Bays", name := "has", desc := "(I)Z" } : Jvm.MethodName) prog_2_method_2_code (2 : Nat) (Option.some Jvm.ClassFile.FieldType.boolean)) ∈ bigW := inB 261 (by decide +kernel) rfl
theorem nd_262 : (Jvm.Cond.methodLinkNest "CranePlan$Search" (94 : Nat) ({ cls := "CranePlan$Cranes", name := "isOut", desc := "(I)Z" } : Jvm.MethodName) "CranePlan") ∈ nwW := inN 262 (by decide +kernel) rfl
theorem wd_264 : (Jvm.Cond.instanceMethod ({ cls := "CranePlan$Cranes", name := "isOut", desc := "(I)Z" } : Jvm.MethodName)) ∈ bigW := inB 264 (by decide +kernel) rfl
theorem wd_265 : (Jvm.Cond.code ({ cls := "CranePlan$Cranes", name := "isOut", desc := "(I)Z" } : Jvm.MethodName) prog_3_method_3_code (2 : Nat) (Option.some Jvm.ClassFile.FieldType.boolean)) ∈ bigW := inB 265 (by decide +kernel) rfl
theorem wd_266 : (Jvm.Cond.methodLink "CranePlan$Cranes" (38 : Nat) ({ cls := "CranePlan$Cranes", name := "has", desc := "(I)Z" } : Jvm.MethodName)) ∈ bigW := inB 266 (by decide +kernel) rfl
theorem wd_268 : (Jvm.Cond.instanceMethod ({ cls := "CranePlan$Cranes", name := "has", desc := "(I)Z" } : Jvm.MethodName)) ∈ bigW := inB 268 (by decide +kernel) rfl
theorem wd_269 : (Jvm.Cond.code ({ cls := "CranePlan$Cranes", name := "has", desc := "(I)Z" } : Jvm.MethodName) prog_3_method_2_code (2 : Nat) (Option.some Jvm.ClassFile.FieldType.boolean)) ∈ bigW := inB 269 (by decide +kernel) rfl
theorem wd_270 : (Jvm.Cond.constant "CranePlan$Search" (46 : Nat) (1000000 : Int32)) ∈ bigW := inB 270 (by decide +kernel) rfl
theorem wd_271 : (Jvm.Cond.methodLink "CranePlan$Search" (47 : Nat) ({ cls := "CranePlan$Search", name := "share", desc := "([I)V" } : Jvm.MethodName)) ∈ bigW := inB 271 (by decide +kernel) rfl
theorem wd_273 : (Jvm.Cond.instanceMethod ({ cls := "CranePlan$Search", name := "share", desc := "([I)V" } : Jvm.MethodName)) ∈ bigW := inB 273 (by decide +kernel) rfl
theorem wd_274 : (Jvm.Cond.code ({ cls := "CranePlan$Search", name := "share", desc := "([I)V" } : Jvm.MethodName) prog_4_method_4_code (3 : Nat) (Option.none : Option Jvm.ClassFile.FieldType)) ∈ bigW := inB 274 (by decide +kernel) rfl
theorem nd_275 : (Jvm.Cond.methodLinkNest "CranePlan$Search" (100 : Nat) ({ cls := "CranePlan$Timetable", name := "clear", desc := "()V" } : Jvm.MethodName) "CranePlan") ∈ nwW := inN 275 (by decide +kernel) rfl
theorem wd_277 : (Jvm.Cond.instanceMethod ({ cls := "CranePlan$Timetable", name := "clear", desc := "()V" } : Jvm.MethodName)) ∈ bigW := inB 277 (by decide +kernel) rfl
theorem wd_278 : (Jvm.Cond.code ({ cls := "CranePlan$Timetable", name := "clear", desc := "()V" } : Jvm.MethodName) prog_5_method_2_code (1 : Nat) (Option.none : Option Jvm.ClassFile.FieldType)) ∈ bigW := inB 278 (by decide +kernel) rfl
theorem wd_279 : (Jvm.Cond.methodLink "CranePlan$Timetable" (53 : Nat) ({ cls := "java/util/Arrays", name := "fill", desc := "([II)V" } : Jvm.MethodName)) ∈ bigW := inB 279 (by decide +kernel) rfl
theorem nd_280 : (Jvm.Cond.methodLinkNest "CranePlan$Search" (103 : Nat) ({ cls := "CranePlan$Timetable", name := "give", desc := "(II)V" } : Jvm.MethodName) "CranePlan") ∈ nwW := inN 280 (by decide +kernel) rfl
theorem wd_282 : (Jvm.Cond.instanceMethod ({ cls := "CranePlan$Timetable", name := "give", desc := "(II)V" } : Jvm.MethodName)) ∈ bigW := inB 282 (by decide +kernel) rfl
theorem wd_283 : (Jvm.Cond.code ({ cls := "CranePlan$Timetable", name := "give", desc := "(II)V" } : Jvm.MethodName) prog_5_method_3_code (3 : Nat) (Option.none : Option Jvm.ClassFile.FieldType)) ∈ bigW := inB 283 (by decide +kernel) rfl
theorem nd_284 : (Jvm.Cond.methodLinkNest "CranePlan$Timetable" (59 : Nat) ({ cls := "CranePlan$Bays", name := "has", desc := "(I)Z" } : Jvm.MethodName) "CranePlan") ∈ nwW := inN 284 (by decide +kernel) rfl
theorem nd_285 : (Jvm.Cond.methodLinkNest "CranePlan$Timetable" (65 : Nat) ({ cls := "CranePlan$Cranes", name := "has", desc := "(I)Z" } : Jvm.MethodName) "CranePlan") ∈ nwW := inN 285 (by decide +kernel) rfl
theorem nd_286 : (Jvm.Cond.methodLinkNest "CranePlan$Search" (51 : Nat) ({ cls := "CranePlan$Timetable", name := "keepsApart", desc := "()Z" } : Jvm.MethodName) "CranePlan") ∈ nwW := inN 286 (by decide +kernel) rfl
theorem wd_288 : (Jvm.Cond.instanceMethod ({ cls := "CranePlan$Timetable", name := "keepsApart", desc := "()Z" } : Jvm.MethodName)) ∈ bigW := inB 288 (by decide +kernel) rfl
theorem wd_289 : (Jvm.Cond.code ({ cls := "CranePlan$Timetable", name := "keepsApart", desc := "()Z" } : Jvm.MethodName) prog_5_method_4_code (3 : Nat) (Option.some Jvm.ClassFile.FieldType.boolean)) ∈ bigW := inB 289 (by decide +kernel) rfl
theorem wd_290 : (Jvm.Cond.methodLink "CranePlan$Timetable" (68 : Nat) ({ cls := "CranePlan$Timetable", name := "tooNear", desc := "(II)Z" } : Jvm.MethodName)) ∈ bigW := inB 290 (by decide +kernel) rfl
theorem wd_292 : (Jvm.Cond.instanceMethod ({ cls := "CranePlan$Timetable", name := "tooNear", desc := "(II)Z" } : Jvm.MethodName)) ∈ bigW := inB 292 (by decide +kernel) rfl
theorem wd_293 : (Jvm.Cond.code ({ cls := "CranePlan$Timetable", name := "tooNear", desc := "(II)Z" } : Jvm.MethodName) prog_5_method_5_code (3 : Nat) (Option.some Jvm.ClassFile.FieldType.boolean)) ∈ bigW := inB 293 (by decide +kernel) rfl
theorem nd_294 : (Jvm.Cond.methodLinkNest "CranePlan$Search" (57 : Nat) ({ cls := "CranePlan$Timetable", name := "setTimes", desc := "()V" } : Jvm.MethodName) "CranePlan") ∈ nwW := inN 294 (by decide +kernel) rfl
theorem wd_296 : (Jvm.Cond.instanceMethod ({ cls := "CranePlan$Timetable", name := "setTimes", desc := "()V" } : Jvm.MethodName)) ∈ bigW := inB 296 (by decide +kernel) rfl
theorem wd_297 : (Jvm.Cond.code ({ cls := "CranePlan$Timetable", name := "setTimes", desc := "()V" } : Jvm.MethodName) prog_5_method_6_code (3 : Nat) (Option.none : Option Jvm.ClassFile.FieldType)) ∈ bigW := inB 297 (by decide +kernel) rfl
theorem wd_298 : (Jvm.Cond.methodLink "CranePlan$Timetable" (75 : Nat) ({ cls := "CranePlan$Timetable", name := "setTimesOf", desc := "(II)V" } : Jvm.MethodName)) ∈ bigW := inB 298 (by decide +kernel) rfl
theorem wd_300 : (Jvm.Cond.instanceMethod ({ cls := "CranePlan$Timetable", name := "setTimesOf", desc := "(II)V" } : Jvm.MethodName)) ∈ bigW := inB 300 (by decide +kernel) rfl
theorem wd_301 : (Jvm.Cond.code ({ cls := "CranePlan$Timetable", name := "setTimesOf", desc := "(II)V" } : Jvm.MethodName) prog_5_method_7_code (5 : Nat) (Option.none : Option Jvm.ClassFile.FieldType)) ∈ bigW := inB 301 (by decide +kernel) rfl
theorem wd_302 : (Jvm.Cond.methodLink "CranePlan$Timetable" (79 : Nat) ({ cls := "java/lang/Math", name := "max", desc := "(II)I" } : Jvm.MethodName)) ∈ bigW := inB 302 (by decide +kernel) rfl
theorem nd_303 : (Jvm.Cond.methodLinkNest "CranePlan$Timetable" (85 : Nat) ({ cls := "CranePlan$Bays", name := "movesOf", desc := "(I)I" } : Jvm.MethodName) "CranePlan") ∈ nwW := inN 303 (by decide +kernel) rfl
theorem nd_304 : (Jvm.Cond.methodLinkNest "CranePlan$Timetable" (89 : Nat) ({ cls := "CranePlan$Cranes", name := "timeFor", desc := "(II)I" } : Jvm.MethodName) "CranePlan") ∈ nwW := inN 304 (by decide +kernel) rfl
theorem wd_306 : (Jvm.Cond.instanceMethod ({ cls := "CranePlan$Cranes", name := "timeFor", desc := "(II)I" } : Jvm.MethodName)) ∈ bigW := inB 306 (by decide +kernel) rfl
theorem wd_307 : (Jvm.Cond.code ({ cls := "CranePlan$Cranes", name := "timeFor", desc := "(II)I" } : Jvm.MethodName) prog_3_method_7_code (3 : Nat) (Option.some Jvm.ClassFile.FieldType.int)) ∈ bigW := inB 307 (by decide +kernel) rfl
theorem nd_308 : (Jvm.Cond.methodLinkNest "CranePlan$Cranes" (45 : Nat) ({ cls := "CranePlan", name := "dividedUp", desc := "(JJ)J" } : Jvm.MethodName) "CranePlan") ∈ nwW := inN 308 (by decide +kernel) rfl
theorem wd_309 : (Jvm.Cond.static ({ cls := "CranePlan", name := "dividedUp", desc := "(JJ)J" } : Jvm.MethodName)) ∈ bigW := inB 309 (by decide +kernel) rfl
theorem wd_310 : (Jvm.Cond.code ({ cls := "CranePlan", name := "dividedUp", desc := "(JJ)J" } : Jvm.MethodName) prog_1_method_15_code (4 : Nat) (Option.some Jvm.ClassFile.FieldType.long)) ∈ bigW := inB 310 (by decide +kernel) rfl
theorem wd_311 : (Jvm.Cond.methodLink "CranePlan$Timetable" (92 : Nat) ({ cls := "CranePlan$Timetable", name := "whenCame", desc := "(II)I" } : Jvm.MethodName)) ∈ bigW := inB 311 (by decide +kernel) rfl
theorem wd_313 : (Jvm.Cond.instanceMethod ({ cls := "CranePlan$Timetable", name := "whenCame", desc := "(II)I" } : Jvm.MethodName)) ∈ bigW := inB 313 (by decide +kernel) rfl
theorem wd_314 : (Jvm.Cond.code ({ cls := "CranePlan$Timetable", name := "whenCame", desc := "(II)I" } : Jvm.MethodName) prog_5_method_8_code (3 : Nat) (Option.some Jvm.ClassFile.FieldType.int)) ∈ bigW := inB 314 (by decide +kernel) rfl
theorem nd_315 : (Jvm.Cond.methodLinkNest "CranePlan$Search" (60 : Nat) ({ cls := "CranePlan$Timetable", name := "isBetterThan", desc := "(II)Z" } : Jvm.MethodName) "CranePlan") ∈ nwW := inN 315 (by decide +kernel) rfl
theorem wd_317 : (Jvm.Cond.instanceMethod ({ cls := "CranePlan$Timetable", name := "isBetterThan", desc := "(II)Z" } : Jvm.MethodName)) ∈ bigW := inB 317 (by decide +kernel) rfl
theorem wd_318 : (Jvm.Cond.code ({ cls := "CranePlan$Timetable", name := "isBetterThan", desc := "(II)Z" } : Jvm.MethodName) prog_5_method_9_code (3 : Nat) (Option.some Jvm.ClassFile.FieldType.boolean)) ∈ bigW := inB 318 (by decide +kernel) rfl
theorem wd_319 : (Jvm.Cond.methodLink "CranePlan$Search" (70 : Nat) ({ cls := "java/lang/System", name := "arraycopy", desc := "(Ljava/lang/Object;ILjava/lang/Object;II)V" } : Jvm.MethodName)) ∈ bigW := inB 319 (by decide +kernel) rfl
theorem wd_320 : (Jvm.Cond.static ({ cls := "java/lang/System", name := "arraycopy", desc := "(Ljava/lang/Object;ILjava/lang/Object;II)V" } : Jvm.MethodName)) ∈ bigW := inB 320 (by decide +kernel) rfl
theorem wd_321 : (Jvm.Cond.native ({ cls := "java/lang/System", name := "arraycopy", desc := "(Ljava/lang/Object;ILjava/lang/Object;II)V" } : Jvm.MethodName)) ∈ bigW := inB 321 (by decide +kernel) rfl
theorem wd_322 : (Jvm.Cond.methodLink "CranePlan$Search" (76 : Nat) ({ cls := "CranePlan$Search", name := "nextChoice", desc := "()Z" } : Jvm.MethodName)) ∈ bigW := inB 322 (by decide +kernel) rfl
theorem wd_324 : (Jvm.Cond.instanceMethod ({ cls := "CranePlan$Search", name := "nextChoice", desc := "()Z" } : Jvm.MethodName)) ∈ bigW := inB 324 (by decide +kernel) rfl
theorem wd_325 : (Jvm.Cond.code ({ cls := "CranePlan$Search", name := "nextChoice", desc := "()Z" } : Jvm.MethodName) prog_4_method_5_code (4 : Nat) (Option.some Jvm.ClassFile.FieldType.boolean)) ∈ bigW := inB 325 (by decide +kernel) rfl
theorem nd_326 : (Jvm.Cond.methodLinkNest "CranePlan$Search" (79 : Nat) ({ cls := "CranePlan$Timetable", name := "sortRows", desc := "()V" } : Jvm.MethodName) "CranePlan") ∈ nwW := inN 326 (by decide +kernel) rfl
theorem wd_328 : (Jvm.Cond.instanceMethod ({ cls := "CranePlan$Timetable", name := "sortRows", desc := "()V" } : Jvm.MethodName)) ∈ bigW := inB 328 (by decide +kernel) rfl
theorem wd_329 : (Jvm.Cond.code ({ cls := "CranePlan$Timetable", name := "sortRows", desc := "()V" } : Jvm.MethodName) prog_5_method_10_code (3 : Nat) (Option.none : Option Jvm.ClassFile.FieldType)) ∈ bigW := inB 329 (by decide +kernel) rfl
theorem wd_330 : (Jvm.Cond.methodLink "CranePlan$Timetable" (98 : Nat) ({ cls := "CranePlan$Timetable", name := "beginsAhead", desc := "(II)Z" } : Jvm.MethodName)) ∈ bigW := inB 330 (by decide +kernel) rfl
theorem wd_332 : (Jvm.Cond.instanceMethod ({ cls := "CranePlan$Timetable", name := "beginsAhead", desc := "(II)Z" } : Jvm.MethodName)) ∈ bigW := inB 332 (by decide +kernel) rfl
theorem wd_333 : (Jvm.Cond.code ({ cls := "CranePlan$Timetable", name := "beginsAhead", desc := "(II)Z" } : Jvm.MethodName) prog_5_method_11_code (3 : Nat) (Option.some Jvm.ClassFile.FieldType.boolean)) ∈ bigW := inB 333 (by decide +kernel) rfl
theorem wd_334 : (Jvm.Cond.methodLink "CranePlanLaw" (82 : Nat) ({ cls := "CranePlan", name := "bound", desc := "()I" } : Jvm.MethodName)) ∈ bigW := inB 334 (by decide +kernel) rfl
theorem wd_335 : (Jvm.Cond.instanceMethod ({ cls := "CranePlan", name := "bound", desc := "()I" } : Jvm.MethodName)) ∈ bigW := inB 335 (by decide +kernel) rfl
theorem wd_336 : (Jvm.Cond.selects "CranePlan" ({ cls := "CranePlan", name := "bound", desc := "()I" } : Jvm.MethodName) ({ cls := "CranePlan", name := "bound", desc := "()I" } : Jvm.MethodName)) ∈ bigW := inB 336 (by decide +kernel) rfl
theorem wd_337 : (Jvm.Cond.code ({ cls := "CranePlan", name := "bound", desc := "()I" } : Jvm.MethodName) prog_1_method_9_code (3 : Nat) (Option.some Jvm.ClassFile.FieldType.int)) ∈ bigW := inB 337 (by decide +kernel) rfl
theorem nd_338 : (Jvm.Cond.methodLinkNest "CranePlan" (137 : Nat) ({ cls := "CranePlan$Cranes", name := "able", desc := "()I" } : Jvm.MethodName) "CranePlan") ∈ nwW := inN 338 (by decide +kernel) rfl
theorem wd_340 : (Jvm.Cond.instanceMethod ({ cls := "CranePlan$Cranes", name := "able", desc := "()I" } : Jvm.MethodName)) ∈ bigW := inB 340 (by decide +kernel) rfl
theorem wd_341 : (Jvm.Cond.code ({ cls := "CranePlan$Cranes", name := "able", desc := "()I" } : Jvm.MethodName) prog_3_method_6_code (3 : Nat) (Option.some Jvm.ClassFile.FieldType.int)) ∈ bigW := inB 341 (by decide +kernel) rfl
theorem wd_342 : (Jvm.Cond.methodLink "CranePlan$Cranes" (42 : Nat) ({ cls := "CranePlan$Cranes", name := "isOut", desc := "(I)Z" } : Jvm.MethodName)) ∈ bigW := inB 342 (by decide +kernel) rfl
theorem nd_343 : (Jvm.Cond.methodLinkNest "CranePlan" (140 : Nat) ({ cls := "CranePlan$Bays", name := "allMoves", desc := "()I" } : Jvm.MethodName) "CranePlan") ∈ nwW := inN 343 (by decide +kernel) rfl
theorem wd_345 : (Jvm.Cond.instanceMethod ({ cls := "CranePlan$Bays", name := "allMoves", desc := "()I" } : Jvm.MethodName)) ∈ bigW := inB 345 (by decide +kernel) rfl
theorem wd_346 : (Jvm.Cond.code ({ cls := "CranePlan$Bays", name := "allMoves", desc := "()I" } : Jvm.MethodName) prog_2_method_6_code (3 : Nat) (Option.some Jvm.ClassFile.FieldType.int)) ∈ bigW := inB 346 (by decide +kernel) rfl
theorem wd_347 : (Jvm.Cond.methodLink "CranePlan$Bays" (30 : Nat) ({ cls := "CranePlan$Bays", name := "movesOf", desc := "(I)I" } : Jvm.MethodName)) ∈ bigW := inB 347 (by decide +kernel) rfl
theorem nd_348 : (Jvm.Cond.methodLinkNest "CranePlan" (143 : Nat) ({ cls := "CranePlan$Cranes", name := "timeTogether", desc := "(I)I" } : Jvm.MethodName) "CranePlan") ∈ nwW := inN 348 (by decide +kernel) rfl
theorem wd_350 : (Jvm.Cond.instanceMethod ({ cls := "CranePlan$Cranes", name := "timeTogether", desc := "(I)I" } : Jvm.MethodName)) ∈ bigW := inB 350 (by decide +kernel) rfl
theorem wd_351 : (Jvm.Cond.code ({ cls := "CranePlan$Cranes", name := "timeTogether", desc := "(I)I" } : Jvm.MethodName) prog_3_method_10_code (7 : Nat) (Option.some Jvm.ClassFile.FieldType.int)) ∈ bigW := inB 351 (by decide +kernel) rfl
theorem nd_352 : (Jvm.Cond.methodLinkNest "CranePlan" (147 : Nat) ({ cls := "CranePlan$Bays", name := "movesOf", desc := "(I)I" } : Jvm.MethodName) "CranePlan") ∈ nwW := inN 352 (by decide +kernel) rfl
theorem nd_353 : (Jvm.Cond.methodLinkNest "CranePlan" (150 : Nat) ({ cls := "CranePlan$Cranes", name := "leastTime", desc := "(I)I" } : Jvm.MethodName) "CranePlan") ∈ nwW := inN 353 (by decide +kernel) rfl
theorem wd_355 : (Jvm.Cond.instanceMethod ({ cls := "CranePlan$Cranes", name := "leastTime", desc := "(I)I" } : Jvm.MethodName)) ∈ bigW := inB 355 (by decide +kernel) rfl
theorem wd_356 : (Jvm.Cond.code ({ cls := "CranePlan$Cranes", name := "leastTime", desc := "(I)I" } : Jvm.MethodName) prog_3_method_9_code (4 : Nat) (Option.some Jvm.ClassFile.FieldType.int)) ∈ bigW := inB 356 (by decide +kernel) rfl
theorem wd_357 : (Jvm.Cond.constant "CranePlan$Cranes" (49 : Nat) (1000000 : Int32)) ∈ bigW := inB 357 (by decide +kernel) rfl
theorem wd_358 : (Jvm.Cond.methodLink "CranePlan$Cranes" (50 : Nat) ({ cls := "CranePlan$Cranes", name := "timeFor", desc := "(II)I" } : Jvm.MethodName)) ∈ bigW := inB 358 (by decide +kernel) rfl
theorem wd_359 : (Jvm.Cond.methodLink "CranePlan$Cranes" (54 : Nat) ({ cls := "java/lang/Math", name := "min", desc := "(II)I" } : Jvm.MethodName)) ∈ bigW := inB 359 (by decide +kernel) rfl
theorem wd_360 : (Jvm.Cond.methodLink "CranePlanLaw" (92 : Nat) ({ cls := "CranePlan", name := "count", desc := "(I)I" } : Jvm.MethodName)) ∈ bigW := inB 360 (by decide +kernel) rfl
theorem wd_361 : (Jvm.Cond.instanceMethod ({ cls := "CranePlan", name := "count", desc := "(I)I" } : Jvm.MethodName)) ∈ bigW := inB 361 (by decide +kernel) rfl
theorem wd_362 : (Jvm.Cond.selects "CranePlan" ({ cls := "CranePlan", name := "count", desc := "(I)I" } : Jvm.MethodName) ({ cls := "CranePlan", name := "count", desc := "(I)I" } : Jvm.MethodName)) ∈ bigW := inB 362 (by decide +kernel) rfl
theorem wd_363 : (Jvm.Cond.code ({ cls := "CranePlan", name := "count", desc := "(I)I" } : Jvm.MethodName) prog_1_method_12_code (2 : Nat) (Option.some Jvm.ClassFile.FieldType.int)) ∈ bigW := inB 363 (by decide +kernel) rfl
theorem wd_364 : (Jvm.Cond.methodLink "CranePlanLaw" (40 : Nat) ({ cls := "CranePlanLaw", name := "cell", desc := "([II)I" } : Jvm.MethodName)) ∈ bigW := inB 364 (by decide +kernel) rfl
theorem wd_365 : (Jvm.Cond.static ({ cls := "CranePlanLaw", name := "cell", desc := "([II)I" } : Jvm.MethodName)) ∈ bigW := inB 365 (by decide +kernel) rfl
theorem wd_366 : (Jvm.Cond.code ({ cls := "CranePlanLaw", name := "cell", desc := "([II)I" } : Jvm.MethodName) method_2_code (2 : Nat) (Option.some Jvm.ClassFile.FieldType.int)) ∈ bigW := inB 366 (by decide +kernel) rfl
theorem wd_367 : (Jvm.Cond.methodLink "CranePlanLaw" (52 : Nat) ({ cls := "CranePlanLaw", name := "bay", desc := "(LCranePlan;II[J)I" } : Jvm.MethodName)) ∈ bigW := inB 367 (by decide +kernel) rfl
theorem wd_368 : (Jvm.Cond.static ({ cls := "CranePlanLaw", name := "bay", desc := "(LCranePlan;II[J)I" } : Jvm.MethodName)) ∈ bigW := inB 368 (by decide +kernel) rfl
theorem wd_369 : (Jvm.Cond.codeWith ({ cls := "CranePlanLaw", name := "bay", desc := "(LCranePlan;II[J)I" } : Jvm.MethodName) method_3_code (5 : Nat) (Option.some Jvm.ClassFile.FieldType.int) [((0 : Nat), (10 : Nat), (13 : Nat), (13 : Nat)), ((0 : Nat), (10 : Nat), (17 : Nat), (15 : Nat))]) ∈ bigW := inB 369 (by decide +kernel) rfl
theorem wd_370 : (Jvm.Cond.classLink "CranePlanLaw" (13 : Nat) "java/lang/IllegalArgumentException") ∈ bigW := inB 370 (by decide +kernel) rfl
theorem wd_371 : (Jvm.Cond.classLink "CranePlanLaw" (15 : Nat) "java/lang/IllegalStateException") ∈ bigW := inB 371 (by decide +kernel) rfl
theorem wd_372 : (Jvm.Cond.methodLink "CranePlanLaw" (7 : Nat) ({ cls := "CranePlan", name := "bay", desc := "(II)I" } : Jvm.MethodName)) ∈ bigW := inB 372 (by decide +kernel) rfl
theorem wd_373 : (Jvm.Cond.instanceMethod ({ cls := "CranePlan", name := "bay", desc := "(II)I" } : Jvm.MethodName)) ∈ bigW := inB 373 (by decide +kernel) rfl
theorem wd_374 : (Jvm.Cond.selects "CranePlan" ({ cls := "CranePlan", name := "bay", desc := "(II)I" } : Jvm.MethodName) ({ cls := "CranePlan", name := "bay", desc := "(II)I" } : Jvm.MethodName)) ∈ bigW := inB 374 (by decide +kernel) rfl
theorem wd_375 : (Jvm.Cond.code ({ cls := "CranePlan", name := "bay", desc := "(II)I" } : Jvm.MethodName) prog_1_method_2_code (3 : Nat) (Option.some Jvm.ClassFile.FieldType.int)) ∈ bigW := inB 375 (by decide +kernel) rfl
theorem wd_376 : (Jvm.Cond.classLink "CranePlan" (55 : Nat) "java/lang/IllegalArgumentException") ∈ bigW := inB 376 (by decide +kernel) rfl
theorem wd_377 : (Jvm.Cond.instantiable "java/lang/IllegalArgumentException" (6 : Nat)) ∈ bigW := inB 377 (by decide +kernel) rfl
theorem wd_397 : (Jvm.Cond.fieldLink "java/lang/Throwable" (198 : Nat) "java/lang/Throwable" "backtrace" "Ljava/lang/Object;") ∈ bigW := inB 397 (by decide +kernel) rfl
theorem wd_402 : (Jvm.Cond.fieldLink "java/lang/Throwable" (13 : Nat) "java/lang/Throwable" "UNASSIGNED_STACK" "[Ljava/lang/StackTraceElement;") ∈ bigW := inB 402 (by decide +kernel) rfl
theorem wd_404 : (Jvm.Cond.fieldLink "java/lang/Throwable" (20 : Nat) "java/lang/Throwable" "SUPPRESSED_SENTINEL" "Ljava/util/List;") ∈ bigW := inB 404 (by decide +kernel) rfl
theorem wd_416 : (Jvm.Cond.instantiable "java/lang/Throwable" (6 : Nat)) ∈ bigW := inB 416 (by decide +kernel) rfl
theorem wd_419 : (Jvm.Cond.methodLink "CranePlan" (59 : Nat) ({ cls := "java/lang/IllegalArgumentException", name := "<init>", desc := "(Ljava/lang/String;)V" } : Jvm.MethodName)) ∈ bigW := inB 419 (by decide +kernel) rfl
theorem wd_420 : (Jvm.Cond.instanceMethod ({ cls := "java/lang/IllegalArgumentException", name := "<init>", desc := "(Ljava/lang/String;)V" } : Jvm.MethodName)) ∈ bigW := inB 420 (by decide +kernel) rfl
theorem wd_422 : (Jvm.Cond.methodLink "java/lang/IllegalArgumentException" (7 : Nat) ({ cls := "java/lang/RuntimeException", name := "<init>", desc := "(Ljava/lang/String;)V" } : Jvm.MethodName)) ∈ bigW := inB 422 (by decide +kernel) rfl
theorem wd_423 : (Jvm.Cond.instanceMethod ({ cls := "java/lang/RuntimeException", name := "<init>", desc := "(Ljava/lang/String;)V" } : Jvm.MethodName)) ∈ bigW := inB 423 (by decide +kernel) rfl
theorem wd_425 : (Jvm.Cond.methodLink "java/lang/RuntimeException" (7 : Nat) ({ cls := "java/lang/Exception", name := "<init>", desc := "(Ljava/lang/String;)V" } : Jvm.MethodName)) ∈ bigW := inB 425 (by decide +kernel) rfl
theorem wd_426 : (Jvm.Cond.instanceMethod ({ cls := "java/lang/Exception", name := "<init>", desc := "(Ljava/lang/String;)V" } : Jvm.MethodName)) ∈ bigW := inB 426 (by decide +kernel) rfl
theorem wd_431 : (Jvm.Cond.fieldLink "java/lang/Throwable" (198 : Nat) "java/lang/Throwable" "backtrace" "Ljava/lang/Object;") ∈ bigW := inB 431 (by decide +kernel) rfl
theorem wd_432 : (Jvm.Cond.fieldLink "java/lang/Throwable" (31 : Nat) "java/lang/Throwable" "detailMessage" "Ljava/lang/String;") ∈ bigW := inB 432 (by decide +kernel) rfl
theorem wd_433 : (Jvm.Cond.fieldLink "java/lang/Throwable" (7 : Nat) "java/lang/Throwable" "cause" "Ljava/lang/Throwable;") ∈ bigW := inB 433 (by decide +kernel) rfl
theorem wd_434 : (Jvm.Cond.fieldLink "java/lang/Throwable" (17 : Nat) "java/lang/Throwable" "stackTrace" "[Ljava/lang/StackTraceElement;") ∈ bigW := inB 434 (by decide +kernel) rfl
theorem wd_435 : (Jvm.Cond.fieldLink "java/lang/Throwable" (24 : Nat) "java/lang/Throwable" "suppressedExceptions" "Ljava/util/List;") ∈ bigW := inB 435 (by decide +kernel) rfl
theorem wd_444 : (Jvm.Cond.arrayClass Jvm.ClassFile.FieldType.byte) ∈ bigW := inB 444 (by decide +kernel) rfl
theorem nd_445 : (Jvm.Cond.methodLinkNest "CranePlan" (62 : Nat) ({ cls := "CranePlan$Bays", name := "isFull", desc := "()Z" } : Jvm.MethodName) "CranePlan") ∈ nwW := inN 445 (by decide +kernel) rfl
theorem wd_447 : (Jvm.Cond.instanceMethod ({ cls := "CranePlan$Bays", name := "isFull", desc := "()Z" } : Jvm.MethodName)) ∈ bigW := inB 447 (by decide +kernel) rfl
theorem wd_448 : (Jvm.Cond.code ({ cls := "CranePlan$Bays", name := "isFull", desc := "()Z" } : Jvm.MethodName) prog_2_method_3_code (1 : Nat) (Option.some Jvm.ClassFile.FieldType.boolean)) ∈ bigW := inB 448 (by decide +kernel) rfl
theorem wd_449 : (Jvm.Cond.classLink "CranePlan" (66 : Nat) "java/lang/IllegalStateException") ∈ bigW := inB 449 (by decide +kernel) rfl
theorem wd_450 : (Jvm.Cond.instantiable "java/lang/IllegalStateException" (6 : Nat)) ∈ bigW := inB 450 (by decide +kernel) rfl
theorem wd_459 : (Jvm.Cond.methodLink "CranePlan" (70 : Nat) ({ cls := "java/lang/IllegalStateException", name := "<init>", desc := "(Ljava/lang/String;)V" } : Jvm.MethodName)) ∈ bigW := inB 459 (by decide +kernel) rfl
theorem wd_460 : (Jvm.Cond.instanceMethod ({ cls := "java/lang/IllegalStateException", name := "<init>", desc := "(Ljava/lang/String;)V" } : Jvm.MethodName)) ∈ bigW := inB 460 (by decide +kernel) rfl
theorem wd_462 : (Jvm.Cond.methodLink "java/lang/IllegalStateException" (7 : Nat) ({ cls := "java/lang/RuntimeException", name := "<init>", desc := "(Ljava/lang/String;)V" } : Jvm.MethodName)) ∈ bigW := inB 462 (by decide +kernel) rfl
theorem nd_465 : (Jvm.Cond.methodLinkNest "CranePlan" (71 : Nat) ({ cls := "CranePlan$Bays", name := "add", desc := "(II)I" } : Jvm.MethodName) "CranePlan") ∈ nwW := inN 465 (by decide +kernel) rfl
theorem wd_467 : (Jvm.Cond.instanceMethod ({ cls := "CranePlan$Bays", name := "add", desc := "(II)I" } : Jvm.MethodName)) ∈ bigW := inB 467 (by decide +kernel) rfl
theorem wd_468 : (Jvm.Cond.code ({ cls := "CranePlan$Bays", name := "add", desc := "(II)I" } : Jvm.MethodName) prog_2_method_4_code (3 : Nat) (Option.some Jvm.ClassFile.FieldType.int)) ∈ bigW := inB 468 (by decide +kernel) rfl
theorem wd_469 : (Jvm.Cond.methodLink "CranePlan$Bays" (22 : Nat) ({ cls := "CranePlan$Bays", name := "isFull", desc := "()Z" } : Jvm.MethodName)) ∈ bigW := inB 469 (by decide +kernel) rfl
theorem wd_470 : (Jvm.Cond.methodLink "CranePlanLaw" (60 : Nat) ({ cls := "CranePlanLaw", name := "rate", desc := "(LCranePlan;III[J)I" } : Jvm.MethodName)) ∈ bigW := inB 470 (by decide +kernel) rfl
theorem wd_471 : (Jvm.Cond.static ({ cls := "CranePlanLaw", name := "rate", desc := "(LCranePlan;III[J)I" } : Jvm.MethodName)) ∈ bigW := inB 471 (by decide +kernel) rfl
theorem wd_472 : (Jvm.Cond.codeWith ({ cls := "CranePlanLaw", name := "rate", desc := "(LCranePlan;III[J)I" } : Jvm.MethodName) method_4_code (6 : Nat) (Option.some Jvm.ClassFile.FieldType.int) [((0 : Nat), (19 : Nat), (22 : Nat), (21 : Nat)), ((0 : Nat), (19 : Nat), (26 : Nat), (13 : Nat))]) ∈ bigW := inB 472 (by decide +kernel) rfl
theorem wd_473 : (Jvm.Cond.classLink "CranePlanLaw" (21 : Nat) "java/lang/ArithmeticException") ∈ bigW := inB 473 (by decide +kernel) rfl
theorem wd_474 : (Jvm.Cond.methodLink "CranePlanLaw" (17 : Nat) ({ cls := "CranePlan", name := "rate", desc := "(III)Z" } : Jvm.MethodName)) ∈ bigW := inB 474 (by decide +kernel) rfl
theorem wd_475 : (Jvm.Cond.instanceMethod ({ cls := "CranePlan", name := "rate", desc := "(III)Z" } : Jvm.MethodName)) ∈ bigW := inB 475 (by decide +kernel) rfl
theorem wd_476 : (Jvm.Cond.selects "CranePlan" ({ cls := "CranePlan", name := "rate", desc := "(III)Z" } : Jvm.MethodName) ({ cls := "CranePlan", name := "rate", desc := "(III)Z" } : Jvm.MethodName)) ∈ bigW := inB 476 (by decide +kernel) rfl
theorem wd_477 : (Jvm.Cond.code ({ cls := "CranePlan", name := "rate", desc := "(III)Z" } : Jvm.MethodName) prog_1_method_3_code (4 : Nat) (Option.some Jvm.ClassFile.FieldType.boolean)) ∈ bigW := inB 477 (by decide +kernel) rfl
theorem wd_478 : (Jvm.Cond.classLink "CranePlan" (75 : Nat) "java/lang/ArithmeticException") ∈ bigW := inB 478 (by decide +kernel) rfl
theorem wd_479 : (Jvm.Cond.instantiable "java/lang/ArithmeticException" (6 : Nat)) ∈ bigW := inB 479 (by decide +kernel) rfl
theorem wd_488 : (Jvm.Cond.methodLink "CranePlan" (79 : Nat) ({ cls := "java/lang/ArithmeticException", name := "<init>", desc := "(Ljava/lang/String;)V" } : Jvm.MethodName)) ∈ bigW := inB 488 (by decide +kernel) rfl
theorem wd_489 : (Jvm.Cond.instanceMethod ({ cls := "java/lang/ArithmeticException", name := "<init>", desc := "(Ljava/lang/String;)V" } : Jvm.MethodName)) ∈ bigW := inB 489 (by decide +kernel) rfl
theorem wd_491 : (Jvm.Cond.methodLink "java/lang/ArithmeticException" (7 : Nat) ({ cls := "java/lang/RuntimeException", name := "<init>", desc := "(Ljava/lang/String;)V" } : Jvm.MethodName)) ∈ bigW := inB 491 (by decide +kernel) rfl
theorem nd_494 : (Jvm.Cond.methodLinkNest "CranePlan" (80 : Nat) ({ cls := "CranePlan$Cranes", name := "has", desc := "(I)Z" } : Jvm.MethodName) "CranePlan") ∈ nwW := inN 494 (by decide +kernel) rfl
theorem nd_497 : (Jvm.Cond.methodLinkNest "CranePlan" (88 : Nat) ({ cls := "CranePlan$Cranes", name := "setRate", desc := "(III)V" } : Jvm.MethodName) "CranePlan") ∈ nwW := inN 497 (by decide +kernel) rfl
theorem wd_499 : (Jvm.Cond.instanceMethod ({ cls := "CranePlan$Cranes", name := "setRate", desc := "(III)V" } : Jvm.MethodName)) ∈ bigW := inB 499 (by decide +kernel) rfl
theorem wd_500 : (Jvm.Cond.code ({ cls := "CranePlan$Cranes", name := "setRate", desc := "(III)V" } : Jvm.MethodName) prog_3_method_5_code (4 : Nat) (Option.none : Option Jvm.ClassFile.FieldType)) ∈ bigW := inB 500 (by decide +kernel) rfl
theorem wd_501 : (Jvm.Cond.methodLink "CranePlanLaw" (73 : Nat) ({ cls := "CranePlanLaw", name := "works", desc := "(LCranePlan;II[J)I" } : Jvm.MethodName)) ∈ bigW := inB 501 (by decide +kernel) rfl
theorem wd_502 : (Jvm.Cond.static ({ cls := "CranePlanLaw", name := "works", desc := "(LCranePlan;II[J)I" } : Jvm.MethodName)) ∈ bigW := inB 502 (by decide +kernel) rfl
theorem wd_503 : (Jvm.Cond.codeWith ({ cls := "CranePlanLaw", name := "works", desc := "(LCranePlan;II[J)I" } : Jvm.MethodName) method_5_code (5 : Nat) (Option.some Jvm.ClassFile.FieldType.int) [((0 : Nat), (10 : Nat), (13 : Nat), (26 : Nat)), ((0 : Nat), (10 : Nat), (17 : Nat), (15 : Nat))]) ∈ bigW := inB 503 (by decide +kernel) rfl
theorem wd_504 : (Jvm.Cond.classLink "CranePlanLaw" (26 : Nat) "java/lang/IndexOutOfBoundsException") ∈ bigW := inB 504 (by decide +kernel) rfl
theorem wd_505 : (Jvm.Cond.methodLink "CranePlanLaw" (23 : Nat) ({ cls := "CranePlan", name := "works", desc := "(II)I" } : Jvm.MethodName)) ∈ bigW := inB 505 (by decide +kernel) rfl
theorem wd_506 : (Jvm.Cond.instanceMethod ({ cls := "CranePlan", name := "works", desc := "(II)I" } : Jvm.MethodName)) ∈ bigW := inB 506 (by decide +kernel) rfl
theorem wd_507 : (Jvm.Cond.selects "CranePlan" ({ cls := "CranePlan", name := "works", desc := "(II)I" } : Jvm.MethodName) ({ cls := "CranePlan", name := "works", desc := "(II)I" } : Jvm.MethodName)) ∈ bigW := inB 507 (by decide +kernel) rfl
theorem wd_508 : (Jvm.Cond.code ({ cls := "CranePlan", name := "works", desc := "(II)I" } : Jvm.MethodName) prog_1_method_6_code (3 : Nat) (Option.some Jvm.ClassFile.FieldType.int)) ∈ bigW := inB 508 (by decide +kernel) rfl
theorem wd_509 : (Jvm.Cond.classLink "CranePlan" (102 : Nat) "java/lang/IndexOutOfBoundsException") ∈ bigW := inB 509 (by decide +kernel) rfl
theorem wd_510 : (Jvm.Cond.instantiable "java/lang/IndexOutOfBoundsException" (6 : Nat)) ∈ bigW := inB 510 (by decide +kernel) rfl
theorem wd_518 : (Jvm.Cond.methodLink "CranePlan" (104 : Nat) ({ cls := "java/lang/IndexOutOfBoundsException", name := "<init>", desc := "(Ljava/lang/String;)V" } : Jvm.MethodName)) ∈ bigW := inB 518 (by decide +kernel) rfl
theorem wd_519 : (Jvm.Cond.instanceMethod ({ cls := "java/lang/IndexOutOfBoundsException", name := "<init>", desc := "(Ljava/lang/String;)V" } : Jvm.MethodName)) ∈ bigW := inB 519 (by decide +kernel) rfl
theorem wd_521 : (Jvm.Cond.methodLink "java/lang/IndexOutOfBoundsException" (7 : Nat) ({ cls := "java/lang/RuntimeException", name := "<init>", desc := "(Ljava/lang/String;)V" } : Jvm.MethodName)) ∈ bigW := inB 521 (by decide +kernel) rfl
theorem nd_525 : (Jvm.Cond.methodLinkNest "CranePlan" (107 : Nat) ({ cls := "CranePlan$Timetable", name := "bayWorkedAt", desc := "(II)I" } : Jvm.MethodName) "CranePlan") ∈ nwW := inN 525 (by decide +kernel) rfl
theorem wd_527 : (Jvm.Cond.instanceMethod ({ cls := "CranePlan$Timetable", name := "bayWorkedAt", desc := "(II)I" } : Jvm.MethodName)) ∈ bigW := inB 527 (by decide +kernel) rfl
theorem wd_528 : (Jvm.Cond.code ({ cls := "CranePlan$Timetable", name := "bayWorkedAt", desc := "(II)I" } : Jvm.MethodName) prog_5_method_13_code (4 : Nat) (Option.some Jvm.ClassFile.FieldType.int)) ∈ bigW := inB 528 (by decide +kernel) rfl
theorem wd_529 : (Jvm.Cond.methodLink "CranePlanLaw" (76 : Nat) ({ cls := "CranePlanLaw", name := "where", desc := "(LCranePlan;II[J)I" } : Jvm.MethodName)) ∈ bigW := inB 529 (by decide +kernel) rfl
theorem wd_530 : (Jvm.Cond.static ({ cls := "CranePlanLaw", name := "where", desc := "(LCranePlan;II[J)I" } : Jvm.MethodName)) ∈ bigW := inB 530 (by decide +kernel) rfl
theorem wd_531 : (Jvm.Cond.codeWith ({ cls := "CranePlanLaw", name := "where", desc := "(LCranePlan;II[J)I" } : Jvm.MethodName) method_6_code (5 : Nat) (Option.some Jvm.ClassFile.FieldType.int) [((0 : Nat), (10 : Nat), (13 : Nat), (26 : Nat)), ((0 : Nat), (10 : Nat), (17 : Nat), (15 : Nat))]) ∈ bigW := inB 531 (by decide +kernel) rfl
theorem wd_532 : (Jvm.Cond.methodLink "CranePlanLaw" (28 : Nat) ({ cls := "CranePlan", name := "where", desc := "(II)I" } : Jvm.MethodName)) ∈ bigW := inB 532 (by decide +kernel) rfl
theorem wd_533 : (Jvm.Cond.instanceMethod ({ cls := "CranePlan", name := "where", desc := "(II)I" } : Jvm.MethodName)) ∈ bigW := inB 533 (by decide +kernel) rfl
theorem wd_534 : (Jvm.Cond.selects "CranePlan" ({ cls := "CranePlan", name := "where", desc := "(II)I" } : Jvm.MethodName) ({ cls := "CranePlan", name := "where", desc := "(II)I" } : Jvm.MethodName)) ∈ bigW := inB 534 (by decide +kernel) rfl
theorem wd_535 : (Jvm.Cond.code ({ cls := "CranePlan", name := "where", desc := "(II)I" } : Jvm.MethodName) prog_1_method_7_code (3 : Nat) (Option.some Jvm.ClassFile.FieldType.int)) ∈ bigW := inB 535 (by decide +kernel) rfl
theorem nd_537 : (Jvm.Cond.methodLinkNest "CranePlan" (112 : Nat) ({ cls := "CranePlan$Timetable", name := "bayCameTo", desc := "(II)I" } : Jvm.MethodName) "CranePlan") ∈ nwW := inN 537 (by decide +kernel) rfl
theorem wd_539 : (Jvm.Cond.instanceMethod ({ cls := "CranePlan$Timetable", name := "bayCameTo", desc := "(II)I" } : Jvm.MethodName)) ∈ bigW := inB 539 (by decide +kernel) rfl
theorem wd_540 : (Jvm.Cond.code ({ cls := "CranePlan$Timetable", name := "bayCameTo", desc := "(II)I" } : Jvm.MethodName) prog_5_method_14_code (5 : Nat) (Option.some Jvm.ClassFile.FieldType.int)) ∈ bigW := inB 540 (by decide +kernel) rfl
theorem wd_541 : (Jvm.Cond.methodLink "CranePlanLaw" (79 : Nat) ({ cls := "CranePlanLaw", name := "fails", desc := "(LCranePlan;II[J)I" } : Jvm.MethodName)) ∈ bigW := inB 541 (by decide +kernel) rfl
theorem wd_542 : (Jvm.Cond.static ({ cls := "CranePlanLaw", name := "fails", desc := "(LCranePlan;II[J)I" } : Jvm.MethodName)) ∈ bigW := inB 542 (by decide +kernel) rfl
theorem wd_543 : (Jvm.Cond.codeWith ({ cls := "CranePlanLaw", name := "fails", desc := "(LCranePlan;II[J)I" } : Jvm.MethodName) method_7_code (5 : Nat) (Option.some Jvm.ClassFile.FieldType.int) [((0 : Nat), (10 : Nat), (13 : Nat), (26 : Nat)), ((0 : Nat), (10 : Nat), (17 : Nat), (13 : Nat)), ((0 : Nat), (10 : Nat), (21 : Nat), (15 : Nat))]) ∈ bigW := inB 543 (by decide +kernel) rfl
theorem wd_544 : (Jvm.Cond.methodLink "CranePlanLaw" (31 : Nat) ({ cls := "CranePlan", name := "fails", desc := "(II)I" } : Jvm.MethodName)) ∈ bigW := inB 544 (by decide +kernel) rfl
theorem wd_545 : (Jvm.Cond.instanceMethod ({ cls := "CranePlan", name := "fails", desc := "(II)I" } : Jvm.MethodName)) ∈ bigW := inB 545 (by decide +kernel) rfl
theorem wd_546 : (Jvm.Cond.selects "CranePlan" ({ cls := "CranePlan", name := "fails", desc := "(II)I" } : Jvm.MethodName) ({ cls := "CranePlan", name := "fails", desc := "(II)I" } : Jvm.MethodName)) ∈ bigW := inB 546 (by decide +kernel) rfl
theorem wd_547 : (Jvm.Cond.code ({ cls := "CranePlan", name := "fails", desc := "(II)I" } : Jvm.MethodName) prog_1_method_8_code (4 : Nat) (Option.some Jvm.ClassFile.FieldType.int)) ∈ bigW := inB 547 (by decide +kernel) rfl
theorem nd_548 : (Jvm.Cond.methodLinkNest "CranePlan" (115 : Nat) ({ cls := "CranePlan$Cranes", name := "isOut", desc := "(I)Z" } : Jvm.MethodName) "CranePlan") ∈ nwW := inN 548 (by decide +kernel) rfl
theorem nd_550 : (Jvm.Cond.methodLinkNest "CranePlan" (123 : Nat) ({ cls := "CranePlan$Timetable", name := "doneBy", desc := "(II)I" } : Jvm.MethodName) "CranePlan") ∈ nwW := inN 550 (by decide +kernel) rfl
theorem wd_552 : (Jvm.Cond.instanceMethod ({ cls := "CranePlan$Timetable", name := "doneBy", desc := "(II)I" } : Jvm.MethodName)) ∈ bigW := inB 552 (by decide +kernel) rfl
theorem wd_553 : (Jvm.Cond.code ({ cls := "CranePlan$Timetable", name := "doneBy", desc := "(II)I" } : Jvm.MethodName) prog_5_method_15_code (3 : Nat) (Option.some Jvm.ClassFile.FieldType.int)) ∈ bigW := inB 553 (by decide +kernel) rfl
theorem nd_554 : (Jvm.Cond.methodLinkNest "CranePlan$Timetable" (101 : Nat) ({ cls := "CranePlan$Cranes", name := "movesIn", desc := "(II)I" } : Jvm.MethodName) "CranePlan") ∈ nwW := inN 554 (by decide +kernel) rfl
theorem wd_556 : (Jvm.Cond.instanceMethod ({ cls := "CranePlan$Cranes", name := "movesIn", desc := "(II)I" } : Jvm.MethodName)) ∈ bigW := inB 556 (by decide +kernel) rfl
theorem wd_557 : (Jvm.Cond.code ({ cls := "CranePlan$Cranes", name := "movesIn", desc := "(II)I" } : Jvm.MethodName) prog_3_method_8_code (3 : Nat) (Option.some Jvm.ClassFile.FieldType.int)) ∈ bigW := inB 557 (by decide +kernel) rfl
theorem nd_558 : (Jvm.Cond.methodLinkNest "CranePlan" (126 : Nat) ({ cls := "CranePlan$Bays", name := "takeOff", desc := "(II)V" } : Jvm.MethodName) "CranePlan") ∈ nwW := inN 558 (by decide +kernel) rfl
theorem wd_560 : (Jvm.Cond.instanceMethod ({ cls := "CranePlan$Bays", name := "takeOff", desc := "(II)V" } : Jvm.MethodName)) ∈ bigW := inB 560 (by decide +kernel) rfl
theorem wd_561 : (Jvm.Cond.code ({ cls := "CranePlan$Bays", name := "takeOff", desc := "(II)V" } : Jvm.MethodName) prog_2_method_7_code (4 : Nat) (Option.none : Option Jvm.ClassFile.FieldType)) ∈ bigW := inB 561 (by decide +kernel) rfl
theorem wd_562 : (Jvm.Cond.methodLink "CranePlan$Bays" (34 : Nat) ({ cls := "java/lang/Math", name := "min", desc := "(II)I" } : Jvm.MethodName)) ∈ bigW := inB 562 (by decide +kernel) rfl
theorem nd_563 : (Jvm.Cond.methodLinkNest "CranePlan" (129 : Nat) ({ cls := "CranePlan$Cranes", name := "putOut", desc := "(I)V" } : Jvm.MethodName) "CranePlan") ∈ nwW := inN 563 (by decide +kernel) rfl
theorem wd_565 : (Jvm.Cond.instanceMethod ({ cls := "CranePlan$Cranes", name := "putOut", desc := "(I)V" } : Jvm.MethodName)) ∈ bigW := inB 565 (by decide +kernel) rfl
theorem wd_566 : (Jvm.Cond.code ({ cls := "CranePlan$Cranes", name := "putOut", desc := "(I)V" } : Jvm.MethodName) prog_3_method_4_code (2 : Nat) (Option.none : Option Jvm.ClassFile.FieldType)) ∈ bigW := inB 566 (by decide +kernel) rfl
theorem wd_567 : (Jvm.Cond.methodLink "CranePlan" (133 : Nat) ({ cls := "CranePlan", name := "plan", desc := "()I" } : Jvm.MethodName)) ∈ bigW := inB 567 (by decide +kernel) rfl
theorem wd_568 : (Jvm.Cond.methodLink "CranePlanLaw" (86 : Nat) ({ cls := "CranePlanLaw", name := "row", desc := "(LCranePlan;II[J)I" } : Jvm.MethodName)) ∈ bigW := inB 568 (by decide +kernel) rfl
theorem wd_569 : (Jvm.Cond.static ({ cls := "CranePlanLaw", name := "row", desc := "(LCranePlan;II[J)I" } : Jvm.MethodName)) ∈ bigW := inB 569 (by decide +kernel) rfl
theorem wd_570 : (Jvm.Cond.codeWith ({ cls := "CranePlanLaw", name := "row", desc := "(LCranePlan;II[J)I" } : Jvm.MethodName) method_8_code (5 : Nat) (Option.some Jvm.ClassFile.FieldType.int) [((0 : Nat), (10 : Nat), (13 : Nat), (15 : Nat)), ((0 : Nat), (10 : Nat), (17 : Nat), (26 : Nat))]) ∈ bigW := inB 570 (by decide +kernel) rfl
theorem wd_571 : (Jvm.Cond.methodLink "CranePlanLaw" (34 : Nat) ({ cls := "CranePlan", name := "row", desc := "(II)I" } : Jvm.MethodName)) ∈ bigW := inB 571 (by decide +kernel) rfl
theorem wd_572 : (Jvm.Cond.instanceMethod ({ cls := "CranePlan", name := "row", desc := "(II)I" } : Jvm.MethodName)) ∈ bigW := inB 572 (by decide +kernel) rfl
theorem wd_573 : (Jvm.Cond.selects "CranePlan" ({ cls := "CranePlan", name := "row", desc := "(II)I" } : Jvm.MethodName) ({ cls := "CranePlan", name := "row", desc := "(II)I" } : Jvm.MethodName)) ∈ bigW := inB 573 (by decide +kernel) rfl
theorem wd_574 : (Jvm.Cond.code ({ cls := "CranePlan", name := "row", desc := "(II)I" } : Jvm.MethodName) prog_1_method_10_code (3 : Nat) (Option.some Jvm.ClassFile.FieldType.int)) ∈ bigW := inB 574 (by decide +kernel) rfl
theorem nd_576 : (Jvm.Cond.methodLinkNest "CranePlan" (163 : Nat) ({ cls := "CranePlan$Timetable", name := "ofRow", desc := "(II)I" } : Jvm.MethodName) "CranePlan") ∈ nwW := inN 576 (by decide +kernel) rfl
theorem wd_578 : (Jvm.Cond.instanceMethod ({ cls := "CranePlan$Timetable", name := "ofRow", desc := "(II)I" } : Jvm.MethodName)) ∈ bigW := inB 578 (by decide +kernel) rfl
theorem wd_579 : (Jvm.Cond.code ({ cls := "CranePlan$Timetable", name := "ofRow", desc := "(II)I" } : Jvm.MethodName) prog_5_method_12_code (4 : Nat) (Option.some Jvm.ClassFile.FieldType.int)) ∈ bigW := inB 579 (by decide +kernel) rfl
theorem wd_580 : (Jvm.Cond.methodLink "CranePlanLaw" (89 : Nat) ({ cls := "CranePlanLaw", name := "look", desc := "(LCranePlan;II[J)I" } : Jvm.MethodName)) ∈ bigW := inB 580 (by decide +kernel) rfl
theorem wd_581 : (Jvm.Cond.static ({ cls := "CranePlanLaw", name := "look", desc := "(LCranePlan;II[J)I" } : Jvm.MethodName)) ∈ bigW := inB 581 (by decide +kernel) rfl
theorem wd_582 : (Jvm.Cond.codeWith ({ cls := "CranePlanLaw", name := "look", desc := "(LCranePlan;II[J)I" } : Jvm.MethodName) method_9_code (5 : Nat) (Option.some Jvm.ClassFile.FieldType.int) [((0 : Nat), (10 : Nat), (13 : Nat), (26 : Nat))]) ∈ bigW := inB 582 (by decide +kernel) rfl
theorem wd_583 : (Jvm.Cond.methodLink "CranePlanLaw" (37 : Nat) ({ cls := "CranePlan", name := "look", desc := "(II)I" } : Jvm.MethodName)) ∈ bigW := inB 583 (by decide +kernel) rfl
theorem wd_584 : (Jvm.Cond.instanceMethod ({ cls := "CranePlan", name := "look", desc := "(II)I" } : Jvm.MethodName)) ∈ bigW := inB 584 (by decide +kernel) rfl
theorem wd_585 : (Jvm.Cond.selects "CranePlan" ({ cls := "CranePlan", name := "look", desc := "(II)I" } : Jvm.MethodName) ({ cls := "CranePlan", name := "look", desc := "(II)I" } : Jvm.MethodName)) ∈ bigW := inB 585 (by decide +kernel) rfl
theorem wd_586 : (Jvm.Cond.code ({ cls := "CranePlan", name := "look", desc := "(II)I" } : Jvm.MethodName) prog_1_method_11_code (3 : Nat) (Option.some Jvm.ClassFile.FieldType.int)) ∈ bigW := inB 586 (by decide +kernel) rfl
theorem nd_587 : (Jvm.Cond.methodLinkNest "CranePlan" (166 : Nat) ({ cls := "CranePlan$Bays", name := "has", desc := "(I)Z" } : Jvm.MethodName) "CranePlan") ∈ nwW := inN 587 (by decide +kernel) rfl
theorem wd_589 : (Jvm.Cond.classLink "CranePlanLaw" (49 : Nat) "CranePlanModel") ∈ bigW := inB 589 (by decide +kernel) rfl
theorem wd_590 : (Jvm.Cond.instantiable "CranePlanModel" (16 : Nat)) ∈ bigW := inB 590 (by decide +kernel) rfl
theorem wd_591 : (Jvm.Cond.methodLink "CranePlanLaw" (51 : Nat) ({ cls := "CranePlanModel", name := "<init>", desc := "(II)V" } : Jvm.MethodName)) ∈ bigW := inB 591 (by decide +kernel) rfl
theorem wd_592 : (Jvm.Cond.instanceMethod ({ cls := "CranePlanModel", name := "<init>", desc := "(II)V" } : Jvm.MethodName)) ∈ bigW := inB 592 (by decide +kernel) rfl
theorem wd_593 : (Jvm.Cond.code ({ cls := "CranePlanModel", name := "<init>", desc := "(II)V" } : Jvm.MethodName) prog_7_method_1_code (3 : Nat) (Option.none : Option Jvm.ClassFile.FieldType)) ∈ bigW := inB 593 (by decide +kernel) rfl
theorem wd_594 : (Jvm.Cond.methodLink "CranePlanModel" (1 : Nat) ({ cls := "java/lang/Object", name := "<init>", desc := "()V" } : Jvm.MethodName)) ∈ bigW := inB 594 (by decide +kernel) rfl
theorem wd_595 : (Jvm.Cond.fieldLink "CranePlanModel" (51 : Nat) "CranePlanModel" "thrown" "I") ∈ bigW := inB 595 (by decide +kernel) rfl
theorem wd_596 : (Jvm.Cond.fieldLink "CranePlanModel" (45 : Nat) "CranePlanModel" "cranes" "I") ∈ bigW := inB 596 (by decide +kernel) rfl
theorem wd_597 : (Jvm.Cond.fieldLink "CranePlanModel" (48 : Nat) "CranePlanModel" "gap" "I") ∈ bigW := inB 597 (by decide +kernel) rfl
theorem wd_598 : (Jvm.Cond.fieldLink "CranePlanModel" (62 : Nat) "CranePlanModel" "bays" "I") ∈ bigW := inB 598 (by decide +kernel) rfl
theorem wd_599 : (Jvm.Cond.fieldLink "CranePlanModel" (7 : Nat) "CranePlanModel" "hatch" "[I") ∈ bigW := inB 599 (by decide +kernel) rfl
theorem wd_600 : (Jvm.Cond.fieldLink "CranePlanModel" (13 : Nat) "CranePlanModel" "work" "[I") ∈ bigW := inB 600 (by decide +kernel) rfl
theorem wd_601 : (Jvm.Cond.fieldLink "CranePlanModel" (16 : Nat) "CranePlanModel" "moves" "[I") ∈ bigW := inB 601 (by decide +kernel) rfl
theorem wd_602 : (Jvm.Cond.fieldLink "CranePlanModel" (19 : Nat) "CranePlanModel" "minutes" "[I") ∈ bigW := inB 602 (by decide +kernel) rfl
theorem wd_603 : (Jvm.Cond.fieldLink "CranePlanModel" (22 : Nat) "CranePlanModel" "out" "[Z") ∈ bigW := inB 603 (by decide +kernel) rfl
theorem wd_604 : (Jvm.Cond.fieldLink "CranePlanModel" (26 : Nat) "CranePlanModel" "step" "I") ∈ bigW := inB 604 (by decide +kernel) rfl
theorem wd_605 : (Jvm.Cond.fieldLink "CranePlanModel" (65 : Nat) "CranePlanModel" "planned" "Z") ∈ bigW := inB 605 (by decide +kernel) rfl
theorem wd_606 : (Jvm.Cond.fieldLink "CranePlanModel" (30 : Nat) "CranePlanModel" "tried" "[I") ∈ bigW := inB 606 (by decide +kernel) rfl
theorem wd_607 : (Jvm.Cond.fieldLink "CranePlanModel" (33 : Nat) "CranePlanModel" "best" "[I") ∈ bigW := inB 607 (by decide +kernel) rfl
theorem wd_608 : (Jvm.Cond.fieldLink "CranePlanModel" (36 : Nat) "CranePlanModel" "come" "[I") ∈ bigW := inB 608 (by decide +kernel) rfl
theorem wd_609 : (Jvm.Cond.fieldLink "CranePlanModel" (39 : Nat) "CranePlanModel" "first" "[I") ∈ bigW := inB 609 (by decide +kernel) rfl
theorem wd_610 : (Jvm.Cond.fieldLink "CranePlanModel" (42 : Nat) "CranePlanModel" "last" "[I") ∈ bigW := inB 610 (by decide +kernel) rfl
theorem wd_644 : (Jvm.Cond.methodLink "CranePlanLaw" (56 : Nat) ({ cls := "CranePlanModel", name := "thrown", desc := "()I" } : Jvm.MethodName)) ∈ bigW := inB 644 (by decide +kernel) rfl
theorem wd_645 : (Jvm.Cond.instanceMethod ({ cls := "CranePlanModel", name := "thrown", desc := "()I" } : Jvm.MethodName)) ∈ bigW := inB 645 (by decide +kernel) rfl
theorem wd_646 : (Jvm.Cond.selects "CranePlanModel" ({ cls := "CranePlanModel", name := "thrown", desc := "()I" } : Jvm.MethodName) ({ cls := "CranePlanModel", name := "thrown", desc := "()I" } : Jvm.MethodName)) ∈ bigW := inB 646 (by decide +kernel) rfl
theorem wd_647 : (Jvm.Cond.code ({ cls := "CranePlanModel", name := "thrown", desc := "()I" } : Jvm.MethodName) prog_7_method_2_code (1 : Nat) (Option.some Jvm.ClassFile.FieldType.int)) ∈ bigW := inB 647 (by decide +kernel) rfl
theorem wd_648 : (Jvm.Cond.methodLink "CranePlanLaw" (55 : Nat) ({ cls := "CranePlanModel", name := "bay", desc := "(II)I" } : Jvm.MethodName)) ∈ bigW := inB 648 (by decide +kernel) rfl
theorem wd_649 : (Jvm.Cond.instanceMethod ({ cls := "CranePlanModel", name := "bay", desc := "(II)I" } : Jvm.MethodName)) ∈ bigW := inB 649 (by decide +kernel) rfl
theorem wd_650 : (Jvm.Cond.selects "CranePlanModel" ({ cls := "CranePlanModel", name := "bay", desc := "(II)I" } : Jvm.MethodName) ({ cls := "CranePlanModel", name := "bay", desc := "(II)I" } : Jvm.MethodName)) ∈ bigW := inB 650 (by decide +kernel) rfl
theorem wd_651 : (Jvm.Cond.code ({ cls := "CranePlanModel", name := "bay", desc := "(II)I" } : Jvm.MethodName) prog_7_method_6_code (3 : Nat) (Option.some Jvm.ClassFile.FieldType.int)) ∈ bigW := inB 651 (by decide +kernel) rfl
theorem wd_652 : (Jvm.Cond.methodLink "CranePlanModel" (54 : Nat) ({ cls := "CranePlanModel", name := "in", desc := "(III)Z" } : Jvm.MethodName)) ∈ bigW := inB 652 (by decide +kernel) rfl
theorem wd_653 : (Jvm.Cond.static ({ cls := "CranePlanModel", name := "in", desc := "(III)Z" } : Jvm.MethodName)) ∈ bigW := inB 653 (by decide +kernel) rfl
theorem wd_654 : (Jvm.Cond.code ({ cls := "CranePlanModel", name := "in", desc := "(III)Z" } : Jvm.MethodName) prog_7_method_4_code (3 : Nat) (Option.some Jvm.ClassFile.FieldType.boolean)) ∈ bigW := inB 654 (by decide +kernel) rfl
theorem wd_655 : (Jvm.Cond.methodLink "CranePlanModel" (58 : Nat) ({ cls := "CranePlanModel", name := "refuse", desc := "(I)I" } : Jvm.MethodName)) ∈ bigW := inB 655 (by decide +kernel) rfl
theorem wd_657 : (Jvm.Cond.instanceMethod ({ cls := "CranePlanModel", name := "refuse", desc := "(I)I" } : Jvm.MethodName)) ∈ bigW := inB 657 (by decide +kernel) rfl
theorem wd_658 : (Jvm.Cond.code ({ cls := "CranePlanModel", name := "refuse", desc := "(I)I" } : Jvm.MethodName) prog_7_method_3_code (2 : Nat) (Option.some Jvm.ClassFile.FieldType.int)) ∈ bigW := inB 658 (by decide +kernel) rfl
theorem wd_659 : (Jvm.Cond.methodLink "CranePlanLaw" (63 : Nat) ({ cls := "CranePlanModel", name := "rate", desc := "(III)Z" } : Jvm.MethodName)) ∈ bigW := inB 659 (by decide +kernel) rfl
theorem wd_660 : (Jvm.Cond.instanceMethod ({ cls := "CranePlanModel", name := "rate", desc := "(III)Z" } : Jvm.MethodName)) ∈ bigW := inB 660 (by decide +kernel) rfl
theorem wd_661 : (Jvm.Cond.selects "CranePlanModel" ({ cls := "CranePlanModel", name := "rate", desc := "(III)Z" } : Jvm.MethodName) ({ cls := "CranePlanModel", name := "rate", desc := "(III)Z" } : Jvm.MethodName)) ∈ bigW := inB 661 (by decide +kernel) rfl
theorem wd_662 : (Jvm.Cond.code ({ cls := "CranePlanModel", name := "rate", desc := "(III)Z" } : Jvm.MethodName) prog_7_method_7_code (4 : Nat) (Option.some Jvm.ClassFile.FieldType.boolean)) ∈ bigW := inB 662 (by decide +kernel) rfl
theorem wd_663 : (Jvm.Cond.methodLink "CranePlanModel" (69 : Nat) ({ cls := "CranePlanModel", name := "isCrane", desc := "(I)Z" } : Jvm.MethodName)) ∈ bigW := inB 663 (by decide +kernel) rfl
theorem wd_665 : (Jvm.Cond.instanceMethod ({ cls := "CranePlanModel", name := "isCrane", desc := "(I)Z" } : Jvm.MethodName)) ∈ bigW := inB 665 (by decide +kernel) rfl
theorem wd_666 : (Jvm.Cond.code ({ cls := "CranePlanModel", name := "isCrane", desc := "(I)Z" } : Jvm.MethodName) prog_7_method_5_code (2 : Nat) (Option.some Jvm.ClassFile.FieldType.boolean)) ∈ bigW := inB 666 (by decide +kernel) rfl
theorem wd_667 : (Jvm.Cond.methodLink "CranePlanLaw" (68 : Nat) ({ cls := "CranePlanModel", name := "step", desc := "(I)Z" } : Jvm.MethodName)) ∈ bigW := inB 667 (by decide +kernel) rfl
theorem wd_668 : (Jvm.Cond.instanceMethod ({ cls := "CranePlanModel", name := "step", desc := "(I)Z" } : Jvm.MethodName)) ∈ bigW := inB 668 (by decide +kernel) rfl
theorem wd_669 : (Jvm.Cond.selects "CranePlanModel" ({ cls := "CranePlanModel", name := "step", desc := "(I)Z" } : Jvm.MethodName) ({ cls := "CranePlanModel", name := "step", desc := "(I)Z" } : Jvm.MethodName)) ∈ bigW := inB 669 (by decide +kernel) rfl
theorem wd_670 : (Jvm.Cond.code ({ cls := "CranePlanModel", name := "step", desc := "(I)Z" } : Jvm.MethodName) prog_7_method_8_code (2 : Nat) (Option.some Jvm.ClassFile.FieldType.boolean)) ∈ bigW := inB 670 (by decide +kernel) rfl
theorem wd_671 : (Jvm.Cond.methodLink "CranePlanLaw" (72 : Nat) ({ cls := "CranePlanModel", name := "plan", desc := "()I" } : Jvm.MethodName)) ∈ bigW := inB 671 (by decide +kernel) rfl
theorem wd_672 : (Jvm.Cond.instanceMethod ({ cls := "CranePlanModel", name := "plan", desc := "()I" } : Jvm.MethodName)) ∈ bigW := inB 672 (by decide +kernel) rfl
theorem wd_673 : (Jvm.Cond.selects "CranePlanModel" ({ cls := "CranePlanModel", name := "plan", desc := "()I" } : Jvm.MethodName) ({ cls := "CranePlanModel", name := "plan", desc := "()I" } : Jvm.MethodName)) ∈ bigW := inB 673 (by decide +kernel) rfl
theorem wd_674 : (Jvm.Cond.code ({ cls := "CranePlanModel", name := "plan", desc := "()I" } : Jvm.MethodName) prog_7_method_17_code (1 : Nat) (Option.some Jvm.ClassFile.FieldType.int)) ∈ bigW := inB 674 (by decide +kernel) rfl
theorem wd_675 : (Jvm.Cond.methodLink "CranePlanModel" (101 : Nat) ({ cls := "CranePlanModel", name := "search", desc := "()I" } : Jvm.MethodName)) ∈ bigW := inB 675 (by decide +kernel) rfl
theorem wd_677 : (Jvm.Cond.instanceMethod ({ cls := "CranePlanModel", name := "search", desc := "()I" } : Jvm.MethodName)) ∈ bigW := inB 677 (by decide +kernel) rfl
theorem wd_678 : (Jvm.Cond.code ({ cls := "CranePlanModel", name := "search", desc := "()I" } : Jvm.MethodName) prog_7_method_16_code (7 : Nat) (Option.some Jvm.ClassFile.FieldType.int)) ∈ bigW := inB 678 (by decide +kernel) rfl
theorem wd_679 : (Jvm.Cond.methodLink "CranePlanModel" (73 : Nat) ({ cls := "CranePlanModel", name := "all", desc := "(I)I" } : Jvm.MethodName)) ∈ bigW := inB 679 (by decide +kernel) rfl
theorem wd_681 : (Jvm.Cond.instanceMethod ({ cls := "CranePlanModel", name := "all", desc := "(I)I" } : Jvm.MethodName)) ∈ bigW := inB 681 (by decide +kernel) rfl
theorem wd_682 : (Jvm.Cond.code ({ cls := "CranePlanModel", name := "all", desc := "(I)I" } : Jvm.MethodName) prog_7_method_9_code (2 : Nat) (Option.some Jvm.ClassFile.FieldType.int)) ∈ bigW := inB 682 (by decide +kernel) rfl
theorem wd_683 : (Jvm.Cond.constant "CranePlanModel" (84 : Nat) (1000000000 : Int32)) ∈ bigW := inB 683 (by decide +kernel) rfl
theorem wd_684 : (Jvm.Cond.methodLink "CranePlanModel" (85 : Nat) ({ cls := "CranePlanModel", name := "isAllowed", desc := "()Z" } : Jvm.MethodName)) ∈ bigW := inB 684 (by decide +kernel) rfl
theorem wd_686 : (Jvm.Cond.instanceMethod ({ cls := "CranePlanModel", name := "isAllowed", desc := "()Z" } : Jvm.MethodName)) ∈ bigW := inB 686 (by decide +kernel) rfl
theorem wd_687 : (Jvm.Cond.code ({ cls := "CranePlanModel", name := "isAllowed", desc := "()Z" } : Jvm.MethodName) prog_7_method_15_code (3 : Nat) (Option.some Jvm.ClassFile.FieldType.boolean)) ∈ bigW := inB 687 (by decide +kernel) rfl
theorem wd_688 : (Jvm.Cond.methodLink "CranePlanModel" (80 : Nat) ({ cls := "CranePlanModel", name := "spans", desc := "()Z" } : Jvm.MethodName)) ∈ bigW := inB 688 (by decide +kernel) rfl
theorem wd_690 : (Jvm.Cond.instanceMethod ({ cls := "CranePlanModel", name := "spans", desc := "()Z" } : Jvm.MethodName)) ∈ bigW := inB 690 (by decide +kernel) rfl
theorem wd_691 : (Jvm.Cond.code ({ cls := "CranePlanModel", name := "spans", desc := "()Z" } : Jvm.MethodName) prog_7_method_11_code (5 : Nat) (Option.some Jvm.ClassFile.FieldType.boolean)) ∈ bigW := inB 691 (by decide +kernel) rfl
theorem wd_692 : (Jvm.Cond.methodLink "CranePlanModel" (88 : Nat) ({ cls := "CranePlanModel", name := "times", desc := "()I" } : Jvm.MethodName)) ∈ bigW := inB 692 (by decide +kernel) rfl
theorem wd_694 : (Jvm.Cond.instanceMethod ({ cls := "CranePlanModel", name := "times", desc := "()I" } : Jvm.MethodName)) ∈ bigW := inB 694 (by decide +kernel) rfl
theorem wd_695 : (Jvm.Cond.code ({ cls := "CranePlanModel", name := "times", desc := "()I" } : Jvm.MethodName) prog_7_method_12_code (7 : Nat) (Option.some Jvm.ClassFile.FieldType.int)) ∈ bigW := inB 695 (by decide +kernel) rfl
theorem wd_696 : (Jvm.Cond.methodLink "CranePlanModel" (76 : Nat) ({ cls := "CranePlanModel", name := "takes", desc := "(II)I" } : Jvm.MethodName)) ∈ bigW := inB 696 (by decide +kernel) rfl
theorem wd_698 : (Jvm.Cond.instanceMethod ({ cls := "CranePlanModel", name := "takes", desc := "(II)I" } : Jvm.MethodName)) ∈ bigW := inB 698 (by decide +kernel) rfl
theorem wd_699 : (Jvm.Cond.code ({ cls := "CranePlanModel", name := "takes", desc := "(II)I" } : Jvm.MethodName) prog_7_method_10_code (4 : Nat) (Option.some Jvm.ClassFile.FieldType.int)) ∈ bigW := inB 699 (by decide +kernel) rfl
theorem wd_700 : (Jvm.Cond.methodLink "CranePlanModel" (92 : Nat) ({ cls := "CranePlanModel", name := "steps", desc := "()I" } : Jvm.MethodName)) ∈ bigW := inB 700 (by decide +kernel) rfl
theorem wd_702 : (Jvm.Cond.instanceMethod ({ cls := "CranePlanModel", name := "steps", desc := "()I" } : Jvm.MethodName)) ∈ bigW := inB 702 (by decide +kernel) rfl
theorem wd_703 : (Jvm.Cond.code ({ cls := "CranePlanModel", name := "steps", desc := "()I" } : Jvm.MethodName) prog_7_method_13_code (3 : Nat) (Option.some Jvm.ClassFile.FieldType.int)) ∈ bigW := inB 703 (by decide +kernel) rfl
theorem wd_704 : (Jvm.Cond.methodLink "CranePlanModel" (95 : Nat) ({ cls := "CranePlanModel", name := "goesOn", desc := "()Z" } : Jvm.MethodName)) ∈ bigW := inB 704 (by decide +kernel) rfl
theorem wd_706 : (Jvm.Cond.instanceMethod ({ cls := "CranePlanModel", name := "goesOn", desc := "()Z" } : Jvm.MethodName)) ∈ bigW := inB 706 (by decide +kernel) rfl
theorem wd_707 : (Jvm.Cond.code ({ cls := "CranePlanModel", name := "goesOn", desc := "()Z" } : Jvm.MethodName) prog_7_method_14_code (3 : Nat) (Option.some Jvm.ClassFile.FieldType.boolean)) ∈ bigW := inB 707 (by decide +kernel) rfl
theorem wd_708 : (Jvm.Cond.methodLink "CranePlanModel" (98 : Nat) ({ cls := "CranePlanModel", name := "working", desc := "()I" } : Jvm.MethodName)) ∈ bigW := inB 708 (by decide +kernel) rfl
theorem wd_710 : (Jvm.Cond.instanceMethod ({ cls := "CranePlanModel", name := "working", desc := "()I" } : Jvm.MethodName)) ∈ bigW := inB 710 (by decide +kernel) rfl
theorem wd_711 : (Jvm.Cond.code ({ cls := "CranePlanModel", name := "working", desc := "()I" } : Jvm.MethodName) prog_7_method_22_code (3 : Nat) (Option.some Jvm.ClassFile.FieldType.int)) ∈ bigW := inB 711 (by decide +kernel) rfl
theorem wd_712 : (Jvm.Cond.methodLink "CranePlanLaw" (75 : Nat) ({ cls := "CranePlanModel", name := "works", desc := "(II)I" } : Jvm.MethodName)) ∈ bigW := inB 712 (by decide +kernel) rfl
theorem wd_713 : (Jvm.Cond.instanceMethod ({ cls := "CranePlanModel", name := "works", desc := "(II)I" } : Jvm.MethodName)) ∈ bigW := inB 713 (by decide +kernel) rfl
theorem wd_714 : (Jvm.Cond.selects "CranePlanModel" ({ cls := "CranePlanModel", name := "works", desc := "(II)I" } : Jvm.MethodName) ({ cls := "CranePlanModel", name := "works", desc := "(II)I" } : Jvm.MethodName)) ∈ bigW := inB 714 (by decide +kernel) rfl
theorem wd_715 : (Jvm.Cond.code ({ cls := "CranePlanModel", name := "works", desc := "(II)I" } : Jvm.MethodName) prog_7_method_19_code (5 : Nat) (Option.some Jvm.ClassFile.FieldType.int)) ∈ bigW := inB 715 (by decide +kernel) rfl
theorem wd_716 : (Jvm.Cond.methodLink "CranePlanModel" (104 : Nat) ({ cls := "CranePlanModel", name := "lays", desc := "()I" } : Jvm.MethodName)) ∈ bigW := inB 716 (by decide +kernel) rfl
theorem wd_718 : (Jvm.Cond.instanceMethod ({ cls := "CranePlanModel", name := "lays", desc := "()I" } : Jvm.MethodName)) ∈ bigW := inB 718 (by decide +kernel) rfl
theorem wd_719 : (Jvm.Cond.code ({ cls := "CranePlanModel", name := "lays", desc := "()I" } : Jvm.MethodName) prog_7_method_18_code (2 : Nat) (Option.some Jvm.ClassFile.FieldType.int)) ∈ bigW := inB 719 (by decide +kernel) rfl
theorem wd_720 : (Jvm.Cond.methodLink "CranePlanLaw" (78 : Nat) ({ cls := "CranePlanModel", name := "where", desc := "(II)I" } : Jvm.MethodName)) ∈ bigW := inB 720 (by decide +kernel) rfl
theorem wd_721 : (Jvm.Cond.instanceMethod ({ cls := "CranePlanModel", name := "where", desc := "(II)I" } : Jvm.MethodName)) ∈ bigW := inB 721 (by decide +kernel) rfl
theorem wd_722 : (Jvm.Cond.selects "CranePlanModel" ({ cls := "CranePlanModel", name := "where", desc := "(II)I" } : Jvm.MethodName) ({ cls := "CranePlanModel", name := "where", desc := "(II)I" } : Jvm.MethodName)) ∈ bigW := inB 722 (by decide +kernel) rfl
theorem wd_723 : (Jvm.Cond.code ({ cls := "CranePlanModel", name := "where", desc := "(II)I" } : Jvm.MethodName) prog_7_method_20_code (6 : Nat) (Option.some Jvm.ClassFile.FieldType.int)) ∈ bigW := inB 723 (by decide +kernel) rfl
theorem wd_724 : (Jvm.Cond.methodLink "CranePlanLaw" (81 : Nat) ({ cls := "CranePlanModel", name := "fails", desc := "(II)I" } : Jvm.MethodName)) ∈ bigW := inB 724 (by decide +kernel) rfl
theorem wd_725 : (Jvm.Cond.instanceMethod ({ cls := "CranePlanModel", name := "fails", desc := "(II)I" } : Jvm.MethodName)) ∈ bigW := inB 725 (by decide +kernel) rfl
theorem wd_726 : (Jvm.Cond.selects "CranePlanModel" ({ cls := "CranePlanModel", name := "fails", desc := "(II)I" } : Jvm.MethodName) ({ cls := "CranePlanModel", name := "fails", desc := "(II)I" } : Jvm.MethodName)) ∈ bigW := inB 726 (by decide +kernel) rfl
theorem wd_727 : (Jvm.Cond.code ({ cls := "CranePlanModel", name := "fails", desc := "(II)I" } : Jvm.MethodName) prog_7_method_21_code (11 : Nat) (Option.some Jvm.ClassFile.FieldType.int)) ∈ bigW := inB 727 (by decide +kernel) rfl
theorem wd_728 : (Jvm.Cond.methodLink "CranePlanLaw" (85 : Nat) ({ cls := "CranePlanModel", name := "bound", desc := "()I" } : Jvm.MethodName)) ∈ bigW := inB 728 (by decide +kernel) rfl
theorem wd_729 : (Jvm.Cond.instanceMethod ({ cls := "CranePlanModel", name := "bound", desc := "()I" } : Jvm.MethodName)) ∈ bigW := inB 729 (by decide +kernel) rfl
theorem wd_730 : (Jvm.Cond.selects "CranePlanModel" ({ cls := "CranePlanModel", name := "bound", desc := "()I" } : Jvm.MethodName) ({ cls := "CranePlanModel", name := "bound", desc := "()I" } : Jvm.MethodName)) ∈ bigW := inB 730 (by decide +kernel) rfl
theorem wd_731 : (Jvm.Cond.code ({ cls := "CranePlanModel", name := "bound", desc := "()I" } : Jvm.MethodName) prog_7_method_23_code (9 : Nat) (Option.some Jvm.ClassFile.FieldType.int)) ∈ bigW := inB 731 (by decide +kernel) rfl
theorem wd_732 : (Jvm.Cond.methodLink "CranePlanLaw" (88 : Nat) ({ cls := "CranePlanModel", name := "row", desc := "(II)I" } : Jvm.MethodName)) ∈ bigW := inB 732 (by decide +kernel) rfl
theorem wd_733 : (Jvm.Cond.instanceMethod ({ cls := "CranePlanModel", name := "row", desc := "(II)I" } : Jvm.MethodName)) ∈ bigW := inB 733 (by decide +kernel) rfl
theorem wd_734 : (Jvm.Cond.selects "CranePlanModel" ({ cls := "CranePlanModel", name := "row", desc := "(II)I" } : Jvm.MethodName) ({ cls := "CranePlanModel", name := "row", desc := "(II)I" } : Jvm.MethodName)) ∈ bigW := inB 734 (by decide +kernel) rfl
theorem wd_735 : (Jvm.Cond.code ({ cls := "CranePlanModel", name := "row", desc := "(II)I" } : Jvm.MethodName) prog_7_method_24_code (8 : Nat) (Option.some Jvm.ClassFile.FieldType.int)) ∈ bigW := inB 735 (by decide +kernel) rfl
theorem wd_736 : (Jvm.Cond.methodLink "CranePlanModel" (107 : Nat) ({ cls := "CranePlanModel", name := "ahead", desc := "(I)I" } : Jvm.MethodName)) ∈ bigW := inB 736 (by decide +kernel) rfl
theorem wd_738 : (Jvm.Cond.instanceMethod ({ cls := "CranePlanModel", name := "ahead", desc := "(I)I" } : Jvm.MethodName)) ∈ bigW := inB 738 (by decide +kernel) rfl
theorem wd_739 : (Jvm.Cond.code ({ cls := "CranePlanModel", name := "ahead", desc := "(I)I" } : Jvm.MethodName) prog_7_method_25_code (6 : Nat) (Option.some Jvm.ClassFile.FieldType.int)) ∈ bigW := inB 739 (by decide +kernel) rfl
theorem wd_740 : (Jvm.Cond.methodLink "CranePlanLaw" (91 : Nat) ({ cls := "CranePlanModel", name := "look", desc := "(II)I" } : Jvm.MethodName)) ∈ bigW := inB 740 (by decide +kernel) rfl
theorem wd_741 : (Jvm.Cond.instanceMethod ({ cls := "CranePlanModel", name := "look", desc := "(II)I" } : Jvm.MethodName)) ∈ bigW := inB 741 (by decide +kernel) rfl
theorem wd_742 : (Jvm.Cond.selects "CranePlanModel" ({ cls := "CranePlanModel", name := "look", desc := "(II)I" } : Jvm.MethodName) ({ cls := "CranePlanModel", name := "look", desc := "(II)I" } : Jvm.MethodName)) ∈ bigW := inB 742 (by decide +kernel) rfl
theorem wd_743 : (Jvm.Cond.code ({ cls := "CranePlanModel", name := "look", desc := "(II)I" } : Jvm.MethodName) prog_7_method_26_code (3 : Nat) (Option.some Jvm.ClassFile.FieldType.int)) ∈ bigW := inB 743 (by decide +kernel) rfl
theorem wd_744 : (Jvm.Cond.methodLink "CranePlanLaw" (96 : Nat) ({ cls := "CranePlanModel", name := "count", desc := "(I)I" } : Jvm.MethodName)) ∈ bigW := inB 744 (by decide +kernel) rfl
theorem wd_745 : (Jvm.Cond.instanceMethod ({ cls := "CranePlanModel", name := "count", desc := "(I)I" } : Jvm.MethodName)) ∈ bigW := inB 745 (by decide +kernel) rfl
theorem wd_746 : (Jvm.Cond.selects "CranePlanModel" ({ cls := "CranePlanModel", name := "count", desc := "(I)I" } : Jvm.MethodName) ({ cls := "CranePlanModel", name := "count", desc := "(I)I" } : Jvm.MethodName)) ∈ bigW := inB 746 (by decide +kernel) rfl
theorem wd_747 : (Jvm.Cond.code ({ cls := "CranePlanModel", name := "count", desc := "(I)I" } : Jvm.MethodName) prog_7_method_27_code (5 : Nat) (Option.some Jvm.ClassFile.FieldType.int)) ∈ bigW := inB 747 (by decide +kernel) rfl
theorem wd_748 : (Jvm.Cond.arrayClass Jvm.ClassFile.FieldType.long) ∈ bigW := inB 748 (by decide +kernel) rfl
theorem wd_0 : (Jvm.Cond.selects "CranePlan$Search" ({ cls := "CranePlan$Search", name := "makeBest", desc := "()Z" } : Jvm.MethodName) ({ cls := "CranePlan$Search", name := "makeBest", desc := "()Z" } : Jvm.MethodName)) ∈ bigW := inB 0 (by decide +kernel) rfl
theorem wd_1 : (Jvm.Cond.selects "CranePlan$Search" ({ cls := "CranePlan$Search", name := "gather", desc := "()V" } : Jvm.MethodName) ({ cls := "CranePlan$Search", name := "gather", desc := "()V" } : Jvm.MethodName)) ∈ bigW := inB 1 (by decide +kernel) rfl
theorem wd_2 : (Jvm.Cond.selects "CranePlan$Bays" ({ cls := "CranePlan$Bays", name := "movesOf", desc := "(I)I" } : Jvm.MethodName) ({ cls := "CranePlan$Bays", name := "movesOf", desc := "(I)I" } : Jvm.MethodName)) ∈ bigW := inB 2 (by decide +kernel) rfl
theorem wd_3 : (Jvm.Cond.selects "CranePlan$Bays" ({ cls := "CranePlan$Bays", name := "has", desc := "(I)Z" } : Jvm.MethodName) ({ cls := "CranePlan$Bays", name := "has", desc := "(I)Z" } : Jvm.MethodName)) ∈ bigW := inB 3 (by decide +kernel) rfl
theorem wd_4 : (Jvm.Cond.selects "CranePlan$Cranes" ({ cls := "CranePlan$Cranes", name := "isOut", desc := "(I)Z" } : Jvm.MethodName) ({ cls := "CranePlan$Cranes", name := "isOut", desc := "(I)Z" } : Jvm.MethodName)) ∈ bigW := inB 4 (by decide +kernel) rfl
theorem wd_5 : (Jvm.Cond.selects "CranePlan$Cranes" ({ cls := "CranePlan$Cranes", name := "has", desc := "(I)Z" } : Jvm.MethodName) ({ cls := "CranePlan$Cranes", name := "has", desc := "(I)Z" } : Jvm.MethodName)) ∈ bigW := inB 5 (by decide +kernel) rfl
theorem wd_6 : (Jvm.Cond.selects "CranePlan$Search" ({ cls := "CranePlan$Search", name := "share", desc := "([I)V" } : Jvm.MethodName) ({ cls := "CranePlan$Search", name := "share", desc := "([I)V" } : Jvm.MethodName)) ∈ bigW := inB 6 (by decide +kernel) rfl
theorem wd_7 : (Jvm.Cond.selects "CranePlan$Timetable" ({ cls := "CranePlan$Timetable", name := "clear", desc := "()V" } : Jvm.MethodName) ({ cls := "CranePlan$Timetable", name := "clear", desc := "()V" } : Jvm.MethodName)) ∈ bigW := inB 7 (by decide +kernel) rfl
theorem wd_8 : (Jvm.Cond.selects "CranePlan$Timetable" ({ cls := "CranePlan$Timetable", name := "give", desc := "(II)V" } : Jvm.MethodName) ({ cls := "CranePlan$Timetable", name := "give", desc := "(II)V" } : Jvm.MethodName)) ∈ bigW := inB 8 (by decide +kernel) rfl
theorem wd_9 : (Jvm.Cond.selects "CranePlan$Timetable" ({ cls := "CranePlan$Timetable", name := "keepsApart", desc := "()Z" } : Jvm.MethodName) ({ cls := "CranePlan$Timetable", name := "keepsApart", desc := "()Z" } : Jvm.MethodName)) ∈ bigW := inB 9 (by decide +kernel) rfl
theorem wd_10 : (Jvm.Cond.selects "CranePlan$Timetable" ({ cls := "CranePlan$Timetable", name := "tooNear", desc := "(II)Z" } : Jvm.MethodName) ({ cls := "CranePlan$Timetable", name := "tooNear", desc := "(II)Z" } : Jvm.MethodName)) ∈ bigW := inB 10 (by decide +kernel) rfl
theorem wd_11 : (Jvm.Cond.selects "CranePlan$Timetable" ({ cls := "CranePlan$Timetable", name := "setTimes", desc := "()V" } : Jvm.MethodName) ({ cls := "CranePlan$Timetable", name := "setTimes", desc := "()V" } : Jvm.MethodName)) ∈ bigW := inB 11 (by decide +kernel) rfl
theorem wd_12 : (Jvm.Cond.selects "CranePlan$Timetable" ({ cls := "CranePlan$Timetable", name := "setTimesOf", desc := "(II)V" } : Jvm.MethodName) ({ cls := "CranePlan$Timetable", name := "setTimesOf", desc := "(II)V" } : Jvm.MethodName)) ∈ bigW := inB 12 (by decide +kernel) rfl
theorem wd_13 : (Jvm.Cond.selects "CranePlan$Cranes" ({ cls := "CranePlan$Cranes", name := "timeFor", desc := "(II)I" } : Jvm.MethodName) ({ cls := "CranePlan$Cranes", name := "timeFor", desc := "(II)I" } : Jvm.MethodName)) ∈ bigW := inB 13 (by decide +kernel) rfl
theorem wd_14 : (Jvm.Cond.selects "CranePlan$Timetable" ({ cls := "CranePlan$Timetable", name := "whenCame", desc := "(II)I" } : Jvm.MethodName) ({ cls := "CranePlan$Timetable", name := "whenCame", desc := "(II)I" } : Jvm.MethodName)) ∈ bigW := inB 14 (by decide +kernel) rfl
theorem wd_15 : (Jvm.Cond.selects "CranePlan$Timetable" ({ cls := "CranePlan$Timetable", name := "isBetterThan", desc := "(II)Z" } : Jvm.MethodName) ({ cls := "CranePlan$Timetable", name := "isBetterThan", desc := "(II)Z" } : Jvm.MethodName)) ∈ bigW := inB 15 (by decide +kernel) rfl
theorem wd_16 : (Jvm.Cond.selects "CranePlan$Search" ({ cls := "CranePlan$Search", name := "nextChoice", desc := "()Z" } : Jvm.MethodName) ({ cls := "CranePlan$Search", name := "nextChoice", desc := "()Z" } : Jvm.MethodName)) ∈ bigW := inB 16 (by decide +kernel) rfl
theorem wd_17 : (Jvm.Cond.selects "CranePlan$Timetable" ({ cls := "CranePlan$Timetable", name := "sortRows", desc := "()V" } : Jvm.MethodName) ({ cls := "CranePlan$Timetable", name := "sortRows", desc := "()V" } : Jvm.MethodName)) ∈ bigW := inB 17 (by decide +kernel) rfl
theorem wd_18 : (Jvm.Cond.selects "CranePlan$Timetable" ({ cls := "CranePlan$Timetable", name := "beginsAhead", desc := "(II)Z" } : Jvm.MethodName) ({ cls := "CranePlan$Timetable", name := "beginsAhead", desc := "(II)Z" } : Jvm.MethodName)) ∈ bigW := inB 18 (by decide +kernel) rfl
theorem wd_19 : (Jvm.Cond.selects "CranePlan$Cranes" ({ cls := "CranePlan$Cranes", name := "able", desc := "()I" } : Jvm.MethodName) ({ cls := "CranePlan$Cranes", name := "able", desc := "()I" } : Jvm.MethodName)) ∈ bigW := inB 19 (by decide +kernel) rfl
theorem wd_20 : (Jvm.Cond.selects "CranePlan$Bays" ({ cls := "CranePlan$Bays", name := "allMoves", desc := "()I" } : Jvm.MethodName) ({ cls := "CranePlan$Bays", name := "allMoves", desc := "()I" } : Jvm.MethodName)) ∈ bigW := inB 20 (by decide +kernel) rfl
theorem wd_21 : (Jvm.Cond.selects "CranePlan$Cranes" ({ cls := "CranePlan$Cranes", name := "timeTogether", desc := "(I)I" } : Jvm.MethodName) ({ cls := "CranePlan$Cranes", name := "timeTogether", desc := "(I)I" } : Jvm.MethodName)) ∈ bigW := inB 21 (by decide +kernel) rfl
theorem wd_22 : (Jvm.Cond.selects "CranePlan$Cranes" ({ cls := "CranePlan$Cranes", name := "leastTime", desc := "(I)I" } : Jvm.MethodName) ({ cls := "CranePlan$Cranes", name := "leastTime", desc := "(I)I" } : Jvm.MethodName)) ∈ bigW := inB 22 (by decide +kernel) rfl
theorem wd_24 : (Jvm.Cond.selects "CranePlan$Bays" ({ cls := "CranePlan$Bays", name := "isFull", desc := "()Z" } : Jvm.MethodName) ({ cls := "CranePlan$Bays", name := "isFull", desc := "()Z" } : Jvm.MethodName)) ∈ bigW := inB 24 (by decide +kernel) rfl
theorem wd_25 : (Jvm.Cond.selects "CranePlan$Bays" ({ cls := "CranePlan$Bays", name := "add", desc := "(II)I" } : Jvm.MethodName) ({ cls := "CranePlan$Bays", name := "add", desc := "(II)I" } : Jvm.MethodName)) ∈ bigW := inB 25 (by decide +kernel) rfl
theorem wd_26 : (Jvm.Cond.selects "CranePlan$Cranes" ({ cls := "CranePlan$Cranes", name := "setRate", desc := "(III)V" } : Jvm.MethodName) ({ cls := "CranePlan$Cranes", name := "setRate", desc := "(III)V" } : Jvm.MethodName)) ∈ bigW := inB 26 (by decide +kernel) rfl
theorem wd_27 : (Jvm.Cond.selects "CranePlan$Timetable" ({ cls := "CranePlan$Timetable", name := "bayWorkedAt", desc := "(II)I" } : Jvm.MethodName) ({ cls := "CranePlan$Timetable", name := "bayWorkedAt", desc := "(II)I" } : Jvm.MethodName)) ∈ bigW := inB 27 (by decide +kernel) rfl
theorem wd_28 : (Jvm.Cond.selects "CranePlan$Timetable" ({ cls := "CranePlan$Timetable", name := "bayCameTo", desc := "(II)I" } : Jvm.MethodName) ({ cls := "CranePlan$Timetable", name := "bayCameTo", desc := "(II)I" } : Jvm.MethodName)) ∈ bigW := inB 28 (by decide +kernel) rfl
theorem wd_29 : (Jvm.Cond.selects "CranePlan$Timetable" ({ cls := "CranePlan$Timetable", name := "doneBy", desc := "(II)I" } : Jvm.MethodName) ({ cls := "CranePlan$Timetable", name := "doneBy", desc := "(II)I" } : Jvm.MethodName)) ∈ bigW := inB 29 (by decide +kernel) rfl
theorem wd_30 : (Jvm.Cond.selects "CranePlan$Cranes" ({ cls := "CranePlan$Cranes", name := "movesIn", desc := "(II)I" } : Jvm.MethodName) ({ cls := "CranePlan$Cranes", name := "movesIn", desc := "(II)I" } : Jvm.MethodName)) ∈ bigW := inB 30 (by decide +kernel) rfl
theorem wd_31 : (Jvm.Cond.selects "CranePlan$Bays" ({ cls := "CranePlan$Bays", name := "takeOff", desc := "(II)V" } : Jvm.MethodName) ({ cls := "CranePlan$Bays", name := "takeOff", desc := "(II)V" } : Jvm.MethodName)) ∈ bigW := inB 31 (by decide +kernel) rfl
theorem wd_32 : (Jvm.Cond.selects "CranePlan$Cranes" ({ cls := "CranePlan$Cranes", name := "putOut", desc := "(I)V" } : Jvm.MethodName) ({ cls := "CranePlan$Cranes", name := "putOut", desc := "(I)V" } : Jvm.MethodName)) ∈ bigW := inB 32 (by decide +kernel) rfl
theorem wd_33 : (Jvm.Cond.selects "CranePlan$Timetable" ({ cls := "CranePlan$Timetable", name := "ofRow", desc := "(II)I" } : Jvm.MethodName) ({ cls := "CranePlan$Timetable", name := "ofRow", desc := "(II)I" } : Jvm.MethodName)) ∈ bigW := inB 33 (by decide +kernel) rfl
theorem wd_34 : (Jvm.Cond.selects "CranePlanModel" ({ cls := "CranePlanModel", name := "refuse", desc := "(I)I" } : Jvm.MethodName) ({ cls := "CranePlanModel", name := "refuse", desc := "(I)I" } : Jvm.MethodName)) ∈ bigW := inB 34 (by decide +kernel) rfl
theorem wd_35 : (Jvm.Cond.selects "CranePlanModel" ({ cls := "CranePlanModel", name := "isCrane", desc := "(I)Z" } : Jvm.MethodName) ({ cls := "CranePlanModel", name := "isCrane", desc := "(I)Z" } : Jvm.MethodName)) ∈ bigW := inB 35 (by decide +kernel) rfl
theorem wd_36 : (Jvm.Cond.selects "CranePlanModel" ({ cls := "CranePlanModel", name := "search", desc := "()I" } : Jvm.MethodName) ({ cls := "CranePlanModel", name := "search", desc := "()I" } : Jvm.MethodName)) ∈ bigW := inB 36 (by decide +kernel) rfl
theorem wd_37 : (Jvm.Cond.selects "CranePlanModel" ({ cls := "CranePlanModel", name := "all", desc := "(I)I" } : Jvm.MethodName) ({ cls := "CranePlanModel", name := "all", desc := "(I)I" } : Jvm.MethodName)) ∈ bigW := inB 37 (by decide +kernel) rfl
theorem wd_38 : (Jvm.Cond.selects "CranePlanModel" ({ cls := "CranePlanModel", name := "isAllowed", desc := "()Z" } : Jvm.MethodName) ({ cls := "CranePlanModel", name := "isAllowed", desc := "()Z" } : Jvm.MethodName)) ∈ bigW := inB 38 (by decide +kernel) rfl
theorem wd_39 : (Jvm.Cond.selects "CranePlanModel" ({ cls := "CranePlanModel", name := "spans", desc := "()Z" } : Jvm.MethodName) ({ cls := "CranePlanModel", name := "spans", desc := "()Z" } : Jvm.MethodName)) ∈ bigW := inB 39 (by decide +kernel) rfl
theorem wd_40 : (Jvm.Cond.selects "CranePlanModel" ({ cls := "CranePlanModel", name := "times", desc := "()I" } : Jvm.MethodName) ({ cls := "CranePlanModel", name := "times", desc := "()I" } : Jvm.MethodName)) ∈ bigW := inB 40 (by decide +kernel) rfl
theorem wd_41 : (Jvm.Cond.selects "CranePlanModel" ({ cls := "CranePlanModel", name := "takes", desc := "(II)I" } : Jvm.MethodName) ({ cls := "CranePlanModel", name := "takes", desc := "(II)I" } : Jvm.MethodName)) ∈ bigW := inB 41 (by decide +kernel) rfl
theorem wd_42 : (Jvm.Cond.selects "CranePlanModel" ({ cls := "CranePlanModel", name := "steps", desc := "()I" } : Jvm.MethodName) ({ cls := "CranePlanModel", name := "steps", desc := "()I" } : Jvm.MethodName)) ∈ bigW := inB 42 (by decide +kernel) rfl
theorem wd_43 : (Jvm.Cond.selects "CranePlanModel" ({ cls := "CranePlanModel", name := "goesOn", desc := "()Z" } : Jvm.MethodName) ({ cls := "CranePlanModel", name := "goesOn", desc := "()Z" } : Jvm.MethodName)) ∈ bigW := inB 43 (by decide +kernel) rfl
theorem wd_44 : (Jvm.Cond.selects "CranePlanModel" ({ cls := "CranePlanModel", name := "working", desc := "()I" } : Jvm.MethodName) ({ cls := "CranePlanModel", name := "working", desc := "()I" } : Jvm.MethodName)) ∈ bigW := inB 44 (by decide +kernel) rfl
theorem wd_45 : (Jvm.Cond.selects "CranePlanModel" ({ cls := "CranePlanModel", name := "lays", desc := "()I" } : Jvm.MethodName) ({ cls := "CranePlanModel", name := "lays", desc := "()I" } : Jvm.MethodName)) ∈ bigW := inB 45 (by decide +kernel) rfl
theorem wd_46 : (Jvm.Cond.selects "CranePlanModel" ({ cls := "CranePlanModel", name := "ahead", desc := "(I)I" } : Jvm.MethodName) ({ cls := "CranePlanModel", name := "ahead", desc := "(I)I" } : Jvm.MethodName)) ∈ bigW := inB 46 (by decide +kernel) rfl
end
section
theorem dP_init_0 : decode bP_init 0 = .ok (.aload_n 0, 1) := by decide +kernel
theorem dP_init_1 : decode bP_init 1 = .ok (.invokespecial 1, 3) := by decide +kernel
theorem dP_init_4 : decode bP_init 4 = .ok (.aload_n 0, 1) := by decide +kernel
theorem dP_init_5 : decode bP_init 5 = .ok (.new 7, 3) := by decide +kernel
theorem dP_init_8 : decode bP_init 8 = .ok (.dup, 1) := by decide +kernel
theorem dP_init_9 : decode bP_init 9 = .ok (.invokespecial 9, 3) := by decide +kernel
theorem dP_init_12 : decode bP_init 12 = .ok (.putfield 10, 3) := by decide +kernel
theorem dP_init_15 : decode bP_init 15 = .ok (.aload_n 0, 1) := by decide +kernel
theorem dP_init_16 : decode bP_init 16 = .ok (.new 16, 3) := by decide +kernel
theorem dP_init_19 : decode bP_init 19 = .ok (.dup, 1) := by decide +kernel
theorem dP_init_20 : decode bP_init 20 = .ok (.iload_n 1, 1) := by decide +kernel
theorem dP_init_21 : decode bP_init 21 = .ok (.iconst 1, 1) := by decide +kernel
theorem dP_init_22 : decode bP_init 22 = .ok (.iconst 4, 1) := by decide +kernel
theorem dP_init_23 : decode bP_init 23 = .ok (.invokestatic 18, 3) := by decide +kernel
theorem dP_init_26 : decode bP_init 26 = .ok (.iload_n 2, 1) := by decide +kernel
theorem dP_init_27 : decode bP_init 27 = .ok (.iconst 0, 1) := by decide +kernel
theorem dP_init_28 : decode bP_init 28 = .ok (.iconst 3, 1) := by decide +kernel
theorem dP_init_29 : decode bP_init 29 = .ok (.invokestatic 18, 3) := by decide +kernel
theorem dP_init_32 : decode bP_init 32 = .ok (.invokespecial 22, 3) := by decide +kernel
theorem dP_init_35 : decode bP_init 35 = .ok (.putfield 25, 3) := by decide +kernel
theorem dP_init_38 : decode bP_init 38 = .ok (.aload_n 0, 1) := by decide +kernel
theorem dP_init_39 : decode bP_init 39 = .ok (.new 29, 3) := by decide +kernel
theorem dP_init_42 : decode bP_init 42 = .ok (.dup, 1) := by decide +kernel
theorem dP_init_43 : decode bP_init 43 = .ok (.aload_n 0, 1) := by decide +kernel
theorem dP_init_44 : decode bP_init 44 = .ok (.getfield 10, 3) := by decide +kernel
theorem dP_init_47 : decode bP_init 47 = .ok (.aload_n 0, 1) := by decide +kernel
theorem dP_init_48 : decode bP_init 48 = .ok (.getfield 25, 3) := by decide +kernel
theorem dP_init_51 : decode bP_init 51 = .ok (.invokespecial 31, 3) := by decide +kernel
theorem dP_init_54 : decode bP_init 54 = .ok (.putfield 34, 3) := by decide +kernel
theorem dP_init_57 : decode bP_init 57 = .ok (.aload_n 0, 1) := by decide +kernel
theorem dP_init_58 : decode bP_init 58 = .ok (.new 38, 3) := by decide +kernel
theorem dP_init_61 : decode bP_init 61 = .ok (.dup, 1) := by decide +kernel
theorem dP_init_62 : decode bP_init 62 = .ok (.aload_n 0, 1) := by decide +kernel
theorem dP_init_63 : decode bP_init 63 = .ok (.getfield 10, 3) := by decide +kernel
theorem dP_init_66 : decode bP_init 66 = .ok (.aload_n 0, 1) := by decide +kernel
theorem dP_init_67 : decode bP_init 67 = .ok (.getfield 25, 3) := by decide +kernel
theorem dP_init_70 : decode bP_init 70 = .ok (.aload_n 0, 1) := by decide +kernel
theorem dP_init_71 : decode bP_init 71 = .ok (.getfield 34, 3) := by decide +kernel
theorem dP_init_74 : decode bP_init 74 = .ok (.invokespecial 40, 3) := by decide +kernel
theorem dP_init_77 : decode bP_init 77 = .ok (.putfield 43, 3) := by decide +kernel
theorem dP_init_80 : decode bP_init 80 = .ok (.aload_n 0, 1) := by decide +kernel
theorem dP_init_81 : decode bP_init 81 = .ok (.iconst 0, 1) := by decide +kernel
theorem dP_init_82 : decode bP_init 82 = .ok (.putfield 47, 3) := by decide +kernel
theorem dP_init_85 : decode bP_init 85 = .ok (.return_, 1) := by decide +kernel
theorem dP_bay_0 : decode bP_bay 0 = .ok (.iload_n 1, 1) := by decide +kernel
theorem dP_bay_1 : decode bP_bay 1 = .ok (.iconst 0, 1) := by decide +kernel
theorem dP_bay_2 : decode bP_bay 2 = .ok (.bipush 50, 2) := by decide +kernel
theorem dP_bay_4 : decode bP_bay 4 = .ok (.invokestatic 51, 3) := by decide +kernel
theorem dP_bay_7 : decode bP_bay 7 = .ok (.ifCond .eq 14, 3) := by decide +kernel
theorem dP_bay_10 : decode bP_bay 10 = .ok (.iload_n 2, 1) := by decide +kernel
theorem dP_bay_11 : decode bP_bay 11 = .ok (.iconst 0, 1) := by decide +kernel
theorem dP_bay_12 : decode bP_bay 12 = .ok (.sipush 200, 3) := by decide +kernel
theorem dP_bay_15 : decode bP_bay 15 = .ok (.invokestatic 51, 3) := by decide +kernel
theorem dP_bay_18 : decode bP_bay 18 = .ok (.ifCond .ne 13, 3) := by decide +kernel
theorem dP_bay_21 : decode bP_bay 21 = .ok (.new 55, 3) := by decide +kernel
theorem dP_bay_24 : decode bP_bay 24 = .ok (.dup, 1) := by decide +kernel
theorem dP_bay_25 : decode bP_bay 25 = .ok (.ldc 57, 2) := by decide +kernel
theorem dP_bay_27 : decode bP_bay 27 = .ok (.invokespecial 59, 3) := by decide +kernel
theorem dP_bay_30 : decode bP_bay 30 = .ok (.athrow, 1) := by decide +kernel
theorem dP_bay_31 : decode bP_bay 31 = .ok (.aload_n 0, 1) := by decide +kernel
theorem dP_bay_32 : decode bP_bay 32 = .ok (.getfield 10, 3) := by decide +kernel
theorem dP_bay_35 : decode bP_bay 35 = .ok (.invokevirtual 62, 3) := by decide +kernel
theorem dP_bay_38 : decode bP_bay 38 = .ok (.ifCond .eq 13, 3) := by decide +kernel
theorem dP_bay_41 : decode bP_bay 41 = .ok (.new 66, 3) := by decide +kernel
theorem dP_bay_44 : decode bP_bay 44 = .ok (.dup, 1) := by decide +kernel
theorem dP_bay_45 : decode bP_bay 45 = .ok (.ldc 68, 2) := by decide +kernel
theorem dP_bay_47 : decode bP_bay 47 = .ok (.invokespecial 70, 3) := by decide +kernel
theorem dP_bay_50 : decode bP_bay 50 = .ok (.athrow, 1) := by decide +kernel
theorem dP_bay_51 : decode bP_bay 51 = .ok (.aload_n 0, 1) := by decide +kernel
theorem dP_bay_52 : decode bP_bay 52 = .ok (.iconst 0, 1) := by decide +kernel
theorem dP_bay_53 : decode bP_bay 53 = .ok (.putfield 47, 3) := by decide +kernel
theorem dP_bay_56 : decode bP_bay 56 = .ok (.aload_n 0, 1) := by decide +kernel
theorem dP_bay_57 : decode bP_bay 57 = .ok (.getfield 10, 3) := by decide +kernel
theorem dP_bay_60 : decode bP_bay 60 = .ok (.iload_n 1, 1) := by decide +kernel
theorem dP_bay_61 : decode bP_bay 61 = .ok (.iload_n 2, 1) := by decide +kernel
theorem dP_bay_62 : decode bP_bay 62 = .ok (.invokevirtual 71, 3) := by decide +kernel
theorem dP_bay_65 : decode bP_bay 65 = .ok (.ireturn, 1) := by decide +kernel
theorem dP_rate_0 : decode bP_rate 0 = .ok (.iload_n 2, 1) := by decide +kernel
theorem dP_rate_1 : decode bP_rate 1 = .ok (.ifCond .ne 13, 3) := by decide +kernel
theorem dP_rate_4 : decode bP_rate 4 = .ok (.new 75, 3) := by decide +kernel
theorem dP_rate_7 : decode bP_rate 7 = .ok (.dup, 1) := by decide +kernel
theorem dP_rate_8 : decode bP_rate 8 = .ok (.ldc 77, 2) := by decide +kernel
theorem dP_rate_10 : decode bP_rate 10 = .ok (.invokespecial 79, 3) := by decide +kernel
theorem dP_rate_13 : decode bP_rate 13 = .ok (.athrow, 1) := by decide +kernel
theorem dP_rate_14 : decode bP_rate 14 = .ok (.aload_n 0, 1) := by decide +kernel
theorem dP_rate_15 : decode bP_rate 15 = .ok (.getfield 25, 3) := by decide +kernel
theorem dP_rate_18 : decode bP_rate 18 = .ok (.iload_n 1, 1) := by decide +kernel
theorem dP_rate_19 : decode bP_rate 19 = .ok (.invokevirtual 80, 3) := by decide +kernel
theorem dP_rate_22 : decode bP_rate 22 = .ok (.ifCond .ne 13, 3) := by decide +kernel
theorem dP_rate_25 : decode bP_rate 25 = .ok (.new 55, 3) := by decide +kernel
theorem dP_rate_28 : decode bP_rate 28 = .ok (.dup, 1) := by decide +kernel
theorem dP_rate_29 : decode bP_rate 29 = .ok (.ldc 84, 2) := by decide +kernel
theorem dP_rate_31 : decode bP_rate 31 = .ok (.invokespecial 59, 3) := by decide +kernel
theorem dP_rate_34 : decode bP_rate 34 = .ok (.athrow, 1) := by decide +kernel
theorem dP_rate_35 : decode bP_rate 35 = .ok (.iload_n 2, 1) := by decide +kernel
theorem dP_rate_36 : decode bP_rate 36 = .ok (.iconst 1, 1) := by decide +kernel
theorem dP_rate_37 : decode bP_rate 37 = .ok (.bipush 100, 2) := by decide +kernel
theorem dP_rate_39 : decode bP_rate 39 = .ok (.invokestatic 51, 3) := by decide +kernel
theorem dP_rate_42 : decode bP_rate 42 = .ok (.ifCond .eq 13, 3) := by decide +kernel
theorem dP_rate_45 : decode bP_rate 45 = .ok (.iload_n 3, 1) := by decide +kernel
theorem dP_rate_46 : decode bP_rate 46 = .ok (.iconst 1, 1) := by decide +kernel
theorem dP_rate_47 : decode bP_rate 47 = .ok (.bipush 100, 2) := by decide +kernel
theorem dP_rate_49 : decode bP_rate 49 = .ok (.invokestatic 51, 3) := by decide +kernel
theorem dP_rate_52 : decode bP_rate 52 = .ok (.ifCond .ne 13, 3) := by decide +kernel
theorem dP_rate_55 : decode bP_rate 55 = .ok (.new 55, 3) := by decide +kernel
theorem dP_rate_58 : decode bP_rate 58 = .ok (.dup, 1) := by decide +kernel
theorem dP_rate_59 : decode bP_rate 59 = .ok (.ldc 86, 2) := by decide +kernel
theorem dP_rate_61 : decode bP_rate 61 = .ok (.invokespecial 59, 3) := by decide +kernel
theorem dP_rate_64 : decode bP_rate 64 = .ok (.athrow, 1) := by decide +kernel
theorem dP_rate_65 : decode bP_rate 65 = .ok (.aload_n 0, 1) := by decide +kernel
theorem dP_rate_66 : decode bP_rate 66 = .ok (.getfield 25, 3) := by decide +kernel
theorem dP_rate_69 : decode bP_rate 69 = .ok (.iload_n 1, 1) := by decide +kernel
theorem dP_rate_70 : decode bP_rate 70 = .ok (.iload_n 2, 1) := by decide +kernel
theorem dP_rate_71 : decode bP_rate 71 = .ok (.iload_n 3, 1) := by decide +kernel
theorem dP_rate_72 : decode bP_rate 72 = .ok (.invokevirtual 88, 3) := by decide +kernel
theorem dP_rate_75 : decode bP_rate 75 = .ok (.aload_n 0, 1) := by decide +kernel
theorem dP_rate_76 : decode bP_rate 76 = .ok (.iconst 0, 1) := by decide +kernel
theorem dP_rate_77 : decode bP_rate 77 = .ok (.putfield 47, 3) := by decide +kernel
theorem dP_rate_80 : decode bP_rate 80 = .ok (.iconst 1, 1) := by decide +kernel
theorem dP_rate_81 : decode bP_rate 81 = .ok (.ireturn, 1) := by decide +kernel
theorem dP_step_0 : decode bP_step 0 = .ok (.iload_n 1, 1) := by decide +kernel
theorem dP_step_1 : decode bP_step 1 = .ok (.iconst 0, 1) := by decide +kernel
theorem dP_step_2 : decode bP_step 2 = .ok (.bipush 20, 2) := by decide +kernel
theorem dP_step_4 : decode bP_step 4 = .ok (.invokestatic 51, 3) := by decide +kernel
theorem dP_step_7 : decode bP_step 7 = .ok (.ifCond .ne 5, 3) := by decide +kernel
theorem dP_step_10 : decode bP_step 10 = .ok (.iconst 0, 1) := by decide +kernel
theorem dP_step_11 : decode bP_step 11 = .ok (.ireturn, 1) := by decide +kernel
theorem dP_step_12 : decode bP_step 12 = .ok (.aload_n 0, 1) := by decide +kernel
theorem dP_step_13 : decode bP_step 13 = .ok (.getfield 25, 3) := by decide +kernel
theorem dP_step_16 : decode bP_step 16 = .ok (.iload_n 1, 1) := by decide +kernel
theorem dP_step_17 : decode bP_step 17 = .ok (.putfield 92, 3) := by decide +kernel
theorem dP_step_20 : decode bP_step 20 = .ok (.aload_n 0, 1) := by decide +kernel
theorem dP_step_21 : decode bP_step 21 = .ok (.iconst 0, 1) := by decide +kernel
theorem dP_step_22 : decode bP_step 22 = .ok (.putfield 47, 3) := by decide +kernel
theorem dP_step_25 : decode bP_step 25 = .ok (.iconst 1, 1) := by decide +kernel
theorem dP_step_26 : decode bP_step 26 = .ok (.ireturn, 1) := by decide +kernel
theorem dP_plan_0 : decode bP_plan 0 = .ok (.aload_n 0, 1) := by decide +kernel
theorem dP_plan_1 : decode bP_plan 1 = .ok (.getfield 47, 3) := by decide +kernel
theorem dP_plan_4 : decode bP_plan 4 = .ok (.ifCond .ne 14, 3) := by decide +kernel
theorem dP_plan_7 : decode bP_plan 7 = .ok (.aload_n 0, 1) := by decide +kernel
theorem dP_plan_8 : decode bP_plan 8 = .ok (.aload_n 0, 1) := by decide +kernel
theorem dP_plan_9 : decode bP_plan 9 = .ok (.getfield 43, 3) := by decide +kernel
theorem dP_plan_12 : decode bP_plan 12 = .ok (.invokevirtual 96, 3) := by decide +kernel
theorem dP_plan_15 : decode bP_plan 15 = .ok (.putfield 47, 3) := by decide +kernel
theorem dP_plan_18 : decode bP_plan 18 = .ok (.aload_n 0, 1) := by decide +kernel
theorem dP_plan_19 : decode bP_plan 19 = .ok (.getfield 47, 3) := by decide +kernel
theorem dP_plan_22 : decode bP_plan 22 = .ok (.ifCond .eq 13, 3) := by decide +kernel
theorem dP_plan_25 : decode bP_plan 25 = .ok (.aload_n 0, 1) := by decide +kernel
theorem dP_plan_26 : decode bP_plan 26 = .ok (.getfield 34, 3) := by decide +kernel
theorem dP_plan_29 : decode bP_plan 29 = .ok (.getfield 99, 3) := by decide +kernel
theorem dP_plan_32 : decode bP_plan 32 = .ok (.goto 4, 3) := by decide +kernel
theorem dP_plan_35 : decode bP_plan 35 = .ok (.iconst (-1), 1) := by decide +kernel
theorem dP_plan_36 : decode bP_plan 36 = .ok (.ireturn, 1) := by decide +kernel
theorem dP_works_0 : decode bP_works 0 = .ok (.aload_n 0, 1) := by decide +kernel
theorem dP_works_1 : decode bP_works 1 = .ok (.getfield 25, 3) := by decide +kernel
theorem dP_works_4 : decode bP_works 4 = .ok (.iload_n 1, 1) := by decide +kernel
theorem dP_works_5 : decode bP_works 5 = .ok (.invokevirtual 80, 3) := by decide +kernel
theorem dP_works_8 : decode bP_works 8 = .ok (.ifCond .ne 13, 3) := by decide +kernel
theorem dP_works_11 : decode bP_works 11 = .ok (.new 102, 3) := by decide +kernel
theorem dP_works_14 : decode bP_works 14 = .ok (.dup, 1) := by decide +kernel
theorem dP_works_15 : decode bP_works 15 = .ok (.ldc 84, 2) := by decide +kernel
theorem dP_works_17 : decode bP_works 17 = .ok (.invokespecial 104, 3) := by decide +kernel
theorem dP_works_20 : decode bP_works 20 = .ok (.athrow, 1) := by decide +kernel
theorem dP_works_21 : decode bP_works 21 = .ok (.aload_n 0, 1) := by decide +kernel
theorem dP_works_22 : decode bP_works 22 = .ok (.getfield 47, 3) := by decide +kernel
theorem dP_works_25 : decode bP_works 25 = .ok (.ifCond .ne 13, 3) := by decide +kernel
theorem dP_works_28 : decode bP_works 28 = .ok (.new 66, 3) := by decide +kernel
theorem dP_works_31 : decode bP_works 31 = .ok (.dup, 1) := by decide +kernel
theorem dP_works_32 : decode bP_works 32 = .ok (.ldc 105, 2) := by decide +kernel
theorem dP_works_34 : decode bP_works 34 = .ok (.invokespecial 70, 3) := by decide +kernel
theorem dP_works_37 : decode bP_works 37 = .ok (.athrow, 1) := by decide +kernel
theorem dP_works_38 : decode bP_works 38 = .ok (.aload_n 0, 1) := by decide +kernel
theorem dP_works_39 : decode bP_works 39 = .ok (.getfield 34, 3) := by decide +kernel
theorem dP_works_42 : decode bP_works 42 = .ok (.iload_n 1, 1) := by decide +kernel
theorem dP_works_43 : decode bP_works 43 = .ok (.iload_n 2, 1) := by decide +kernel
theorem dP_works_44 : decode bP_works 44 = .ok (.invokevirtual 107, 3) := by decide +kernel
theorem dP_works_47 : decode bP_works 47 = .ok (.ireturn, 1) := by decide +kernel
theorem dP_where_0 : decode bP_where 0 = .ok (.aload_n 0, 1) := by decide +kernel
theorem dP_where_1 : decode bP_where 1 = .ok (.getfield 25, 3) := by decide +kernel
theorem dP_where_4 : decode bP_where 4 = .ok (.iload_n 1, 1) := by decide +kernel
theorem dP_where_5 : decode bP_where 5 = .ok (.invokevirtual 80, 3) := by decide +kernel
theorem dP_where_8 : decode bP_where 8 = .ok (.ifCond .eq 7, 3) := by decide +kernel
theorem dP_where_11 : decode bP_where 11 = .ok (.iload_n 2, 1) := by decide +kernel
theorem dP_where_12 : decode bP_where 12 = .ok (.ifCond .ge 13, 3) := by decide +kernel
theorem dP_where_15 : decode bP_where 15 = .ok (.new 102, 3) := by decide +kernel
theorem dP_where_18 : decode bP_where 18 = .ok (.dup, 1) := by decide +kernel
theorem dP_where_19 : decode bP_where 19 = .ok (.ldc 110, 2) := by decide +kernel
theorem dP_where_21 : decode bP_where 21 = .ok (.invokespecial 104, 3) := by decide +kernel
theorem dP_where_24 : decode bP_where 24 = .ok (.athrow, 1) := by decide +kernel
theorem dP_where_25 : decode bP_where 25 = .ok (.aload_n 0, 1) := by decide +kernel
theorem dP_where_26 : decode bP_where 26 = .ok (.getfield 47, 3) := by decide +kernel
theorem dP_where_29 : decode bP_where 29 = .ok (.ifCond .ne 13, 3) := by decide +kernel
theorem dP_where_32 : decode bP_where 32 = .ok (.new 66, 3) := by decide +kernel
theorem dP_where_35 : decode bP_where 35 = .ok (.dup, 1) := by decide +kernel
theorem dP_where_36 : decode bP_where 36 = .ok (.ldc 105, 2) := by decide +kernel
theorem dP_where_38 : decode bP_where 38 = .ok (.invokespecial 70, 3) := by decide +kernel
theorem dP_where_41 : decode bP_where 41 = .ok (.athrow, 1) := by decide +kernel
theorem dP_where_42 : decode bP_where 42 = .ok (.aload_n 0, 1) := by decide +kernel
theorem dP_where_43 : decode bP_where 43 = .ok (.getfield 34, 3) := by decide +kernel
theorem dP_where_46 : decode bP_where 46 = .ok (.iload_n 1, 1) := by decide +kernel
theorem dP_where_47 : decode bP_where 47 = .ok (.iload_n 2, 1) := by decide +kernel
theorem dP_where_48 : decode bP_where 48 = .ok (.invokevirtual 112, 3) := by decide +kernel
theorem dP_where_51 : decode bP_where 51 = .ok (.ireturn, 1) := by decide +kernel
theorem dP_fails_0 : decode bP_fails 0 = .ok (.aload_n 0, 1) := by decide +kernel
theorem dP_fails_1 : decode bP_fails 1 = .ok (.getfield 25, 3) := by decide +kernel
theorem dP_fails_4 : decode bP_fails 4 = .ok (.iload_n 1, 1) := by decide +kernel
theorem dP_fails_5 : decode bP_fails 5 = .ok (.invokevirtual 80, 3) := by decide +kernel
theorem dP_fails_8 : decode bP_fails 8 = .ok (.ifCond .ne 13, 3) := by decide +kernel
theorem dP_fails_11 : decode bP_fails 11 = .ok (.new 102, 3) := by decide +kernel
theorem dP_fails_14 : decode bP_fails 14 = .ok (.dup, 1) := by decide +kernel
theorem dP_fails_15 : decode bP_fails 15 = .ok (.ldc 84, 2) := by decide +kernel
theorem dP_fails_17 : decode bP_fails 17 = .ok (.invokespecial 104, 3) := by decide +kernel
theorem dP_fails_20 : decode bP_fails 20 = .ok (.athrow, 1) := by decide +kernel
theorem dP_fails_21 : decode bP_fails 21 = .ok (.iload_n 2, 1) := by decide +kernel
theorem dP_fails_22 : decode bP_fails 22 = .ok (.ifCond .lt 14, 3) := by decide +kernel
theorem dP_fails_25 : decode bP_fails 25 = .ok (.aload_n 0, 1) := by decide +kernel
theorem dP_fails_26 : decode bP_fails 26 = .ok (.getfield 25, 3) := by decide +kernel
theorem dP_fails_29 : decode bP_fails 29 = .ok (.iload_n 1, 1) := by decide +kernel
theorem dP_fails_30 : decode bP_fails 30 = .ok (.invokevirtual 115, 3) := by decide +kernel
theorem dP_fails_33 : decode bP_fails 33 = .ok (.ifCond .eq 13, 3) := by decide +kernel
theorem dP_fails_36 : decode bP_fails 36 = .ok (.new 55, 3) := by decide +kernel
theorem dP_fails_39 : decode bP_fails 39 = .ok (.dup, 1) := by decide +kernel
theorem dP_fails_40 : decode bP_fails 40 = .ok (.ldc 118, 2) := by decide +kernel
theorem dP_fails_42 : decode bP_fails 42 = .ok (.invokespecial 59, 3) := by decide +kernel
theorem dP_fails_45 : decode bP_fails 45 = .ok (.athrow, 1) := by decide +kernel
theorem dP_fails_46 : decode bP_fails 46 = .ok (.aload_n 0, 1) := by decide +kernel
theorem dP_fails_47 : decode bP_fails 47 = .ok (.getfield 47, 3) := by decide +kernel
theorem dP_fails_50 : decode bP_fails 50 = .ok (.ifCond .ne 13, 3) := by decide +kernel
theorem dP_fails_53 : decode bP_fails 53 = .ok (.new 66, 3) := by decide +kernel
theorem dP_fails_56 : decode bP_fails 56 = .ok (.dup, 1) := by decide +kernel
theorem dP_fails_57 : decode bP_fails 57 = .ok (.ldc 105, 2) := by decide +kernel
theorem dP_fails_59 : decode bP_fails 59 = .ok (.invokespecial 70, 3) := by decide +kernel
theorem dP_fails_62 : decode bP_fails 62 = .ok (.athrow, 1) := by decide +kernel
theorem dP_fails_63 : decode bP_fails 63 = .ok (.iconst 0, 1) := by decide +kernel
theorem dP_fails_64 : decode bP_fails 64 = .ok (.istore_n 3, 1) := by decide +kernel
theorem dP_fails_65 : decode bP_fails 65 = .ok (.iload_n 3, 1) := by decide +kernel
theorem dP_fails_66 : decode bP_fails 66 = .ok (.aload_n 0, 1) := by decide +kernel
theorem dP_fails_67 : decode bP_fails 67 = .ok (.getfield 10, 3) := by decide +kernel
theorem dP_fails_70 : decode bP_fails 70 = .ok (.getfield 120, 3) := by decide +kernel
theorem dP_fails_73 : decode bP_fails 73 = .ok (.if_icmp .ge 26, 3) := by decide +kernel
theorem dP_fails_76 : decode bP_fails 76 = .ok (.aload_n 0, 1) := by decide +kernel
theorem dP_fails_77 : decode bP_fails 77 = .ok (.getfield 10, 3) := by decide +kernel
theorem dP_fails_80 : decode bP_fails 80 = .ok (.iload_n 3, 1) := by decide +kernel
theorem dP_fails_81 : decode bP_fails 81 = .ok (.aload_n 0, 1) := by decide +kernel
theorem dP_fails_82 : decode bP_fails 82 = .ok (.getfield 34, 3) := by decide +kernel
theorem dP_fails_85 : decode bP_fails 85 = .ok (.iload_n 3, 1) := by decide +kernel
theorem dP_fails_86 : decode bP_fails 86 = .ok (.iload_n 2, 1) := by decide +kernel
theorem dP_fails_87 : decode bP_fails 87 = .ok (.invokevirtual 123, 3) := by decide +kernel
theorem dP_fails_90 : decode bP_fails 90 = .ok (.invokevirtual 126, 3) := by decide +kernel
theorem dP_fails_93 : decode bP_fails 93 = .ok (.iinc 3 1, 3) := by decide +kernel
theorem dP_fails_96 : decode bP_fails 96 = .ok (.goto (-31), 3) := by decide +kernel
theorem dP_fails_99 : decode bP_fails 99 = .ok (.aload_n 0, 1) := by decide +kernel
theorem dP_fails_100 : decode bP_fails 100 = .ok (.getfield 25, 3) := by decide +kernel
theorem dP_fails_103 : decode bP_fails 103 = .ok (.iload_n 1, 1) := by decide +kernel
theorem dP_fails_104 : decode bP_fails 104 = .ok (.invokevirtual 129, 3) := by decide +kernel
theorem dP_fails_107 : decode bP_fails 107 = .ok (.aload_n 0, 1) := by decide +kernel
theorem dP_fails_108 : decode bP_fails 108 = .ok (.iconst 0, 1) := by decide +kernel
theorem dP_fails_109 : decode bP_fails 109 = .ok (.putfield 47, 3) := by decide +kernel
theorem dP_fails_112 : decode bP_fails 112 = .ok (.aload_n 0, 1) := by decide +kernel
theorem dP_fails_113 : decode bP_fails 113 = .ok (.invokevirtual 133, 3) := by decide +kernel
theorem dP_fails_116 : decode bP_fails 116 = .ok (.ireturn, 1) := by decide +kernel
theorem dP_bound_0 : decode bP_bound 0 = .ok (.aload_n 0, 1) := by decide +kernel
theorem dP_bound_1 : decode bP_bound 1 = .ok (.getfield 25, 3) := by decide +kernel
theorem dP_bound_4 : decode bP_bound 4 = .ok (.invokevirtual 137, 3) := by decide +kernel
theorem dP_bound_7 : decode bP_bound 7 = .ok (.ifCond .ne 5, 3) := by decide +kernel
theorem dP_bound_10 : decode bP_bound 10 = .ok (.iconst (-1), 1) := by decide +kernel
theorem dP_bound_11 : decode bP_bound 11 = .ok (.ireturn, 1) := by decide +kernel
theorem dP_bound_12 : decode bP_bound 12 = .ok (.aload_n 0, 1) := by decide +kernel
theorem dP_bound_13 : decode bP_bound 13 = .ok (.getfield 25, 3) := by decide +kernel
theorem dP_bound_16 : decode bP_bound 16 = .ok (.aload_n 0, 1) := by decide +kernel
theorem dP_bound_17 : decode bP_bound 17 = .ok (.getfield 10, 3) := by decide +kernel
theorem dP_bound_20 : decode bP_bound 20 = .ok (.invokevirtual 140, 3) := by decide +kernel
theorem dP_bound_23 : decode bP_bound 23 = .ok (.invokevirtual 143, 3) := by decide +kernel
theorem dP_bound_26 : decode bP_bound 26 = .ok (.istore_n 1, 1) := by decide +kernel
theorem dP_bound_27 : decode bP_bound 27 = .ok (.iconst 0, 1) := by decide +kernel
theorem dP_bound_28 : decode bP_bound 28 = .ok (.istore_n 2, 1) := by decide +kernel
theorem dP_bound_29 : decode bP_bound 29 = .ok (.iload_n 2, 1) := by decide +kernel
theorem dP_bound_30 : decode bP_bound 30 = .ok (.aload_n 0, 1) := by decide +kernel
theorem dP_bound_31 : decode bP_bound 31 = .ok (.getfield 10, 3) := by decide +kernel
theorem dP_bound_34 : decode bP_bound 34 = .ok (.getfield 120, 3) := by decide +kernel
theorem dP_bound_37 : decode bP_bound 37 = .ok (.if_icmp .ge 29, 3) := by decide +kernel
theorem dP_bound_40 : decode bP_bound 40 = .ok (.iload_n 1, 1) := by decide +kernel
theorem dP_bound_41 : decode bP_bound 41 = .ok (.aload_n 0, 1) := by decide +kernel
theorem dP_bound_42 : decode bP_bound 42 = .ok (.getfield 25, 3) := by decide +kernel
theorem dP_bound_45 : decode bP_bound 45 = .ok (.aload_n 0, 1) := by decide +kernel
theorem dP_bound_46 : decode bP_bound 46 = .ok (.getfield 10, 3) := by decide +kernel
theorem dP_bound_49 : decode bP_bound 49 = .ok (.iload_n 2, 1) := by decide +kernel
theorem dP_bound_50 : decode bP_bound 50 = .ok (.invokevirtual 147, 3) := by decide +kernel
theorem dP_bound_53 : decode bP_bound 53 = .ok (.invokevirtual 150, 3) := by decide +kernel
theorem dP_bound_56 : decode bP_bound 56 = .ok (.invokestatic 153, 3) := by decide +kernel
theorem dP_bound_59 : decode bP_bound 59 = .ok (.istore_n 1, 1) := by decide +kernel
theorem dP_bound_60 : decode bP_bound 60 = .ok (.iinc 2 1, 3) := by decide +kernel
theorem dP_bound_63 : decode bP_bound 63 = .ok (.goto (-34), 3) := by decide +kernel
theorem dP_bound_66 : decode bP_bound 66 = .ok (.iload_n 1, 1) := by decide +kernel
theorem dP_bound_67 : decode bP_bound 67 = .ok (.ireturn, 1) := by decide +kernel
theorem dP_row_0 : decode bP_row 0 = .ok (.aload_n 0, 1) := by decide +kernel
theorem dP_row_1 : decode bP_row 1 = .ok (.getfield 47, 3) := by decide +kernel
theorem dP_row_4 : decode bP_row 4 = .ok (.ifCond .ne 13, 3) := by decide +kernel
theorem dP_row_7 : decode bP_row 7 = .ok (.new 66, 3) := by decide +kernel
theorem dP_row_10 : decode bP_row 10 = .ok (.dup, 1) := by decide +kernel
theorem dP_row_11 : decode bP_row 11 = .ok (.ldc 105, 2) := by decide +kernel
theorem dP_row_13 : decode bP_row 13 = .ok (.invokespecial 70, 3) := by decide +kernel
theorem dP_row_16 : decode bP_row 16 = .ok (.athrow, 1) := by decide +kernel
theorem dP_row_17 : decode bP_row 17 = .ok (.iload_n 1, 1) := by decide +kernel
theorem dP_row_18 : decode bP_row 18 = .ok (.iconst 0, 1) := by decide +kernel
theorem dP_row_19 : decode bP_row 19 = .ok (.aload_n 0, 1) := by decide +kernel
theorem dP_row_20 : decode bP_row 20 = .ok (.getfield 34, 3) := by decide +kernel
theorem dP_row_23 : decode bP_row 23 = .ok (.getfield 158, 3) := by decide +kernel
theorem dP_row_26 : decode bP_row 26 = .ok (.iconst 1, 1) := by decide +kernel
theorem dP_row_27 : decode bP_row 27 = .ok (.isub, 1) := by decide +kernel
theorem dP_row_28 : decode bP_row 28 = .ok (.invokestatic 51, 3) := by decide +kernel
theorem dP_row_31 : decode bP_row 31 = .ok (.ifCond .eq 12, 3) := by decide +kernel
theorem dP_row_34 : decode bP_row 34 = .ok (.iload_n 2, 1) := by decide +kernel
theorem dP_row_35 : decode bP_row 35 = .ok (.iconst 0, 1) := by decide +kernel
theorem dP_row_36 : decode bP_row 36 = .ok (.iconst 3, 1) := by decide +kernel
theorem dP_row_37 : decode bP_row 37 = .ok (.invokestatic 51, 3) := by decide +kernel
theorem dP_row_40 : decode bP_row 40 = .ok (.ifCond .ne 13, 3) := by decide +kernel
theorem dP_row_43 : decode bP_row 43 = .ok (.new 102, 3) := by decide +kernel
theorem dP_row_46 : decode bP_row 46 = .ok (.dup, 1) := by decide +kernel
theorem dP_row_47 : decode bP_row 47 = .ok (.ldc 161, 2) := by decide +kernel
theorem dP_row_49 : decode bP_row 49 = .ok (.invokespecial 104, 3) := by decide +kernel
theorem dP_row_52 : decode bP_row 52 = .ok (.athrow, 1) := by decide +kernel
theorem dP_row_53 : decode bP_row 53 = .ok (.aload_n 0, 1) := by decide +kernel
theorem dP_row_54 : decode bP_row 54 = .ok (.getfield 34, 3) := by decide +kernel
theorem dP_row_57 : decode bP_row 57 = .ok (.iload_n 1, 1) := by decide +kernel
theorem dP_row_58 : decode bP_row 58 = .ok (.iload_n 2, 1) := by decide +kernel
theorem dP_row_59 : decode bP_row 59 = .ok (.invokevirtual 163, 3) := by decide +kernel
theorem dP_row_62 : decode bP_row 62 = .ok (.ireturn, 1) := by decide +kernel
theorem dP_look_0 : decode bP_look 0 = .ok (.aload_n 0, 1) := by decide +kernel
theorem dP_look_1 : decode bP_look 1 = .ok (.getfield 10, 3) := by decide +kernel
theorem dP_look_4 : decode bP_look 4 = .ok (.iload_n 1, 1) := by decide +kernel
theorem dP_look_5 : decode bP_look 5 = .ok (.invokevirtual 166, 3) := by decide +kernel
theorem dP_look_8 : decode bP_look 8 = .ok (.ifCond .eq 12, 3) := by decide +kernel
theorem dP_look_11 : decode bP_look 11 = .ok (.iload_n 2, 1) := by decide +kernel
theorem dP_look_12 : decode bP_look 12 = .ok (.iconst 0, 1) := by decide +kernel
theorem dP_look_13 : decode bP_look 13 = .ok (.iconst 2, 1) := by decide +kernel
theorem dP_look_14 : decode bP_look 14 = .ok (.invokestatic 51, 3) := by decide +kernel
theorem dP_look_17 : decode bP_look 17 = .ok (.ifCond .ne 13, 3) := by decide +kernel
theorem dP_look_20 : decode bP_look 20 = .ok (.new 102, 3) := by decide +kernel
theorem dP_look_23 : decode bP_look 23 = .ok (.dup, 1) := by decide +kernel
theorem dP_look_24 : decode bP_look 24 = .ok (.ldc 167, 2) := by decide +kernel
theorem dP_look_26 : decode bP_look 26 = .ok (.invokespecial 104, 3) := by decide +kernel
theorem dP_look_29 : decode bP_look 29 = .ok (.athrow, 1) := by decide +kernel
theorem dP_look_30 : decode bP_look 30 = .ok (.iload_n 2, 1) := by decide +kernel
theorem dP_look_31 : decode bP_look 31 = .ok (.ifCond .ne 13, 3) := by decide +kernel
theorem dP_look_34 : decode bP_look 34 = .ok (.aload_n 0, 1) := by decide +kernel
theorem dP_look_35 : decode bP_look 35 = .ok (.getfield 10, 3) := by decide +kernel
theorem dP_look_38 : decode bP_look 38 = .ok (.getfield 169, 3) := by decide +kernel
theorem dP_look_41 : decode bP_look 41 = .ok (.iload_n 1, 1) := by decide +kernel
theorem dP_look_42 : decode bP_look 42 = .ok (.iaload, 1) := by decide +kernel
theorem dP_look_43 : decode bP_look 43 = .ok (.ireturn, 1) := by decide +kernel
theorem dP_look_44 : decode bP_look 44 = .ok (.iload_n 2, 1) := by decide +kernel
theorem dP_look_45 : decode bP_look 45 = .ok (.iconst 1, 1) := by decide +kernel
theorem dP_look_46 : decode bP_look 46 = .ok (.if_icmp .ne 13, 3) := by decide +kernel
theorem dP_look_49 : decode bP_look 49 = .ok (.aload_n 0, 1) := by decide +kernel
theorem dP_look_50 : decode bP_look 50 = .ok (.getfield 10, 3) := by decide +kernel
theorem dP_look_53 : decode bP_look 53 = .ok (.getfield 173, 3) := by decide +kernel
theorem dP_look_56 : decode bP_look 56 = .ok (.iload_n 1, 1) := by decide +kernel
theorem dP_look_57 : decode bP_look 57 = .ok (.iaload, 1) := by decide +kernel
theorem dP_look_58 : decode bP_look 58 = .ok (.ireturn, 1) := by decide +kernel
theorem dP_look_59 : decode bP_look 59 = .ok (.aload_n 0, 1) := by decide +kernel
theorem dP_look_60 : decode bP_look 60 = .ok (.getfield 47, 3) := by decide +kernel
theorem dP_look_63 : decode bP_look 63 = .ok (.ifCond .eq 15, 3) := by decide +kernel
theorem dP_look_66 : decode bP_look 66 = .ok (.aload_n 0, 1) := by decide +kernel
theorem dP_look_67 : decode bP_look 67 = .ok (.getfield 34, 3) := by decide +kernel
theorem dP_look_70 : decode bP_look 70 = .ok (.getfield 176, 3) := by decide +kernel
theorem dP_look_73 : decode bP_look 73 = .ok (.iload_n 1, 1) := by decide +kernel
theorem dP_look_74 : decode bP_look 74 = .ok (.iaload, 1) := by decide +kernel
theorem dP_look_75 : decode bP_look 75 = .ok (.goto 4, 3) := by decide +kernel
theorem dP_look_78 : decode bP_look 78 = .ok (.iconst (-1), 1) := by decide +kernel
theorem dP_look_79 : decode bP_look 79 = .ok (.ireturn, 1) := by decide +kernel
theorem dP_count_0 : decode bP_count 0 = .ok (.iload_n 1, 1) := by decide +kernel
theorem dP_count_1 : decode bP_count 1 = .ok (.tableswitch 114 0 5 #[39, 47, 55, 68, 87, 106], 39) := by decide +kernel
theorem dP_count_40 : decode bP_count 40 = .ok (.aload_n 0, 1) := by decide +kernel
theorem dP_count_41 : decode bP_count 41 = .ok (.getfield 10, 3) := by decide +kernel
theorem dP_count_44 : decode bP_count 44 = .ok (.getfield 120, 3) := by decide +kernel
theorem dP_count_47 : decode bP_count 47 = .ok (.ireturn, 1) := by decide +kernel
theorem dP_count_48 : decode bP_count 48 = .ok (.aload_n 0, 1) := by decide +kernel
theorem dP_count_49 : decode bP_count 49 = .ok (.getfield 25, 3) := by decide +kernel
theorem dP_count_52 : decode bP_count 52 = .ok (.invokevirtual 137, 3) := by decide +kernel
theorem dP_count_55 : decode bP_count 55 = .ok (.ireturn, 1) := by decide +kernel
theorem dP_count_56 : decode bP_count 56 = .ok (.aload_n 0, 1) := by decide +kernel
theorem dP_count_57 : decode bP_count 57 = .ok (.getfield 47, 3) := by decide +kernel
theorem dP_count_60 : decode bP_count 60 = .ok (.ifCond .eq 7, 3) := by decide +kernel
theorem dP_count_63 : decode bP_count 63 = .ok (.iconst 1, 1) := by decide +kernel
theorem dP_count_64 : decode bP_count 64 = .ok (.goto 4, 3) := by decide +kernel
theorem dP_count_67 : decode bP_count 67 = .ok (.iconst 0, 1) := by decide +kernel
theorem dP_count_68 : decode bP_count 68 = .ok (.ireturn, 1) := by decide +kernel
theorem dP_count_69 : decode bP_count 69 = .ok (.aload_n 0, 1) := by decide +kernel
theorem dP_count_70 : decode bP_count 70 = .ok (.getfield 47, 3) := by decide +kernel
theorem dP_count_73 : decode bP_count 73 = .ok (.ifCond .eq 13, 3) := by decide +kernel
theorem dP_count_76 : decode bP_count 76 = .ok (.aload_n 0, 1) := by decide +kernel
theorem dP_count_77 : decode bP_count 77 = .ok (.getfield 34, 3) := by decide +kernel
theorem dP_count_80 : decode bP_count 80 = .ok (.getfield 179, 3) := by decide +kernel
theorem dP_count_83 : decode bP_count 83 = .ok (.goto 4, 3) := by decide +kernel
theorem dP_count_86 : decode bP_count 86 = .ok (.iconst (-1), 1) := by decide +kernel
theorem dP_count_87 : decode bP_count 87 = .ok (.ireturn, 1) := by decide +kernel
theorem dP_count_88 : decode bP_count 88 = .ok (.aload_n 0, 1) := by decide +kernel
theorem dP_count_89 : decode bP_count 89 = .ok (.getfield 47, 3) := by decide +kernel
theorem dP_count_92 : decode bP_count 92 = .ok (.ifCond .eq 13, 3) := by decide +kernel
theorem dP_count_95 : decode bP_count 95 = .ok (.aload_n 0, 1) := by decide +kernel
theorem dP_count_96 : decode bP_count 96 = .ok (.getfield 34, 3) := by decide +kernel
theorem dP_count_99 : decode bP_count 99 = .ok (.getfield 158, 3) := by decide +kernel
theorem dP_count_102 : decode bP_count 102 = .ok (.goto 4, 3) := by decide +kernel
theorem dP_count_105 : decode bP_count 105 = .ok (.iconst (-1), 1) := by decide +kernel
theorem dP_count_106 : decode bP_count 106 = .ok (.ireturn, 1) := by decide +kernel
theorem dP_count_107 : decode bP_count 107 = .ok (.aload_n 0, 1) := by decide +kernel
theorem dP_count_108 : decode bP_count 108 = .ok (.getfield 10, 3) := by decide +kernel
theorem dP_count_111 : decode bP_count 111 = .ok (.invokevirtual 140, 3) := by decide +kernel
theorem dP_count_114 : decode bP_count 114 = .ok (.ireturn, 1) := by decide +kernel
theorem dP_count_115 : decode bP_count 115 = .ok (.iconst (-1), 1) := by decide +kernel
theorem dP_count_116 : decode bP_count 116 = .ok (.ireturn, 1) := by decide +kernel
theorem dP_within_0 : decode bP_within 0 = .ok (.iload_n 0, 1) := by decide +kernel
theorem dP_within_1 : decode bP_within 1 = .ok (.iload_n 1, 1) := by decide +kernel
theorem dP_within_2 : decode bP_within 2 = .ok (.if_icmp .lt 12, 3) := by decide +kernel
theorem dP_within_5 : decode bP_within 5 = .ok (.iload_n 0, 1) := by decide +kernel
theorem dP_within_6 : decode bP_within 6 = .ok (.iload_n 2, 1) := by decide +kernel
theorem dP_within_7 : decode bP_within 7 = .ok (.if_icmp .gt 7, 3) := by decide +kernel
theorem dP_within_10 : decode bP_within 10 = .ok (.iconst 1, 1) := by decide +kernel
theorem dP_within_11 : decode bP_within 11 = .ok (.goto 4, 3) := by decide +kernel
theorem dP_within_14 : decode bP_within 14 = .ok (.iconst 0, 1) := by decide +kernel
theorem dP_within_15 : decode bP_within 15 = .ok (.ireturn, 1) := by decide +kernel
theorem dP_held_0 : decode bP_held 0 = .ok (.iload_n 1, 1) := by decide +kernel
theorem dP_held_1 : decode bP_held 1 = .ok (.iload_n 2, 1) := by decide +kernel
theorem dP_held_2 : decode bP_held 2 = .ok (.iload_n 0, 1) := by decide +kernel
theorem dP_held_3 : decode bP_held 3 = .ok (.invokestatic 182, 3) := by decide +kernel
theorem dP_held_6 : decode bP_held 6 = .ok (.invokestatic 153, 3) := by decide +kernel
theorem dP_held_9 : decode bP_held 9 = .ok (.ireturn, 1) := by decide +kernel
theorem dP_dividedUp_0 : decode bP_dividedUp 0 = .ok (.lload_n 2, 1) := by decide +kernel
theorem dP_dividedUp_1 : decode bP_dividedUp 1 = .ok (.lconst 0, 1) := by decide +kernel
theorem dP_dividedUp_2 : decode bP_dividedUp 2 = .ok (.lcmp, 1) := by decide +kernel
theorem dP_dividedUp_3 : decode bP_dividedUp 3 = .ok (.ifCond .gt 7, 3) := by decide +kernel
theorem dP_dividedUp_6 : decode bP_dividedUp 6 = .ok (.lconst 0, 1) := by decide +kernel
theorem dP_dividedUp_7 : decode bP_dividedUp 7 = .ok (.goto 10, 3) := by decide +kernel
theorem dP_dividedUp_10 : decode bP_dividedUp 10 = .ok (.lload_n 0, 1) := by decide +kernel
theorem dP_dividedUp_11 : decode bP_dividedUp 11 = .ok (.lload_n 2, 1) := by decide +kernel
theorem dP_dividedUp_12 : decode bP_dividedUp 12 = .ok (.ladd, 1) := by decide +kernel
theorem dP_dividedUp_13 : decode bP_dividedUp 13 = .ok (.lconst 1, 1) := by decide +kernel
theorem dP_dividedUp_14 : decode bP_dividedUp 14 = .ok (.lsub, 1) := by decide +kernel
theorem dP_dividedUp_15 : decode bP_dividedUp 15 = .ok (.lload_n 2, 1) := by decide +kernel
theorem dP_dividedUp_16 : decode bP_dividedUp 16 = .ok (.ldiv, 1) := by decide +kernel
theorem dP_dividedUp_17 : decode bP_dividedUp 17 = .ok (.lreturn, 1) := by decide +kernel
theorem dB_init_0 : decode bB_init 0 = .ok (.aload_n 0, 1) := by decide +kernel
theorem dB_init_1 : decode bB_init 1 = .ok (.invokespecial 3, 3) := by decide +kernel
theorem dB_init_4 : decode bB_init 4 = .ok (.aload_n 0, 1) := by decide +kernel
theorem dB_init_5 : decode bB_init 5 = .ok (.bipush 8, 2) := by decide +kernel
theorem dB_init_7 : decode bB_init 7 = .ok (.newarray .int, 2) := by decide +kernel
theorem dB_init_9 : decode bB_init 9 = .ok (.putfield 9, 3) := by decide +kernel
theorem dB_init_12 : decode bB_init 12 = .ok (.aload_n 0, 1) := by decide +kernel
theorem dB_init_13 : decode bB_init 13 = .ok (.bipush 8, 2) := by decide +kernel
theorem dB_init_15 : decode bB_init 15 = .ok (.newarray .int, 2) := by decide +kernel
theorem dB_init_17 : decode bB_init 17 = .ok (.putfield 15, 3) := by decide +kernel
theorem dB_init_20 : decode bB_init 20 = .ok (.aload_n 0, 1) := by decide +kernel
theorem dB_init_21 : decode bB_init 21 = .ok (.iconst 0, 1) := by decide +kernel
theorem dB_init_22 : decode bB_init 22 = .ok (.putfield 18, 3) := by decide +kernel
theorem dB_init_25 : decode bB_init 25 = .ok (.return_, 1) := by decide +kernel
theorem dB_has_0 : decode bB_has 0 = .ok (.iload_n 1, 1) := by decide +kernel
theorem dB_has_1 : decode bB_has 1 = .ok (.ifCond .lt 21, 3) := by decide +kernel
theorem dB_has_4 : decode bB_has 4 = .ok (.iload_n 1, 1) := by decide +kernel
theorem dB_has_5 : decode bB_has 5 = .ok (.aload_n 0, 1) := by decide +kernel
theorem dB_has_6 : decode bB_has 6 = .ok (.getfield 18, 3) := by decide +kernel
theorem dB_has_9 : decode bB_has 9 = .ok (.if_icmp .ge 13, 3) := by decide +kernel
theorem dB_has_12 : decode bB_has 12 = .ok (.iload_n 1, 1) := by decide +kernel
theorem dB_has_13 : decode bB_has 13 = .ok (.bipush 8, 2) := by decide +kernel
theorem dB_has_15 : decode bB_has 15 = .ok (.if_icmp .ge 7, 3) := by decide +kernel
theorem dB_has_18 : decode bB_has 18 = .ok (.iconst 1, 1) := by decide +kernel
theorem dB_has_19 : decode bB_has 19 = .ok (.goto 4, 3) := by decide +kernel
theorem dB_has_22 : decode bB_has 22 = .ok (.iconst 0, 1) := by decide +kernel
theorem dB_has_23 : decode bB_has 23 = .ok (.ireturn, 1) := by decide +kernel
theorem dB_isFull_0 : decode bB_isFull 0 = .ok (.aload_n 0, 1) := by decide +kernel
theorem dB_isFull_1 : decode bB_isFull 1 = .ok (.getfield 18, 3) := by decide +kernel
theorem dB_isFull_4 : decode bB_isFull 4 = .ok (.bipush 8, 2) := by decide +kernel
theorem dB_isFull_6 : decode bB_isFull 6 = .ok (.if_icmp .lt 7, 3) := by decide +kernel
theorem dB_isFull_9 : decode bB_isFull 9 = .ok (.iconst 1, 1) := by decide +kernel
theorem dB_isFull_10 : decode bB_isFull 10 = .ok (.goto 4, 3) := by decide +kernel
theorem dB_isFull_13 : decode bB_isFull 13 = .ok (.iconst 0, 1) := by decide +kernel
theorem dB_isFull_14 : decode bB_isFull 14 = .ok (.ireturn, 1) := by decide +kernel
theorem dB_add_0 : decode bB_add 0 = .ok (.aload_n 0, 1) := by decide +kernel
theorem dB_add_1 : decode bB_add 1 = .ok (.invokevirtual 22, 3) := by decide +kernel
theorem dB_add_4 : decode bB_add 4 = .ok (.ifCond .eq 5, 3) := by decide +kernel
theorem dB_add_7 : decode bB_add 7 = .ok (.iconst (-1), 1) := by decide +kernel
theorem dB_add_8 : decode bB_add 8 = .ok (.ireturn, 1) := by decide +kernel
theorem dB_add_9 : decode bB_add 9 = .ok (.aload_n 0, 1) := by decide +kernel
theorem dB_add_10 : decode bB_add 10 = .ok (.getfield 9, 3) := by decide +kernel
theorem dB_add_13 : decode bB_add 13 = .ok (.aload_n 0, 1) := by decide +kernel
theorem dB_add_14 : decode bB_add 14 = .ok (.getfield 18, 3) := by decide +kernel
theorem dB_add_17 : decode bB_add 17 = .ok (.iload_n 1, 1) := by decide +kernel
theorem dB_add_18 : decode bB_add 18 = .ok (.iastore, 1) := by decide +kernel
theorem dB_add_19 : decode bB_add 19 = .ok (.aload_n 0, 1) := by decide +kernel
theorem dB_add_20 : decode bB_add 20 = .ok (.getfield 15, 3) := by decide +kernel
theorem dB_add_23 : decode bB_add 23 = .ok (.aload_n 0, 1) := by decide +kernel
theorem dB_add_24 : decode bB_add 24 = .ok (.getfield 18, 3) := by decide +kernel
theorem dB_add_27 : decode bB_add 27 = .ok (.iload_n 2, 1) := by decide +kernel
theorem dB_add_28 : decode bB_add 28 = .ok (.iastore, 1) := by decide +kernel
theorem dB_add_29 : decode bB_add 29 = .ok (.aload_n 0, 1) := by decide +kernel
theorem dB_add_30 : decode bB_add 30 = .ok (.dup, 1) := by decide +kernel
theorem dB_add_31 : decode bB_add 31 = .ok (.getfield 18, 3) := by decide +kernel
theorem dB_add_34 : decode bB_add 34 = .ok (.iconst 1, 1) := by decide +kernel
theorem dB_add_35 : decode bB_add 35 = .ok (.iadd, 1) := by decide +kernel
theorem dB_add_36 : decode bB_add 36 = .ok (.putfield 18, 3) := by decide +kernel
theorem dB_add_39 : decode bB_add 39 = .ok (.aload_n 0, 1) := by decide +kernel
theorem dB_add_40 : decode bB_add 40 = .ok (.getfield 18, 3) := by decide +kernel
theorem dB_add_43 : decode bB_add 43 = .ok (.iconst 1, 1) := by decide +kernel
theorem dB_add_44 : decode bB_add 44 = .ok (.isub, 1) := by decide +kernel
theorem dB_add_45 : decode bB_add 45 = .ok (.ireturn, 1) := by decide +kernel
theorem dB_movesOf_0 : decode bB_movesOf 0 = .ok (.aload_n 0, 1) := by decide +kernel
theorem dB_movesOf_1 : decode bB_movesOf 1 = .ok (.iload_n 1, 1) := by decide +kernel
theorem dB_movesOf_2 : decode bB_movesOf 2 = .ok (.invokevirtual 26, 3) := by decide +kernel
theorem dB_movesOf_5 : decode bB_movesOf 5 = .ok (.ifCond .eq 19, 3) := by decide +kernel
theorem dB_movesOf_8 : decode bB_movesOf 8 = .ok (.aload_n 0, 1) := by decide +kernel
theorem dB_movesOf_9 : decode bB_movesOf 9 = .ok (.getfield 9, 3) := by decide +kernel
theorem dB_movesOf_12 : decode bB_movesOf 12 = .ok (.iload_n 1, 1) := by decide +kernel
theorem dB_movesOf_13 : decode bB_movesOf 13 = .ok (.iaload, 1) := by decide +kernel
theorem dB_movesOf_14 : decode bB_movesOf 14 = .ok (.aload_n 0, 1) := by decide +kernel
theorem dB_movesOf_15 : decode bB_movesOf 15 = .ok (.getfield 15, 3) := by decide +kernel
theorem dB_movesOf_18 : decode bB_movesOf 18 = .ok (.iload_n 1, 1) := by decide +kernel
theorem dB_movesOf_19 : decode bB_movesOf 19 = .ok (.iaload, 1) := by decide +kernel
theorem dB_movesOf_20 : decode bB_movesOf 20 = .ok (.iadd, 1) := by decide +kernel
theorem dB_movesOf_21 : decode bB_movesOf 21 = .ok (.goto 4, 3) := by decide +kernel
theorem dB_movesOf_24 : decode bB_movesOf 24 = .ok (.iconst 0, 1) := by decide +kernel
theorem dB_movesOf_25 : decode bB_movesOf 25 = .ok (.ireturn, 1) := by decide +kernel
theorem dB_allMoves_0 : decode bB_allMoves 0 = .ok (.iconst 0, 1) := by decide +kernel
theorem dB_allMoves_1 : decode bB_allMoves 1 = .ok (.istore_n 1, 1) := by decide +kernel
theorem dB_allMoves_2 : decode bB_allMoves 2 = .ok (.iconst 0, 1) := by decide +kernel
theorem dB_allMoves_3 : decode bB_allMoves 3 = .ok (.istore_n 2, 1) := by decide +kernel
theorem dB_allMoves_4 : decode bB_allMoves 4 = .ok (.iload_n 2, 1) := by decide +kernel
theorem dB_allMoves_5 : decode bB_allMoves 5 = .ok (.aload_n 0, 1) := by decide +kernel
theorem dB_allMoves_6 : decode bB_allMoves 6 = .ok (.getfield 18, 3) := by decide +kernel
theorem dB_allMoves_9 : decode bB_allMoves 9 = .ok (.if_icmp .ge 17, 3) := by decide +kernel
theorem dB_allMoves_12 : decode bB_allMoves 12 = .ok (.iload_n 1, 1) := by decide +kernel
theorem dB_allMoves_13 : decode bB_allMoves 13 = .ok (.aload_n 0, 1) := by decide +kernel
theorem dB_allMoves_14 : decode bB_allMoves 14 = .ok (.iload_n 2, 1) := by decide +kernel
theorem dB_allMoves_15 : decode bB_allMoves 15 = .ok (.invokevirtual 30, 3) := by decide +kernel
theorem dB_allMoves_18 : decode bB_allMoves 18 = .ok (.iadd, 1) := by decide +kernel
theorem dB_allMoves_19 : decode bB_allMoves 19 = .ok (.istore_n 1, 1) := by decide +kernel
theorem dB_allMoves_20 : decode bB_allMoves 20 = .ok (.iinc 2 1, 3) := by decide +kernel
theorem dB_allMoves_23 : decode bB_allMoves 23 = .ok (.goto (-19), 3) := by decide +kernel
theorem dB_allMoves_26 : decode bB_allMoves 26 = .ok (.iload_n 1, 1) := by decide +kernel
theorem dB_allMoves_27 : decode bB_allMoves 27 = .ok (.ireturn, 1) := by decide +kernel
theorem dB_takeOff_0 : decode bB_takeOff 0 = .ok (.aload_n 0, 1) := by decide +kernel
theorem dB_takeOff_1 : decode bB_takeOff 1 = .ok (.iload_n 1, 1) := by decide +kernel
theorem dB_takeOff_2 : decode bB_takeOff 2 = .ok (.invokevirtual 26, 3) := by decide +kernel
theorem dB_takeOff_5 : decode bB_takeOff 5 = .ok (.ifCond .ne 4, 3) := by decide +kernel
theorem dB_takeOff_8 : decode bB_takeOff 8 = .ok (.return_, 1) := by decide +kernel
theorem dB_takeOff_9 : decode bB_takeOff 9 = .ok (.iload_n 2, 1) := by decide +kernel
theorem dB_takeOff_10 : decode bB_takeOff 10 = .ok (.aload_n 0, 1) := by decide +kernel
theorem dB_takeOff_11 : decode bB_takeOff 11 = .ok (.getfield 9, 3) := by decide +kernel
theorem dB_takeOff_14 : decode bB_takeOff 14 = .ok (.iload_n 1, 1) := by decide +kernel
theorem dB_takeOff_15 : decode bB_takeOff 15 = .ok (.iaload, 1) := by decide +kernel
theorem dB_takeOff_16 : decode bB_takeOff 16 = .ok (.invokestatic 34, 3) := by decide +kernel
theorem dB_takeOff_19 : decode bB_takeOff 19 = .ok (.istore_n 3, 1) := by decide +kernel
theorem dB_takeOff_20 : decode bB_takeOff 20 = .ok (.aload_n 0, 1) := by decide +kernel
theorem dB_takeOff_21 : decode bB_takeOff 21 = .ok (.getfield 9, 3) := by decide +kernel
theorem dB_takeOff_24 : decode bB_takeOff 24 = .ok (.iload_n 1, 1) := by decide +kernel
theorem dB_takeOff_25 : decode bB_takeOff 25 = .ok (.dup2, 1) := by decide +kernel
theorem dB_takeOff_26 : decode bB_takeOff 26 = .ok (.iaload, 1) := by decide +kernel
theorem dB_takeOff_27 : decode bB_takeOff 27 = .ok (.iload_n 3, 1) := by decide +kernel
theorem dB_takeOff_28 : decode bB_takeOff 28 = .ok (.isub, 1) := by decide +kernel
theorem dB_takeOff_29 : decode bB_takeOff 29 = .ok (.iastore, 1) := by decide +kernel
theorem dB_takeOff_30 : decode bB_takeOff 30 = .ok (.aload_n 0, 1) := by decide +kernel
theorem dB_takeOff_31 : decode bB_takeOff 31 = .ok (.getfield 15, 3) := by decide +kernel
theorem dB_takeOff_34 : decode bB_takeOff 34 = .ok (.iload_n 1, 1) := by decide +kernel
theorem dB_takeOff_35 : decode bB_takeOff 35 = .ok (.dup2, 1) := by decide +kernel
theorem dB_takeOff_36 : decode bB_takeOff 36 = .ok (.iaload, 1) := by decide +kernel
theorem dB_takeOff_37 : decode bB_takeOff 37 = .ok (.iload_n 2, 1) := by decide +kernel
theorem dB_takeOff_38 : decode bB_takeOff 38 = .ok (.iload_n 3, 1) := by decide +kernel
theorem dB_takeOff_39 : decode bB_takeOff 39 = .ok (.isub, 1) := by decide +kernel
theorem dB_takeOff_40 : decode bB_takeOff 40 = .ok (.aload_n 0, 1) := by decide +kernel
theorem dB_takeOff_41 : decode bB_takeOff 41 = .ok (.getfield 15, 3) := by decide +kernel
theorem dB_takeOff_44 : decode bB_takeOff 44 = .ok (.iload_n 1, 1) := by decide +kernel
theorem dB_takeOff_45 : decode bB_takeOff 45 = .ok (.iaload, 1) := by decide +kernel
theorem dB_takeOff_46 : decode bB_takeOff 46 = .ok (.invokestatic 34, 3) := by decide +kernel
theorem dB_takeOff_49 : decode bB_takeOff 49 = .ok (.isub, 1) := by decide +kernel
theorem dB_takeOff_50 : decode bB_takeOff 50 = .ok (.iastore, 1) := by decide +kernel
theorem dB_takeOff_51 : decode bB_takeOff 51 = .ok (.return_, 1) := by decide +kernel
theorem dK_init_0 : decode bK_init 0 = .ok (.aload_n 0, 1) := by decide +kernel
theorem dK_init_1 : decode bK_init 1 = .ok (.invokespecial 3, 3) := by decide +kernel
theorem dK_init_4 : decode bK_init 4 = .ok (.aload_n 0, 1) := by decide +kernel
theorem dK_init_5 : decode bK_init 5 = .ok (.iconst 4, 1) := by decide +kernel
theorem dK_init_6 : decode bK_init 6 = .ok (.newarray .int, 2) := by decide +kernel
theorem dK_init_8 : decode bK_init 8 = .ok (.putfield 9, 3) := by decide +kernel
theorem dK_init_11 : decode bK_init 11 = .ok (.aload_n 0, 1) := by decide +kernel
theorem dK_init_12 : decode bK_init 12 = .ok (.iconst 4, 1) := by decide +kernel
theorem dK_init_13 : decode bK_init 13 = .ok (.newarray .int, 2) := by decide +kernel
theorem dK_init_15 : decode bK_init 15 = .ok (.putfield 15, 3) := by decide +kernel
theorem dK_init_18 : decode bK_init 18 = .ok (.aload_n 0, 1) := by decide +kernel
theorem dK_init_19 : decode bK_init 19 = .ok (.iconst 4, 1) := by decide +kernel
theorem dK_init_20 : decode bK_init 20 = .ok (.newarray .boolean, 2) := by decide +kernel
theorem dK_init_22 : decode bK_init 22 = .ok (.putfield 18, 3) := by decide +kernel
theorem dK_init_25 : decode bK_init 25 = .ok (.aload_n 0, 1) := by decide +kernel
theorem dK_init_26 : decode bK_init 26 = .ok (.iconst 1, 1) := by decide +kernel
theorem dK_init_27 : decode bK_init 27 = .ok (.putfield 22, 3) := by decide +kernel
theorem dK_init_30 : decode bK_init 30 = .ok (.aload_n 0, 1) := by decide +kernel
theorem dK_init_31 : decode bK_init 31 = .ok (.iload_n 1, 1) := by decide +kernel
theorem dK_init_32 : decode bK_init 32 = .ok (.putfield 26, 3) := by decide +kernel
theorem dK_init_35 : decode bK_init 35 = .ok (.aload_n 0, 1) := by decide +kernel
theorem dK_init_36 : decode bK_init 36 = .ok (.iload_n 2, 1) := by decide +kernel
theorem dK_init_37 : decode bK_init 37 = .ok (.putfield 29, 3) := by decide +kernel
theorem dK_init_40 : decode bK_init 40 = .ok (.aload_n 0, 1) := by decide +kernel
theorem dK_init_41 : decode bK_init 41 = .ok (.getfield 9, 3) := by decide +kernel
theorem dK_init_44 : decode bK_init 44 = .ok (.iconst 1, 1) := by decide +kernel
theorem dK_init_45 : decode bK_init 45 = .ok (.invokestatic 32, 3) := by decide +kernel
theorem dK_init_48 : decode bK_init 48 = .ok (.aload_n 0, 1) := by decide +kernel
theorem dK_init_49 : decode bK_init 49 = .ok (.getfield 15, 3) := by decide +kernel
theorem dK_init_52 : decode bK_init 52 = .ok (.iconst 1, 1) := by decide +kernel
theorem dK_init_53 : decode bK_init 53 = .ok (.invokestatic 32, 3) := by decide +kernel
theorem dK_init_56 : decode bK_init 56 = .ok (.return_, 1) := by decide +kernel
theorem dK_has_0 : decode bK_has 0 = .ok (.iload_n 1, 1) := by decide +kernel
theorem dK_has_1 : decode bK_has 1 = .ok (.ifCond .lt 20, 3) := by decide +kernel
theorem dK_has_4 : decode bK_has 4 = .ok (.iload_n 1, 1) := by decide +kernel
theorem dK_has_5 : decode bK_has 5 = .ok (.aload_n 0, 1) := by decide +kernel
theorem dK_has_6 : decode bK_has 6 = .ok (.getfield 26, 3) := by decide +kernel
theorem dK_has_9 : decode bK_has 9 = .ok (.if_icmp .ge 12, 3) := by decide +kernel
theorem dK_has_12 : decode bK_has 12 = .ok (.iload_n 1, 1) := by decide +kernel
theorem dK_has_13 : decode bK_has 13 = .ok (.iconst 4, 1) := by decide +kernel
theorem dK_has_14 : decode bK_has 14 = .ok (.if_icmp .ge 7, 3) := by decide +kernel
theorem dK_has_17 : decode bK_has 17 = .ok (.iconst 1, 1) := by decide +kernel
theorem dK_has_18 : decode bK_has 18 = .ok (.goto 4, 3) := by decide +kernel
theorem dK_has_21 : decode bK_has 21 = .ok (.iconst 0, 1) := by decide +kernel
theorem dK_has_22 : decode bK_has 22 = .ok (.ireturn, 1) := by decide +kernel
theorem dK_isOut_0 : decode bK_isOut 0 = .ok (.aload_n 0, 1) := by decide +kernel
theorem dK_isOut_1 : decode bK_isOut 1 = .ok (.iload_n 1, 1) := by decide +kernel
theorem dK_isOut_2 : decode bK_isOut 2 = .ok (.invokevirtual 38, 3) := by decide +kernel
theorem dK_isOut_5 : decode bK_isOut 5 = .ok (.ifCond .eq 12, 3) := by decide +kernel
theorem dK_isOut_8 : decode bK_isOut 8 = .ok (.aload_n 0, 1) := by decide +kernel
theorem dK_isOut_9 : decode bK_isOut 9 = .ok (.getfield 18, 3) := by decide +kernel
theorem dK_isOut_12 : decode bK_isOut 12 = .ok (.iload_n 1, 1) := by decide +kernel
theorem dK_isOut_13 : decode bK_isOut 13 = .ok (.baload, 1) := by decide +kernel
theorem dK_isOut_14 : decode bK_isOut 14 = .ok (.ifCond .eq 7, 3) := by decide +kernel
theorem dK_isOut_17 : decode bK_isOut 17 = .ok (.iconst 1, 1) := by decide +kernel
theorem dK_isOut_18 : decode bK_isOut 18 = .ok (.goto 4, 3) := by decide +kernel
theorem dK_isOut_21 : decode bK_isOut 21 = .ok (.iconst 0, 1) := by decide +kernel
theorem dK_isOut_22 : decode bK_isOut 22 = .ok (.ireturn, 1) := by decide +kernel
theorem dK_putOut_0 : decode bK_putOut 0 = .ok (.aload_n 0, 1) := by decide +kernel
theorem dK_putOut_1 : decode bK_putOut 1 = .ok (.iload_n 1, 1) := by decide +kernel
theorem dK_putOut_2 : decode bK_putOut 2 = .ok (.invokevirtual 38, 3) := by decide +kernel
theorem dK_putOut_5 : decode bK_putOut 5 = .ok (.ifCond .eq 10, 3) := by decide +kernel
theorem dK_putOut_8 : decode bK_putOut 8 = .ok (.aload_n 0, 1) := by decide +kernel
theorem dK_putOut_9 : decode bK_putOut 9 = .ok (.getfield 18, 3) := by decide +kernel
theorem dK_putOut_12 : decode bK_putOut 12 = .ok (.iload_n 1, 1) := by decide +kernel
theorem dK_putOut_13 : decode bK_putOut 13 = .ok (.iconst 1, 1) := by decide +kernel
theorem dK_putOut_14 : decode bK_putOut 14 = .ok (.bastore, 1) := by decide +kernel
theorem dK_putOut_15 : decode bK_putOut 15 = .ok (.return_, 1) := by decide +kernel
theorem dK_setRate_0 : decode bK_setRate 0 = .ok (.aload_n 0, 1) := by decide +kernel
theorem dK_setRate_1 : decode bK_setRate 1 = .ok (.iload_n 1, 1) := by decide +kernel
theorem dK_setRate_2 : decode bK_setRate 2 = .ok (.invokevirtual 38, 3) := by decide +kernel
theorem dK_setRate_5 : decode bK_setRate 5 = .ok (.ifCond .eq 17, 3) := by decide +kernel
theorem dK_setRate_8 : decode bK_setRate 8 = .ok (.aload_n 0, 1) := by decide +kernel
theorem dK_setRate_9 : decode bK_setRate 9 = .ok (.getfield 9, 3) := by decide +kernel
theorem dK_setRate_12 : decode bK_setRate 12 = .ok (.iload_n 1, 1) := by decide +kernel
theorem dK_setRate_13 : decode bK_setRate 13 = .ok (.iload_n 2, 1) := by decide +kernel
theorem dK_setRate_14 : decode bK_setRate 14 = .ok (.iastore, 1) := by decide +kernel
theorem dK_setRate_15 : decode bK_setRate 15 = .ok (.aload_n 0, 1) := by decide +kernel
theorem dK_setRate_16 : decode bK_setRate 16 = .ok (.getfield 15, 3) := by decide +kernel
theorem dK_setRate_19 : decode bK_setRate 19 = .ok (.iload_n 1, 1) := by decide +kernel
theorem dK_setRate_20 : decode bK_setRate 20 = .ok (.iload_n 3, 1) := by decide +kernel
theorem dK_setRate_21 : decode bK_setRate 21 = .ok (.iastore, 1) := by decide +kernel
theorem dK_setRate_22 : decode bK_setRate 22 = .ok (.return_, 1) := by decide +kernel
theorem dK_able_0 : decode bK_able 0 = .ok (.iconst 0, 1) := by decide +kernel
theorem dK_able_1 : decode bK_able 1 = .ok (.istore_n 1, 1) := by decide +kernel
theorem dK_able_2 : decode bK_able 2 = .ok (.iconst 0, 1) := by decide +kernel
theorem dK_able_3 : decode bK_able 3 = .ok (.istore_n 2, 1) := by decide +kernel
theorem dK_able_4 : decode bK_able 4 = .ok (.iload_n 2, 1) := by decide +kernel
theorem dK_able_5 : decode bK_able 5 = .ok (.aload_n 0, 1) := by decide +kernel
theorem dK_able_6 : decode bK_able 6 = .ok (.getfield 26, 3) := by decide +kernel
theorem dK_able_9 : decode bK_able 9 = .ok (.if_icmp .ge 20, 3) := by decide +kernel
theorem dK_able_12 : decode bK_able 12 = .ok (.aload_n 0, 1) := by decide +kernel
theorem dK_able_13 : decode bK_able 13 = .ok (.iload_n 2, 1) := by decide +kernel
theorem dK_able_14 : decode bK_able 14 = .ok (.invokevirtual 42, 3) := by decide +kernel
theorem dK_able_17 : decode bK_able 17 = .ok (.ifCond .ne 6, 3) := by decide +kernel
theorem dK_able_20 : decode bK_able 20 = .ok (.iinc 1 1, 3) := by decide +kernel
theorem dK_able_23 : decode bK_able 23 = .ok (.iinc 2 1, 3) := by decide +kernel
theorem dK_able_26 : decode bK_able 26 = .ok (.goto (-22), 3) := by decide +kernel
theorem dK_able_29 : decode bK_able 29 = .ok (.iload_n 1, 1) := by decide +kernel
theorem dK_able_30 : decode bK_able 30 = .ok (.ireturn, 1) := by decide +kernel
theorem dK_timeFor_0 : decode bK_timeFor 0 = .ok (.aload_n 0, 1) := by decide +kernel
theorem dK_timeFor_1 : decode bK_timeFor 1 = .ok (.iload_n 1, 1) := by decide +kernel
theorem dK_timeFor_2 : decode bK_timeFor 2 = .ok (.invokevirtual 38, 3) := by decide +kernel
theorem dK_timeFor_5 : decode bK_timeFor 5 = .ok (.ifCond .eq 27, 3) := by decide +kernel
theorem dK_timeFor_8 : decode bK_timeFor 8 = .ok (.iload_n 2, 1) := by decide +kernel
theorem dK_timeFor_9 : decode bK_timeFor 9 = .ok (.i2l, 1) := by decide +kernel
theorem dK_timeFor_10 : decode bK_timeFor 10 = .ok (.aload_n 0, 1) := by decide +kernel
theorem dK_timeFor_11 : decode bK_timeFor 11 = .ok (.getfield 15, 3) := by decide +kernel
theorem dK_timeFor_14 : decode bK_timeFor 14 = .ok (.iload_n 1, 1) := by decide +kernel
theorem dK_timeFor_15 : decode bK_timeFor 15 = .ok (.iaload, 1) := by decide +kernel
theorem dK_timeFor_16 : decode bK_timeFor 16 = .ok (.i2l, 1) := by decide +kernel
theorem dK_timeFor_17 : decode bK_timeFor 17 = .ok (.lmul, 1) := by decide +kernel
theorem dK_timeFor_18 : decode bK_timeFor 18 = .ok (.aload_n 0, 1) := by decide +kernel
theorem dK_timeFor_19 : decode bK_timeFor 19 = .ok (.getfield 9, 3) := by decide +kernel
theorem dK_timeFor_22 : decode bK_timeFor 22 = .ok (.iload_n 1, 1) := by decide +kernel
theorem dK_timeFor_23 : decode bK_timeFor 23 = .ok (.iaload, 1) := by decide +kernel
theorem dK_timeFor_24 : decode bK_timeFor 24 = .ok (.i2l, 1) := by decide +kernel
theorem dK_timeFor_25 : decode bK_timeFor 25 = .ok (.invokestatic 45, 3) := by decide +kernel
theorem dK_timeFor_28 : decode bK_timeFor 28 = .ok (.l2i, 1) := by decide +kernel
theorem dK_timeFor_29 : decode bK_timeFor 29 = .ok (.goto 4, 3) := by decide +kernel
theorem dK_timeFor_32 : decode bK_timeFor 32 = .ok (.iconst 0, 1) := by decide +kernel
theorem dK_timeFor_33 : decode bK_timeFor 33 = .ok (.ireturn, 1) := by decide +kernel
theorem dK_movesIn_0 : decode bK_movesIn 0 = .ok (.aload_n 0, 1) := by decide +kernel
theorem dK_movesIn_1 : decode bK_movesIn 1 = .ok (.iload_n 1, 1) := by decide +kernel
theorem dK_movesIn_2 : decode bK_movesIn 2 = .ok (.invokevirtual 38, 3) := by decide +kernel
theorem dK_movesIn_5 : decode bK_movesIn 5 = .ok (.ifCond .eq 12, 3) := by decide +kernel
theorem dK_movesIn_8 : decode bK_movesIn 8 = .ok (.aload_n 0, 1) := by decide +kernel
theorem dK_movesIn_9 : decode bK_movesIn 9 = .ok (.getfield 15, 3) := by decide +kernel
theorem dK_movesIn_12 : decode bK_movesIn 12 = .ok (.iload_n 1, 1) := by decide +kernel
theorem dK_movesIn_13 : decode bK_movesIn 13 = .ok (.iaload, 1) := by decide +kernel
theorem dK_movesIn_14 : decode bK_movesIn 14 = .ok (.ifCond .gt 5, 3) := by decide +kernel
theorem dK_movesIn_17 : decode bK_movesIn 17 = .ok (.iconst 0, 1) := by decide +kernel
theorem dK_movesIn_18 : decode bK_movesIn 18 = .ok (.ireturn, 1) := by decide +kernel
theorem dK_movesIn_19 : decode bK_movesIn 19 = .ok (.iload_n 2, 1) := by decide +kernel
theorem dK_movesIn_20 : decode bK_movesIn 20 = .ok (.i2l, 1) := by decide +kernel
theorem dK_movesIn_21 : decode bK_movesIn 21 = .ok (.aload_n 0, 1) := by decide +kernel
theorem dK_movesIn_22 : decode bK_movesIn 22 = .ok (.getfield 9, 3) := by decide +kernel
theorem dK_movesIn_25 : decode bK_movesIn 25 = .ok (.iload_n 1, 1) := by decide +kernel
theorem dK_movesIn_26 : decode bK_movesIn 26 = .ok (.iaload, 1) := by decide +kernel
theorem dK_movesIn_27 : decode bK_movesIn 27 = .ok (.i2l, 1) := by decide +kernel
theorem dK_movesIn_28 : decode bK_movesIn 28 = .ok (.lmul, 1) := by decide +kernel
theorem dK_movesIn_29 : decode bK_movesIn 29 = .ok (.aload_n 0, 1) := by decide +kernel
theorem dK_movesIn_30 : decode bK_movesIn 30 = .ok (.getfield 15, 3) := by decide +kernel
theorem dK_movesIn_33 : decode bK_movesIn 33 = .ok (.iload_n 1, 1) := by decide +kernel
theorem dK_movesIn_34 : decode bK_movesIn 34 = .ok (.iaload, 1) := by decide +kernel
theorem dK_movesIn_35 : decode bK_movesIn 35 = .ok (.i2l, 1) := by decide +kernel
theorem dK_movesIn_36 : decode bK_movesIn 36 = .ok (.ldiv, 1) := by decide +kernel
theorem dK_movesIn_37 : decode bK_movesIn 37 = .ok (.l2i, 1) := by decide +kernel
theorem dK_movesIn_38 : decode bK_movesIn 38 = .ok (.ireturn, 1) := by decide +kernel
theorem dK_leastTime_0 : decode bK_leastTime 0 = .ok (.ldc 49, 2) := by decide +kernel
theorem dK_leastTime_2 : decode bK_leastTime 2 = .ok (.istore_n 2, 1) := by decide +kernel
theorem dK_leastTime_3 : decode bK_leastTime 3 = .ok (.iconst 0, 1) := by decide +kernel
theorem dK_leastTime_4 : decode bK_leastTime 4 = .ok (.istore_n 3, 1) := by decide +kernel
theorem dK_leastTime_5 : decode bK_leastTime 5 = .ok (.iload_n 3, 1) := by decide +kernel
theorem dK_leastTime_6 : decode bK_leastTime 6 = .ok (.aload_n 0, 1) := by decide +kernel
theorem dK_leastTime_7 : decode bK_leastTime 7 = .ok (.getfield 26, 3) := by decide +kernel
theorem dK_leastTime_10 : decode bK_leastTime 10 = .ok (.if_icmp .ge 28, 3) := by decide +kernel
theorem dK_leastTime_13 : decode bK_leastTime 13 = .ok (.aload_n 0, 1) := by decide +kernel
theorem dK_leastTime_14 : decode bK_leastTime 14 = .ok (.iload_n 3, 1) := by decide +kernel
theorem dK_leastTime_15 : decode bK_leastTime 15 = .ok (.invokevirtual 42, 3) := by decide +kernel
theorem dK_leastTime_18 : decode bK_leastTime 18 = .ok (.ifCond .ne 14, 3) := by decide +kernel
theorem dK_leastTime_21 : decode bK_leastTime 21 = .ok (.iload_n 2, 1) := by decide +kernel
theorem dK_leastTime_22 : decode bK_leastTime 22 = .ok (.aload_n 0, 1) := by decide +kernel
theorem dK_leastTime_23 : decode bK_leastTime 23 = .ok (.iload_n 3, 1) := by decide +kernel
theorem dK_leastTime_24 : decode bK_leastTime 24 = .ok (.iload_n 1, 1) := by decide +kernel
theorem dK_leastTime_25 : decode bK_leastTime 25 = .ok (.invokevirtual 50, 3) := by decide +kernel
theorem dK_leastTime_28 : decode bK_leastTime 28 = .ok (.invokestatic 54, 3) := by decide +kernel
theorem dK_leastTime_31 : decode bK_leastTime 31 = .ok (.istore_n 2, 1) := by decide +kernel
theorem dK_leastTime_32 : decode bK_leastTime 32 = .ok (.iinc 3 1, 3) := by decide +kernel
theorem dK_leastTime_35 : decode bK_leastTime 35 = .ok (.goto (-30), 3) := by decide +kernel
theorem dK_leastTime_38 : decode bK_leastTime 38 = .ok (.iload_n 2, 1) := by decide +kernel
theorem dK_leastTime_39 : decode bK_leastTime 39 = .ok (.ireturn, 1) := by decide +kernel
theorem dK_timeTogether_0 : decode bK_timeTogether 0 = .ok (.lconst 0, 1) := by decide +kernel
theorem dK_timeTogether_1 : decode bK_timeTogether 1 = .ok (.lstore_n 2, 1) := by decide +kernel
theorem dK_timeTogether_2 : decode bK_timeTogether 2 = .ok (.lconst 1, 1) := by decide +kernel
theorem dK_timeTogether_3 : decode bK_timeTogether 3 = .ok (.lstore 4, 2) := by decide +kernel
theorem dK_timeTogether_5 : decode bK_timeTogether 5 = .ok (.iconst 0, 1) := by decide +kernel
theorem dK_timeTogether_6 : decode bK_timeTogether 6 = .ok (.istore 6, 2) := by decide +kernel
theorem dK_timeTogether_8 : decode bK_timeTogether 8 = .ok (.iload 6, 2) := by decide +kernel
theorem dK_timeTogether_10 : decode bK_timeTogether 10 = .ok (.aload_n 0, 1) := by decide +kernel
theorem dK_timeTogether_11 : decode bK_timeTogether 11 = .ok (.getfield 26, 3) := by decide +kernel
theorem dK_timeTogether_14 : decode bK_timeTogether 14 = .ok (.if_icmp .ge 54, 3) := by decide +kernel
theorem dK_timeTogether_17 : decode bK_timeTogether 17 = .ok (.aload_n 0, 1) := by decide +kernel
theorem dK_timeTogether_18 : decode bK_timeTogether 18 = .ok (.iload 6, 2) := by decide +kernel
theorem dK_timeTogether_20 : decode bK_timeTogether 20 = .ok (.invokevirtual 42, 3) := by decide +kernel
theorem dK_timeTogether_23 : decode bK_timeTogether 23 = .ok (.ifCond .ne 39, 3) := by decide +kernel
theorem dK_timeTogether_26 : decode bK_timeTogether 26 = .ok (.lload_n 2, 1) := by decide +kernel
theorem dK_timeTogether_27 : decode bK_timeTogether 27 = .ok (.aload_n 0, 1) := by decide +kernel
theorem dK_timeTogether_28 : decode bK_timeTogether 28 = .ok (.getfield 15, 3) := by decide +kernel
theorem dK_timeTogether_31 : decode bK_timeTogether 31 = .ok (.iload 6, 2) := by decide +kernel
theorem dK_timeTogether_33 : decode bK_timeTogether 33 = .ok (.iaload, 1) := by decide +kernel
theorem dK_timeTogether_34 : decode bK_timeTogether 34 = .ok (.i2l, 1) := by decide +kernel
theorem dK_timeTogether_35 : decode bK_timeTogether 35 = .ok (.lmul, 1) := by decide +kernel
theorem dK_timeTogether_36 : decode bK_timeTogether 36 = .ok (.aload_n 0, 1) := by decide +kernel
theorem dK_timeTogether_37 : decode bK_timeTogether 37 = .ok (.getfield 9, 3) := by decide +kernel
theorem dK_timeTogether_40 : decode bK_timeTogether 40 = .ok (.iload 6, 2) := by decide +kernel
theorem dK_timeTogether_42 : decode bK_timeTogether 42 = .ok (.iaload, 1) := by decide +kernel
theorem dK_timeTogether_43 : decode bK_timeTogether 43 = .ok (.i2l, 1) := by decide +kernel
theorem dK_timeTogether_44 : decode bK_timeTogether 44 = .ok (.lload 4, 2) := by decide +kernel
theorem dK_timeTogether_46 : decode bK_timeTogether 46 = .ok (.lmul, 1) := by decide +kernel
theorem dK_timeTogether_47 : decode bK_timeTogether 47 = .ok (.ladd, 1) := by decide +kernel
theorem dK_timeTogether_48 : decode bK_timeTogether 48 = .ok (.lstore_n 2, 1) := by decide +kernel
theorem dK_timeTogether_49 : decode bK_timeTogether 49 = .ok (.lload 4, 2) := by decide +kernel
theorem dK_timeTogether_51 : decode bK_timeTogether 51 = .ok (.aload_n 0, 1) := by decide +kernel
theorem dK_timeTogether_52 : decode bK_timeTogether 52 = .ok (.getfield 15, 3) := by decide +kernel
theorem dK_timeTogether_55 : decode bK_timeTogether 55 = .ok (.iload 6, 2) := by decide +kernel
theorem dK_timeTogether_57 : decode bK_timeTogether 57 = .ok (.iaload, 1) := by decide +kernel
theorem dK_timeTogether_58 : decode bK_timeTogether 58 = .ok (.i2l, 1) := by decide +kernel
theorem dK_timeTogether_59 : decode bK_timeTogether 59 = .ok (.lmul, 1) := by decide +kernel
theorem dK_timeTogether_60 : decode bK_timeTogether 60 = .ok (.lstore 4, 2) := by decide +kernel
theorem dK_timeTogether_62 : decode bK_timeTogether 62 = .ok (.iinc 6 1, 3) := by decide +kernel
theorem dK_timeTogether_65 : decode bK_timeTogether 65 = .ok (.goto (-57), 3) := by decide +kernel
theorem dK_timeTogether_68 : decode bK_timeTogether 68 = .ok (.iload_n 1, 1) := by decide +kernel
theorem dK_timeTogether_69 : decode bK_timeTogether 69 = .ok (.i2l, 1) := by decide +kernel
theorem dK_timeTogether_70 : decode bK_timeTogether 70 = .ok (.lload 4, 2) := by decide +kernel
theorem dK_timeTogether_72 : decode bK_timeTogether 72 = .ok (.lmul, 1) := by decide +kernel
theorem dK_timeTogether_73 : decode bK_timeTogether 73 = .ok (.lload_n 2, 1) := by decide +kernel
theorem dK_timeTogether_74 : decode bK_timeTogether 74 = .ok (.invokestatic 45, 3) := by decide +kernel
theorem dK_timeTogether_77 : decode bK_timeTogether 77 = .ok (.l2i, 1) := by decide +kernel
theorem dK_timeTogether_78 : decode bK_timeTogether 78 = .ok (.ireturn, 1) := by decide +kernel
theorem dS_init_0 : decode bS_init 0 = .ok (.aload_n 0, 1) := by decide +kernel
theorem dS_init_1 : decode bS_init 1 = .ok (.invokespecial 3, 3) := by decide +kernel
theorem dS_init_4 : decode bS_init 4 = .ok (.aload_n 0, 1) := by decide +kernel
theorem dS_init_5 : decode bS_init 5 = .ok (.bipush 8, 2) := by decide +kernel
theorem dS_init_7 : decode bS_init 7 = .ok (.newarray .int, 2) := by decide +kernel
theorem dS_init_9 : decode bS_init 9 = .ok (.putfield 9, 3) := by decide +kernel
theorem dS_init_12 : decode bS_init 12 = .ok (.aload_n 0, 1) := by decide +kernel
theorem dS_init_13 : decode bS_init 13 = .ok (.iconst 4, 1) := by decide +kernel
theorem dS_init_14 : decode bS_init 14 = .ok (.newarray .int, 2) := by decide +kernel
theorem dS_init_16 : decode bS_init 16 = .ok (.putfield 15, 3) := by decide +kernel
theorem dS_init_19 : decode bS_init 19 = .ok (.aload_n 0, 1) := by decide +kernel
theorem dS_init_20 : decode bS_init 20 = .ok (.bipush 8, 2) := by decide +kernel
theorem dS_init_22 : decode bS_init 22 = .ok (.newarray .int, 2) := by decide +kernel
theorem dS_init_24 : decode bS_init 24 = .ok (.putfield 18, 3) := by decide +kernel
theorem dS_init_27 : decode bS_init 27 = .ok (.aload_n 0, 1) := by decide +kernel
theorem dS_init_28 : decode bS_init 28 = .ok (.bipush 8, 2) := by decide +kernel
theorem dS_init_30 : decode bS_init 30 = .ok (.newarray .int, 2) := by decide +kernel
theorem dS_init_32 : decode bS_init 32 = .ok (.putfield 21, 3) := by decide +kernel
theorem dS_init_35 : decode bS_init 35 = .ok (.aload_n 0, 1) := by decide +kernel
theorem dS_init_36 : decode bS_init 36 = .ok (.iconst 0, 1) := by decide +kernel
theorem dS_init_37 : decode bS_init 37 = .ok (.putfield 24, 3) := by decide +kernel
theorem dS_init_40 : decode bS_init 40 = .ok (.aload_n 0, 1) := by decide +kernel
theorem dS_init_41 : decode bS_init 41 = .ok (.iconst 0, 1) := by decide +kernel
theorem dS_init_42 : decode bS_init 42 = .ok (.putfield 28, 3) := by decide +kernel
theorem dS_init_45 : decode bS_init 45 = .ok (.aload_n 0, 1) := by decide +kernel
theorem dS_init_46 : decode bS_init 46 = .ok (.aload_n 1, 1) := by decide +kernel
theorem dS_init_47 : decode bS_init 47 = .ok (.putfield 31, 3) := by decide +kernel
theorem dS_init_50 : decode bS_init 50 = .ok (.aload_n 0, 1) := by decide +kernel
theorem dS_init_51 : decode bS_init 51 = .ok (.aload_n 2, 1) := by decide +kernel
theorem dS_init_52 : decode bS_init 52 = .ok (.putfield 35, 3) := by decide +kernel
theorem dS_init_55 : decode bS_init 55 = .ok (.aload_n 0, 1) := by decide +kernel
theorem dS_init_56 : decode bS_init 56 = .ok (.aload_n 3, 1) := by decide +kernel
theorem dS_init_57 : decode bS_init 57 = .ok (.putfield 39, 3) := by decide +kernel
theorem dS_init_60 : decode bS_init 60 = .ok (.return_, 1) := by decide +kernel
theorem dS_makeBest_0 : decode bS_makeBest 0 = .ok (.aload_n 0, 1) := by decide +kernel
theorem dS_makeBest_1 : decode bS_makeBest 1 = .ok (.invokevirtual 43, 3) := by decide +kernel
theorem dS_makeBest_4 : decode bS_makeBest 4 = .ok (.aload_n 0, 1) := by decide +kernel
theorem dS_makeBest_5 : decode bS_makeBest 5 = .ok (.getfield 28, 3) := by decide +kernel
theorem dS_makeBest_8 : decode bS_makeBest 8 = .ok (.ifCond .ne 5, 3) := by decide +kernel
theorem dS_makeBest_11 : decode bS_makeBest 11 = .ok (.iconst 0, 1) := by decide +kernel
theorem dS_makeBest_12 : decode bS_makeBest 12 = .ok (.ireturn, 1) := by decide +kernel
theorem dS_makeBest_13 : decode bS_makeBest 13 = .ok (.ldc 46, 2) := by decide +kernel
theorem dS_makeBest_15 : decode bS_makeBest 15 = .ok (.istore_n 1, 1) := by decide +kernel
theorem dS_makeBest_16 : decode bS_makeBest 16 = .ok (.ldc 46, 2) := by decide +kernel
theorem dS_makeBest_18 : decode bS_makeBest 18 = .ok (.istore_n 2, 1) := by decide +kernel
theorem dS_makeBest_19 : decode bS_makeBest 19 = .ok (.iconst 1, 1) := by decide +kernel
theorem dS_makeBest_20 : decode bS_makeBest 20 = .ok (.istore_n 3, 1) := by decide +kernel
theorem dS_makeBest_21 : decode bS_makeBest 21 = .ok (.iconst 0, 1) := by decide +kernel
theorem dS_makeBest_22 : decode bS_makeBest 22 = .ok (.istore 4, 2) := by decide +kernel
theorem dS_makeBest_24 : decode bS_makeBest 24 = .ok (.iload_n 3, 1) := by decide +kernel
theorem dS_makeBest_25 : decode bS_makeBest 25 = .ok (.ifCond .eq 90, 3) := by decide +kernel
theorem dS_makeBest_28 : decode bS_makeBest 28 = .ok (.iload 4, 2) := by decide +kernel
theorem dS_makeBest_30 : decode bS_makeBest 30 = .ok (.sipush 165, 3) := by decide +kernel
theorem dS_makeBest_33 : decode bS_makeBest 33 = .ok (.if_icmp .ge 82, 3) := by decide +kernel
theorem dS_makeBest_36 : decode bS_makeBest 36 = .ok (.aload_n 0, 1) := by decide +kernel
theorem dS_makeBest_37 : decode bS_makeBest 37 = .ok (.aload_n 0, 1) := by decide +kernel
theorem dS_makeBest_38 : decode bS_makeBest 38 = .ok (.getfield 18, 3) := by decide +kernel
theorem dS_makeBest_41 : decode bS_makeBest 41 = .ok (.invokevirtual 47, 3) := by decide +kernel
theorem dS_makeBest_44 : decode bS_makeBest 44 = .ok (.aload_n 0, 1) := by decide +kernel
theorem dS_makeBest_45 : decode bS_makeBest 45 = .ok (.getfield 39, 3) := by decide +kernel
theorem dS_makeBest_48 : decode bS_makeBest 48 = .ok (.invokevirtual 51, 3) := by decide +kernel
theorem dS_makeBest_51 : decode bS_makeBest 51 = .ok (.ifCond .eq 53, 3) := by decide +kernel
theorem dS_makeBest_54 : decode bS_makeBest 54 = .ok (.aload_n 0, 1) := by decide +kernel
theorem dS_makeBest_55 : decode bS_makeBest 55 = .ok (.getfield 39, 3) := by decide +kernel
theorem dS_makeBest_58 : decode bS_makeBest 58 = .ok (.invokevirtual 57, 3) := by decide +kernel
theorem dS_makeBest_61 : decode bS_makeBest 61 = .ok (.aload_n 0, 1) := by decide +kernel
theorem dS_makeBest_62 : decode bS_makeBest 62 = .ok (.getfield 39, 3) := by decide +kernel
theorem dS_makeBest_65 : decode bS_makeBest 65 = .ok (.iload_n 1, 1) := by decide +kernel
theorem dS_makeBest_66 : decode bS_makeBest 66 = .ok (.iload_n 2, 1) := by decide +kernel
theorem dS_makeBest_67 : decode bS_makeBest 67 = .ok (.invokevirtual 60, 3) := by decide +kernel
theorem dS_makeBest_70 : decode bS_makeBest 70 = .ok (.ifCond .eq 34, 3) := by decide +kernel
theorem dS_makeBest_73 : decode bS_makeBest 73 = .ok (.aload_n 0, 1) := by decide +kernel
theorem dS_makeBest_74 : decode bS_makeBest 74 = .ok (.getfield 39, 3) := by decide +kernel
theorem dS_makeBest_77 : decode bS_makeBest 77 = .ok (.getfield 64, 3) := by decide +kernel
theorem dS_makeBest_80 : decode bS_makeBest 80 = .ok (.istore_n 1, 1) := by decide +kernel
theorem dS_makeBest_81 : decode bS_makeBest 81 = .ok (.aload_n 0, 1) := by decide +kernel
theorem dS_makeBest_82 : decode bS_makeBest 82 = .ok (.getfield 39, 3) := by decide +kernel
theorem dS_makeBest_85 : decode bS_makeBest 85 = .ok (.getfield 67, 3) := by decide +kernel
theorem dS_makeBest_88 : decode bS_makeBest 88 = .ok (.istore_n 2, 1) := by decide +kernel
theorem dS_makeBest_89 : decode bS_makeBest 89 = .ok (.aload_n 0, 1) := by decide +kernel
theorem dS_makeBest_90 : decode bS_makeBest 90 = .ok (.getfield 18, 3) := by decide +kernel
theorem dS_makeBest_93 : decode bS_makeBest 93 = .ok (.iconst 0, 1) := by decide +kernel
theorem dS_makeBest_94 : decode bS_makeBest 94 = .ok (.aload_n 0, 1) := by decide +kernel
theorem dS_makeBest_95 : decode bS_makeBest 95 = .ok (.getfield 21, 3) := by decide +kernel
theorem dS_makeBest_98 : decode bS_makeBest 98 = .ok (.iconst 0, 1) := by decide +kernel
theorem dS_makeBest_99 : decode bS_makeBest 99 = .ok (.bipush 8, 2) := by decide +kernel
theorem dS_makeBest_101 : decode bS_makeBest 101 = .ok (.invokestatic 70, 3) := by decide +kernel
theorem dS_makeBest_104 : decode bS_makeBest 104 = .ok (.aload_n 0, 1) := by decide +kernel
theorem dS_makeBest_105 : decode bS_makeBest 105 = .ok (.invokevirtual 76, 3) := by decide +kernel
theorem dS_makeBest_108 : decode bS_makeBest 108 = .ok (.istore_n 3, 1) := by decide +kernel
theorem dS_makeBest_109 : decode bS_makeBest 109 = .ok (.iinc 4 1, 3) := by decide +kernel
theorem dS_makeBest_112 : decode bS_makeBest 112 = .ok (.goto (-88), 3) := by decide +kernel
theorem dS_makeBest_115 : decode bS_makeBest 115 = .ok (.aload_n 0, 1) := by decide +kernel
theorem dS_makeBest_116 : decode bS_makeBest 116 = .ok (.aload_n 0, 1) := by decide +kernel
theorem dS_makeBest_117 : decode bS_makeBest 117 = .ok (.getfield 21, 3) := by decide +kernel
theorem dS_makeBest_120 : decode bS_makeBest 120 = .ok (.invokevirtual 47, 3) := by decide +kernel
theorem dS_makeBest_123 : decode bS_makeBest 123 = .ok (.aload_n 0, 1) := by decide +kernel
theorem dS_makeBest_124 : decode bS_makeBest 124 = .ok (.getfield 39, 3) := by decide +kernel
theorem dS_makeBest_127 : decode bS_makeBest 127 = .ok (.invokevirtual 57, 3) := by decide +kernel
theorem dS_makeBest_130 : decode bS_makeBest 130 = .ok (.aload_n 0, 1) := by decide +kernel
theorem dS_makeBest_131 : decode bS_makeBest 131 = .ok (.getfield 39, 3) := by decide +kernel
theorem dS_makeBest_134 : decode bS_makeBest 134 = .ok (.invokevirtual 79, 3) := by decide +kernel
theorem dS_makeBest_137 : decode bS_makeBest 137 = .ok (.iconst 1, 1) := by decide +kernel
theorem dS_makeBest_138 : decode bS_makeBest 138 = .ok (.ireturn, 1) := by decide +kernel
theorem dS_gather_0 : decode bS_gather 0 = .ok (.aload_n 0, 1) := by decide +kernel
theorem dS_gather_1 : decode bS_gather 1 = .ok (.getfield 18, 3) := by decide +kernel
theorem dS_gather_4 : decode bS_gather 4 = .ok (.iconst 0, 1) := by decide +kernel
theorem dS_gather_5 : decode bS_gather 5 = .ok (.invokestatic 82, 3) := by decide +kernel
theorem dS_gather_8 : decode bS_gather 8 = .ok (.aload_n 0, 1) := by decide +kernel
theorem dS_gather_9 : decode bS_gather 9 = .ok (.iconst 0, 1) := by decide +kernel
theorem dS_gather_10 : decode bS_gather 10 = .ok (.putfield 24, 3) := by decide +kernel
theorem dS_gather_13 : decode bS_gather 13 = .ok (.iconst 0, 1) := by decide +kernel
theorem dS_gather_14 : decode bS_gather 14 = .ok (.istore_n 1, 1) := by decide +kernel
theorem dS_gather_15 : decode bS_gather 15 = .ok (.iload_n 1, 1) := by decide +kernel
theorem dS_gather_16 : decode bS_gather 16 = .ok (.bipush 8, 2) := by decide +kernel
theorem dS_gather_18 : decode bS_gather 18 = .ok (.if_icmp .ge 40, 3) := by decide +kernel
theorem dS_gather_21 : decode bS_gather 21 = .ok (.aload_n 0, 1) := by decide +kernel
theorem dS_gather_22 : decode bS_gather 22 = .ok (.getfield 31, 3) := by decide +kernel
theorem dS_gather_25 : decode bS_gather 25 = .ok (.iload_n 1, 1) := by decide +kernel
theorem dS_gather_26 : decode bS_gather 26 = .ok (.invokevirtual 88, 3) := by decide +kernel
theorem dS_gather_29 : decode bS_gather 29 = .ok (.ifCond .le 23, 3) := by decide +kernel
theorem dS_gather_32 : decode bS_gather 32 = .ok (.aload_n 0, 1) := by decide +kernel
theorem dS_gather_33 : decode bS_gather 33 = .ok (.getfield 9, 3) := by decide +kernel
theorem dS_gather_36 : decode bS_gather 36 = .ok (.aload_n 0, 1) := by decide +kernel
theorem dS_gather_37 : decode bS_gather 37 = .ok (.getfield 24, 3) := by decide +kernel
theorem dS_gather_40 : decode bS_gather 40 = .ok (.iload_n 1, 1) := by decide +kernel
theorem dS_gather_41 : decode bS_gather 41 = .ok (.iastore, 1) := by decide +kernel
theorem dS_gather_42 : decode bS_gather 42 = .ok (.aload_n 0, 1) := by decide +kernel
theorem dS_gather_43 : decode bS_gather 43 = .ok (.dup, 1) := by decide +kernel
theorem dS_gather_44 : decode bS_gather 44 = .ok (.getfield 24, 3) := by decide +kernel
theorem dS_gather_47 : decode bS_gather 47 = .ok (.iconst 1, 1) := by decide +kernel
theorem dS_gather_48 : decode bS_gather 48 = .ok (.iadd, 1) := by decide +kernel
theorem dS_gather_49 : decode bS_gather 49 = .ok (.putfield 24, 3) := by decide +kernel
theorem dS_gather_52 : decode bS_gather 52 = .ok (.iinc 1 1, 3) := by decide +kernel
theorem dS_gather_55 : decode bS_gather 55 = .ok (.goto (-40), 3) := by decide +kernel
theorem dS_gather_58 : decode bS_gather 58 = .ok (.aload_n 0, 1) := by decide +kernel
theorem dS_gather_59 : decode bS_gather 59 = .ok (.iconst 0, 1) := by decide +kernel
theorem dS_gather_60 : decode bS_gather 60 = .ok (.putfield 28, 3) := by decide +kernel
theorem dS_gather_63 : decode bS_gather 63 = .ok (.iconst 0, 1) := by decide +kernel
theorem dS_gather_64 : decode bS_gather 64 = .ok (.istore_n 1, 1) := by decide +kernel
theorem dS_gather_65 : decode bS_gather 65 = .ok (.iload_n 1, 1) := by decide +kernel
theorem dS_gather_66 : decode bS_gather 66 = .ok (.iconst 4, 1) := by decide +kernel
theorem dS_gather_67 : decode bS_gather 67 = .ok (.if_icmp .ge 40, 3) := by decide +kernel
theorem dS_gather_70 : decode bS_gather 70 = .ok (.aload_n 0, 1) := by decide +kernel
theorem dS_gather_71 : decode bS_gather 71 = .ok (.getfield 35, 3) := by decide +kernel
theorem dS_gather_74 : decode bS_gather 74 = .ok (.iload_n 1, 1) := by decide +kernel
theorem dS_gather_75 : decode bS_gather 75 = .ok (.invokevirtual 94, 3) := by decide +kernel
theorem dS_gather_78 : decode bS_gather 78 = .ok (.ifCond .ne 23, 3) := by decide +kernel
theorem dS_gather_81 : decode bS_gather 81 = .ok (.aload_n 0, 1) := by decide +kernel
theorem dS_gather_82 : decode bS_gather 82 = .ok (.getfield 15, 3) := by decide +kernel
theorem dS_gather_85 : decode bS_gather 85 = .ok (.aload_n 0, 1) := by decide +kernel
theorem dS_gather_86 : decode bS_gather 86 = .ok (.getfield 28, 3) := by decide +kernel
theorem dS_gather_89 : decode bS_gather 89 = .ok (.iload_n 1, 1) := by decide +kernel
theorem dS_gather_90 : decode bS_gather 90 = .ok (.iastore, 1) := by decide +kernel
theorem dS_gather_91 : decode bS_gather 91 = .ok (.aload_n 0, 1) := by decide +kernel
theorem dS_gather_92 : decode bS_gather 92 = .ok (.dup, 1) := by decide +kernel
theorem dS_gather_93 : decode bS_gather 93 = .ok (.getfield 28, 3) := by decide +kernel
theorem dS_gather_96 : decode bS_gather 96 = .ok (.iconst 1, 1) := by decide +kernel
theorem dS_gather_97 : decode bS_gather 97 = .ok (.iadd, 1) := by decide +kernel
theorem dS_gather_98 : decode bS_gather 98 = .ok (.putfield 28, 3) := by decide +kernel
theorem dS_gather_101 : decode bS_gather 101 = .ok (.iinc 1 1, 3) := by decide +kernel
theorem dS_gather_104 : decode bS_gather 104 = .ok (.goto (-39), 3) := by decide +kernel
theorem dS_gather_107 : decode bS_gather 107 = .ok (.return_, 1) := by decide +kernel
theorem dS_share_0 : decode bS_share 0 = .ok (.aload_n 0, 1) := by decide +kernel
theorem dS_share_1 : decode bS_share 1 = .ok (.getfield 39, 3) := by decide +kernel
theorem dS_share_4 : decode bS_share 4 = .ok (.invokevirtual 100, 3) := by decide +kernel
theorem dS_share_7 : decode bS_share 7 = .ok (.iconst 0, 1) := by decide +kernel
theorem dS_share_8 : decode bS_share 8 = .ok (.istore_n 2, 1) := by decide +kernel
theorem dS_share_9 : decode bS_share 9 = .ok (.iload_n 2, 1) := by decide +kernel
theorem dS_share_10 : decode bS_share 10 = .ok (.aload_n 0, 1) := by decide +kernel
theorem dS_share_11 : decode bS_share 11 = .ok (.getfield 24, 3) := by decide +kernel
theorem dS_share_14 : decode bS_share 14 = .ok (.if_icmp .ge 52, 3) := by decide +kernel
theorem dS_share_17 : decode bS_share 17 = .ok (.iload_n 2, 1) := by decide +kernel
theorem dS_share_18 : decode bS_share 18 = .ok (.aload_n 1, 1) := by decide +kernel
theorem dS_share_19 : decode bS_share 19 = .ok (.arraylength, 1) := by decide +kernel
theorem dS_share_20 : decode bS_share 20 = .ok (.if_icmp .ge 46, 3) := by decide +kernel
theorem dS_share_23 : decode bS_share 23 = .ok (.aload_n 1, 1) := by decide +kernel
theorem dS_share_24 : decode bS_share 24 = .ok (.iload_n 2, 1) := by decide +kernel
theorem dS_share_25 : decode bS_share 25 = .ok (.iaload, 1) := by decide +kernel
theorem dS_share_26 : decode bS_share 26 = .ok (.ifCond .lt 34, 3) := by decide +kernel
theorem dS_share_29 : decode bS_share 29 = .ok (.aload_n 1, 1) := by decide +kernel
theorem dS_share_30 : decode bS_share 30 = .ok (.iload_n 2, 1) := by decide +kernel
theorem dS_share_31 : decode bS_share 31 = .ok (.iaload, 1) := by decide +kernel
theorem dS_share_32 : decode bS_share 32 = .ok (.aload_n 0, 1) := by decide +kernel
theorem dS_share_33 : decode bS_share 33 = .ok (.getfield 28, 3) := by decide +kernel
theorem dS_share_36 : decode bS_share 36 = .ok (.if_icmp .ge 24, 3) := by decide +kernel
theorem dS_share_39 : decode bS_share 39 = .ok (.aload_n 0, 1) := by decide +kernel
theorem dS_share_40 : decode bS_share 40 = .ok (.getfield 39, 3) := by decide +kernel
theorem dS_share_43 : decode bS_share 43 = .ok (.aload_n 0, 1) := by decide +kernel
theorem dS_share_44 : decode bS_share 44 = .ok (.getfield 9, 3) := by decide +kernel
theorem dS_share_47 : decode bS_share 47 = .ok (.iload_n 2, 1) := by decide +kernel
theorem dS_share_48 : decode bS_share 48 = .ok (.iaload, 1) := by decide +kernel
theorem dS_share_49 : decode bS_share 49 = .ok (.aload_n 0, 1) := by decide +kernel
theorem dS_share_50 : decode bS_share 50 = .ok (.getfield 15, 3) := by decide +kernel
theorem dS_share_53 : decode bS_share 53 = .ok (.aload_n 1, 1) := by decide +kernel
theorem dS_share_54 : decode bS_share 54 = .ok (.iload_n 2, 1) := by decide +kernel
theorem dS_share_55 : decode bS_share 55 = .ok (.iaload, 1) := by decide +kernel
theorem dS_share_56 : decode bS_share 56 = .ok (.iaload, 1) := by decide +kernel
theorem dS_share_57 : decode bS_share 57 = .ok (.invokevirtual 103, 3) := by decide +kernel
theorem dS_share_60 : decode bS_share 60 = .ok (.iinc 2 1, 3) := by decide +kernel
theorem dS_share_63 : decode bS_share 63 = .ok (.goto (-54), 3) := by decide +kernel
theorem dS_share_66 : decode bS_share 66 = .ok (.return_, 1) := by decide +kernel
theorem dS_nextChoice_0 : decode bS_nextChoice 0 = .ok (.aload_n 0, 1) := by decide +kernel
theorem dS_nextChoice_1 : decode bS_nextChoice 1 = .ok (.getfield 24, 3) := by decide +kernel
theorem dS_nextChoice_4 : decode bS_nextChoice 4 = .ok (.iconst 1, 1) := by decide +kernel
theorem dS_nextChoice_5 : decode bS_nextChoice 5 = .ok (.isub, 1) := by decide +kernel
theorem dS_nextChoice_6 : decode bS_nextChoice 6 = .ok (.istore_n 1, 1) := by decide +kernel
theorem dS_nextChoice_7 : decode bS_nextChoice 7 = .ok (.iload_n 1, 1) := by decide +kernel
theorem dS_nextChoice_8 : decode bS_nextChoice 8 = .ok (.ifCond .lt 58, 3) := by decide +kernel
theorem dS_nextChoice_11 : decode bS_nextChoice 11 = .ok (.aload_n 0, 1) := by decide +kernel
theorem dS_nextChoice_12 : decode bS_nextChoice 12 = .ok (.getfield 18, 3) := by decide +kernel
theorem dS_nextChoice_15 : decode bS_nextChoice 15 = .ok (.iload_n 1, 1) := by decide +kernel
theorem dS_nextChoice_16 : decode bS_nextChoice 16 = .ok (.iaload, 1) := by decide +kernel
theorem dS_nextChoice_17 : decode bS_nextChoice 17 = .ok (.aload_n 0, 1) := by decide +kernel
theorem dS_nextChoice_18 : decode bS_nextChoice 18 = .ok (.getfield 28, 3) := by decide +kernel
theorem dS_nextChoice_21 : decode bS_nextChoice 21 = .ok (.iconst 1, 1) := by decide +kernel
theorem dS_nextChoice_22 : decode bS_nextChoice 22 = .ok (.isub, 1) := by decide +kernel
theorem dS_nextChoice_23 : decode bS_nextChoice 23 = .ok (.if_icmp .ge 37, 3) := by decide +kernel
theorem dS_nextChoice_26 : decode bS_nextChoice 26 = .ok (.aload_n 0, 1) := by decide +kernel
theorem dS_nextChoice_27 : decode bS_nextChoice 27 = .ok (.getfield 18, 3) := by decide +kernel
theorem dS_nextChoice_30 : decode bS_nextChoice 30 = .ok (.iload_n 1, 1) := by decide +kernel
theorem dS_nextChoice_31 : decode bS_nextChoice 31 = .ok (.iaload, 1) := by decide +kernel
theorem dS_nextChoice_32 : decode bS_nextChoice 32 = .ok (.iconst 1, 1) := by decide +kernel
theorem dS_nextChoice_33 : decode bS_nextChoice 33 = .ok (.iadd, 1) := by decide +kernel
theorem dS_nextChoice_34 : decode bS_nextChoice 34 = .ok (.istore_n 2, 1) := by decide +kernel
theorem dS_nextChoice_35 : decode bS_nextChoice 35 = .ok (.iload_n 1, 1) := by decide +kernel
theorem dS_nextChoice_36 : decode bS_nextChoice 36 = .ok (.istore_n 3, 1) := by decide +kernel
theorem dS_nextChoice_37 : decode bS_nextChoice 37 = .ok (.iload_n 3, 1) := by decide +kernel
theorem dS_nextChoice_38 : decode bS_nextChoice 38 = .ok (.aload_n 0, 1) := by decide +kernel
theorem dS_nextChoice_39 : decode bS_nextChoice 39 = .ok (.getfield 24, 3) := by decide +kernel
theorem dS_nextChoice_42 : decode bS_nextChoice 42 = .ok (.if_icmp .ge 16, 3) := by decide +kernel
theorem dS_nextChoice_45 : decode bS_nextChoice 45 = .ok (.aload_n 0, 1) := by decide +kernel
theorem dS_nextChoice_46 : decode bS_nextChoice 46 = .ok (.getfield 18, 3) := by decide +kernel
theorem dS_nextChoice_49 : decode bS_nextChoice 49 = .ok (.iload_n 3, 1) := by decide +kernel
theorem dS_nextChoice_50 : decode bS_nextChoice 50 = .ok (.iload_n 2, 1) := by decide +kernel
theorem dS_nextChoice_51 : decode bS_nextChoice 51 = .ok (.iastore, 1) := by decide +kernel
theorem dS_nextChoice_52 : decode bS_nextChoice 52 = .ok (.iinc 3 1, 3) := by decide +kernel
theorem dS_nextChoice_55 : decode bS_nextChoice 55 = .ok (.goto (-18), 3) := by decide +kernel
theorem dS_nextChoice_58 : decode bS_nextChoice 58 = .ok (.iconst 1, 1) := by decide +kernel
theorem dS_nextChoice_59 : decode bS_nextChoice 59 = .ok (.ireturn, 1) := by decide +kernel
theorem dS_nextChoice_60 : decode bS_nextChoice 60 = .ok (.iinc 1 (-1), 3) := by decide +kernel
theorem dS_nextChoice_63 : decode bS_nextChoice 63 = .ok (.goto (-56), 3) := by decide +kernel
theorem dS_nextChoice_66 : decode bS_nextChoice 66 = .ok (.iconst 0, 1) := by decide +kernel
theorem dS_nextChoice_67 : decode bS_nextChoice 67 = .ok (.ireturn, 1) := by decide +kernel
theorem dT_init_0 : decode bT_init 0 = .ok (.aload_n 0, 1) := by decide +kernel
theorem dT_init_1 : decode bT_init 1 = .ok (.invokespecial 3, 3) := by decide +kernel
theorem dT_init_4 : decode bT_init 4 = .ok (.aload_n 0, 1) := by decide +kernel
theorem dT_init_5 : decode bT_init 5 = .ok (.bipush 8, 2) := by decide +kernel
theorem dT_init_7 : decode bT_init 7 = .ok (.newarray .int, 2) := by decide +kernel
theorem dT_init_9 : decode bT_init 9 = .ok (.putfield 9, 3) := by decide +kernel
theorem dT_init_12 : decode bT_init 12 = .ok (.aload_n 0, 1) := by decide +kernel
theorem dT_init_13 : decode bT_init 13 = .ok (.bipush 8, 2) := by decide +kernel
theorem dT_init_15 : decode bT_init 15 = .ok (.newarray .int, 2) := by decide +kernel
theorem dT_init_17 : decode bT_init 17 = .ok (.putfield 15, 3) := by decide +kernel
theorem dT_init_20 : decode bT_init 20 = .ok (.aload_n 0, 1) := by decide +kernel
theorem dT_init_21 : decode bT_init 21 = .ok (.bipush 8, 2) := by decide +kernel
theorem dT_init_23 : decode bT_init 23 = .ok (.newarray .int, 2) := by decide +kernel
theorem dT_init_25 : decode bT_init 25 = .ok (.putfield 18, 3) := by decide +kernel
theorem dT_init_28 : decode bT_init 28 = .ok (.aload_n 0, 1) := by decide +kernel
theorem dT_init_29 : decode bT_init 29 = .ok (.iconst 4, 1) := by decide +kernel
theorem dT_init_30 : decode bT_init 30 = .ok (.newarray .int, 2) := by decide +kernel
theorem dT_init_32 : decode bT_init 32 = .ok (.putfield 21, 3) := by decide +kernel
theorem dT_init_35 : decode bT_init 35 = .ok (.aload_n 0, 1) := by decide +kernel
theorem dT_init_36 : decode bT_init 36 = .ok (.iconst 4, 1) := by decide +kernel
theorem dT_init_37 : decode bT_init 37 = .ok (.newarray .int, 2) := by decide +kernel
theorem dT_init_39 : decode bT_init 39 = .ok (.putfield 24, 3) := by decide +kernel
theorem dT_init_42 : decode bT_init 42 = .ok (.aload_n 0, 1) := by decide +kernel
theorem dT_init_43 : decode bT_init 43 = .ok (.iconst 4, 1) := by decide +kernel
theorem dT_init_44 : decode bT_init 44 = .ok (.bipush 8, 2) := by decide +kernel
theorem dT_init_46 : decode bT_init 46 = .ok (.multianewarray 27 2, 4) := by decide +kernel
theorem dT_init_50 : decode bT_init 50 = .ok (.putfield 29, 3) := by decide +kernel
theorem dT_init_53 : decode bT_init 53 = .ok (.aload_n 0, 1) := by decide +kernel
theorem dT_init_54 : decode bT_init 54 = .ok (.bipush 8, 2) := by decide +kernel
theorem dT_init_56 : decode bT_init 56 = .ok (.newarray .int, 2) := by decide +kernel
theorem dT_init_58 : decode bT_init 58 = .ok (.putfield 32, 3) := by decide +kernel
theorem dT_init_61 : decode bT_init 61 = .ok (.aload_n 0, 1) := by decide +kernel
theorem dT_init_62 : decode bT_init 62 = .ok (.iconst 0, 1) := by decide +kernel
theorem dT_init_63 : decode bT_init 63 = .ok (.putfield 35, 3) := by decide +kernel
theorem dT_init_66 : decode bT_init 66 = .ok (.aload_n 0, 1) := by decide +kernel
theorem dT_init_67 : decode bT_init 67 = .ok (.iconst 0, 1) := by decide +kernel
theorem dT_init_68 : decode bT_init 68 = .ok (.putfield 39, 3) := by decide +kernel
theorem dT_init_71 : decode bT_init 71 = .ok (.aload_n 0, 1) := by decide +kernel
theorem dT_init_72 : decode bT_init 72 = .ok (.iconst 0, 1) := by decide +kernel
theorem dT_init_73 : decode bT_init 73 = .ok (.putfield 42, 3) := by decide +kernel
theorem dT_init_76 : decode bT_init 76 = .ok (.aload_n 0, 1) := by decide +kernel
theorem dT_init_77 : decode bT_init 77 = .ok (.aload_n 1, 1) := by decide +kernel
theorem dT_init_78 : decode bT_init 78 = .ok (.putfield 45, 3) := by decide +kernel
theorem dT_init_81 : decode bT_init 81 = .ok (.aload_n 0, 1) := by decide +kernel
theorem dT_init_82 : decode bT_init 82 = .ok (.aload_n 2, 1) := by decide +kernel
theorem dT_init_83 : decode bT_init 83 = .ok (.putfield 49, 3) := by decide +kernel
theorem dT_init_86 : decode bT_init 86 = .ok (.return_, 1) := by decide +kernel
theorem dT_clear_0 : decode bT_clear 0 = .ok (.aload_n 0, 1) := by decide +kernel
theorem dT_clear_1 : decode bT_clear 1 = .ok (.getfield 9, 3) := by decide +kernel
theorem dT_clear_4 : decode bT_clear 4 = .ok (.iconst (-1), 1) := by decide +kernel
theorem dT_clear_5 : decode bT_clear 5 = .ok (.invokestatic 53, 3) := by decide +kernel
theorem dT_clear_8 : decode bT_clear 8 = .ok (.aload_n 0, 1) := by decide +kernel
theorem dT_clear_9 : decode bT_clear 9 = .ok (.getfield 21, 3) := by decide +kernel
theorem dT_clear_12 : decode bT_clear 12 = .ok (.iconst (-1), 1) := by decide +kernel
theorem dT_clear_13 : decode bT_clear 13 = .ok (.invokestatic 53, 3) := by decide +kernel
theorem dT_clear_16 : decode bT_clear 16 = .ok (.aload_n 0, 1) := by decide +kernel
theorem dT_clear_17 : decode bT_clear 17 = .ok (.getfield 24, 3) := by decide +kernel
theorem dT_clear_20 : decode bT_clear 20 = .ok (.iconst (-1), 1) := by decide +kernel
theorem dT_clear_21 : decode bT_clear 21 = .ok (.invokestatic 53, 3) := by decide +kernel
theorem dT_clear_24 : decode bT_clear 24 = .ok (.aload_n 0, 1) := by decide +kernel
theorem dT_clear_25 : decode bT_clear 25 = .ok (.iconst 0, 1) := by decide +kernel
theorem dT_clear_26 : decode bT_clear 26 = .ok (.putfield 35, 3) := by decide +kernel
theorem dT_clear_29 : decode bT_clear 29 = .ok (.aload_n 0, 1) := by decide +kernel
theorem dT_clear_30 : decode bT_clear 30 = .ok (.iconst 0, 1) := by decide +kernel
theorem dT_clear_31 : decode bT_clear 31 = .ok (.putfield 39, 3) := by decide +kernel
theorem dT_clear_34 : decode bT_clear 34 = .ok (.aload_n 0, 1) := by decide +kernel
theorem dT_clear_35 : decode bT_clear 35 = .ok (.iconst 0, 1) := by decide +kernel
theorem dT_clear_36 : decode bT_clear 36 = .ok (.putfield 42, 3) := by decide +kernel
theorem dT_clear_39 : decode bT_clear 39 = .ok (.return_, 1) := by decide +kernel
theorem dT_give_0 : decode bT_give 0 = .ok (.aload_n 0, 1) := by decide +kernel
theorem dT_give_1 : decode bT_give 1 = .ok (.getfield 45, 3) := by decide +kernel
theorem dT_give_4 : decode bT_give 4 = .ok (.iload_n 1, 1) := by decide +kernel
theorem dT_give_5 : decode bT_give 5 = .ok (.invokevirtual 59, 3) := by decide +kernel
theorem dT_give_8 : decode bT_give 8 = .ok (.ifCond .eq 14, 3) := by decide +kernel
theorem dT_give_11 : decode bT_give 11 = .ok (.aload_n 0, 1) := by decide +kernel
theorem dT_give_12 : decode bT_give 12 = .ok (.getfield 49, 3) := by decide +kernel
theorem dT_give_15 : decode bT_give 15 = .ok (.iload_n 2, 1) := by decide +kernel
theorem dT_give_16 : decode bT_give 16 = .ok (.invokevirtual 65, 3) := by decide +kernel
theorem dT_give_19 : decode bT_give 19 = .ok (.ifCond .ne 4, 3) := by decide +kernel
theorem dT_give_22 : decode bT_give 22 = .ok (.return_, 1) := by decide +kernel
theorem dT_give_23 : decode bT_give 23 = .ok (.aload_n 0, 1) := by decide +kernel
theorem dT_give_24 : decode bT_give 24 = .ok (.getfield 9, 3) := by decide +kernel
theorem dT_give_27 : decode bT_give 27 = .ok (.iload_n 1, 1) := by decide +kernel
theorem dT_give_28 : decode bT_give 28 = .ok (.iload_n 2, 1) := by decide +kernel
theorem dT_give_29 : decode bT_give 29 = .ok (.iastore, 1) := by decide +kernel
theorem dT_give_30 : decode bT_give 30 = .ok (.aload_n 0, 1) := by decide +kernel
theorem dT_give_31 : decode bT_give 31 = .ok (.getfield 21, 3) := by decide +kernel
theorem dT_give_34 : decode bT_give 34 = .ok (.iload_n 2, 1) := by decide +kernel
theorem dT_give_35 : decode bT_give 35 = .ok (.iaload, 1) := by decide +kernel
theorem dT_give_36 : decode bT_give 36 = .ok (.iconst (-1), 1) := by decide +kernel
theorem dT_give_37 : decode bT_give 37 = .ok (.if_icmp .ne 13, 3) := by decide +kernel
theorem dT_give_40 : decode bT_give 40 = .ok (.aload_n 0, 1) := by decide +kernel
theorem dT_give_41 : decode bT_give 41 = .ok (.getfield 21, 3) := by decide +kernel
theorem dT_give_44 : decode bT_give 44 = .ok (.iload_n 2, 1) := by decide +kernel
theorem dT_give_45 : decode bT_give 45 = .ok (.iload_n 1, 1) := by decide +kernel
theorem dT_give_46 : decode bT_give 46 = .ok (.iastore, 1) := by decide +kernel
theorem dT_give_47 : decode bT_give 47 = .ok (.goto 20, 3) := by decide +kernel
theorem dT_give_50 : decode bT_give 50 = .ok (.aload_n 0, 1) := by decide +kernel
theorem dT_give_51 : decode bT_give 51 = .ok (.dup, 1) := by decide +kernel
theorem dT_give_52 : decode bT_give 52 = .ok (.getfield 42, 3) := by decide +kernel
theorem dT_give_55 : decode bT_give 55 = .ok (.iload_n 1, 1) := by decide +kernel
theorem dT_give_56 : decode bT_give 56 = .ok (.aload_n 0, 1) := by decide +kernel
theorem dT_give_57 : decode bT_give 57 = .ok (.getfield 24, 3) := by decide +kernel
theorem dT_give_60 : decode bT_give 60 = .ok (.iload_n 2, 1) := by decide +kernel
theorem dT_give_61 : decode bT_give 61 = .ok (.iaload, 1) := by decide +kernel
theorem dT_give_62 : decode bT_give 62 = .ok (.isub, 1) := by decide +kernel
theorem dT_give_63 : decode bT_give 63 = .ok (.iadd, 1) := by decide +kernel
theorem dT_give_64 : decode bT_give 64 = .ok (.putfield 42, 3) := by decide +kernel
theorem dT_give_67 : decode bT_give 67 = .ok (.aload_n 0, 1) := by decide +kernel
theorem dT_give_68 : decode bT_give 68 = .ok (.getfield 24, 3) := by decide +kernel
theorem dT_give_71 : decode bT_give 71 = .ok (.iload_n 2, 1) := by decide +kernel
theorem dT_give_72 : decode bT_give 72 = .ok (.iload_n 1, 1) := by decide +kernel
theorem dT_give_73 : decode bT_give 73 = .ok (.iastore, 1) := by decide +kernel
theorem dT_give_74 : decode bT_give 74 = .ok (.return_, 1) := by decide +kernel
theorem dT_keepsApart_0 : decode bT_keepsApart 0 = .ok (.iconst (-1), 1) := by decide +kernel
theorem dT_keepsApart_1 : decode bT_keepsApart 1 = .ok (.istore_n 1, 1) := by decide +kernel
theorem dT_keepsApart_2 : decode bT_keepsApart 2 = .ok (.iconst 0, 1) := by decide +kernel
theorem dT_keepsApart_3 : decode bT_keepsApart 3 = .ok (.istore_n 2, 1) := by decide +kernel
theorem dT_keepsApart_4 : decode bT_keepsApart 4 = .ok (.iload_n 2, 1) := by decide +kernel
theorem dT_keepsApart_5 : decode bT_keepsApart 5 = .ok (.iconst 4, 1) := by decide +kernel
theorem dT_keepsApart_6 : decode bT_keepsApart 6 = .ok (.if_icmp .ge 37, 3) := by decide +kernel
theorem dT_keepsApart_9 : decode bT_keepsApart 9 = .ok (.aload_n 0, 1) := by decide +kernel
theorem dT_keepsApart_10 : decode bT_keepsApart 10 = .ok (.getfield 21, 3) := by decide +kernel
theorem dT_keepsApart_13 : decode bT_keepsApart 13 = .ok (.iload_n 2, 1) := by decide +kernel
theorem dT_keepsApart_14 : decode bT_keepsApart 14 = .ok (.iaload, 1) := by decide +kernel
theorem dT_keepsApart_15 : decode bT_keepsApart 15 = .ok (.iconst (-1), 1) := by decide +kernel
theorem dT_keepsApart_16 : decode bT_keepsApart 16 = .ok (.if_icmp .eq 21, 3) := by decide +kernel
theorem dT_keepsApart_19 : decode bT_keepsApart 19 = .ok (.iload_n 1, 1) := by decide +kernel
theorem dT_keepsApart_20 : decode bT_keepsApart 20 = .ok (.iconst (-1), 1) := by decide +kernel
theorem dT_keepsApart_21 : decode bT_keepsApart 21 = .ok (.if_icmp .eq 14, 3) := by decide +kernel
theorem dT_keepsApart_24 : decode bT_keepsApart 24 = .ok (.aload_n 0, 1) := by decide +kernel
theorem dT_keepsApart_25 : decode bT_keepsApart 25 = .ok (.iload_n 1, 1) := by decide +kernel
theorem dT_keepsApart_26 : decode bT_keepsApart 26 = .ok (.iload_n 2, 1) := by decide +kernel
theorem dT_keepsApart_27 : decode bT_keepsApart 27 = .ok (.invokevirtual 68, 3) := by decide +kernel
theorem dT_keepsApart_30 : decode bT_keepsApart 30 = .ok (.ifCond .eq 5, 3) := by decide +kernel
theorem dT_keepsApart_33 : decode bT_keepsApart 33 = .ok (.iconst 0, 1) := by decide +kernel
theorem dT_keepsApart_34 : decode bT_keepsApart 34 = .ok (.ireturn, 1) := by decide +kernel
theorem dT_keepsApart_35 : decode bT_keepsApart 35 = .ok (.iload_n 2, 1) := by decide +kernel
theorem dT_keepsApart_36 : decode bT_keepsApart 36 = .ok (.istore_n 1, 1) := by decide +kernel
theorem dT_keepsApart_37 : decode bT_keepsApart 37 = .ok (.iinc 2 1, 3) := by decide +kernel
theorem dT_keepsApart_40 : decode bT_keepsApart 40 = .ok (.goto (-36), 3) := by decide +kernel
theorem dT_keepsApart_43 : decode bT_keepsApart 43 = .ok (.iconst 1, 1) := by decide +kernel
theorem dT_keepsApart_44 : decode bT_keepsApart 44 = .ok (.ireturn, 1) := by decide +kernel
theorem dT_tooNear_0 : decode bT_tooNear 0 = .ok (.aload_n 0, 1) := by decide +kernel
theorem dT_tooNear_1 : decode bT_tooNear 1 = .ok (.getfield 21, 3) := by decide +kernel
theorem dT_tooNear_4 : decode bT_tooNear 4 = .ok (.iload_n 2, 1) := by decide +kernel
theorem dT_tooNear_5 : decode bT_tooNear 5 = .ok (.iaload, 1) := by decide +kernel
theorem dT_tooNear_6 : decode bT_tooNear 6 = .ok (.aload_n 0, 1) := by decide +kernel
theorem dT_tooNear_7 : decode bT_tooNear 7 = .ok (.getfield 21, 3) := by decide +kernel
theorem dT_tooNear_10 : decode bT_tooNear 10 = .ok (.iload_n 1, 1) := by decide +kernel
theorem dT_tooNear_11 : decode bT_tooNear 11 = .ok (.iaload, 1) := by decide +kernel
theorem dT_tooNear_12 : decode bT_tooNear 12 = .ok (.isub, 1) := by decide +kernel
theorem dT_tooNear_13 : decode bT_tooNear 13 = .ok (.aload_n 0, 1) := by decide +kernel
theorem dT_tooNear_14 : decode bT_tooNear 14 = .ok (.getfield 49, 3) := by decide +kernel
theorem dT_tooNear_17 : decode bT_tooNear 17 = .ok (.getfield 72, 3) := by decide +kernel
theorem dT_tooNear_20 : decode bT_tooNear 20 = .ok (.if_icmp .le 26, 3) := by decide +kernel
theorem dT_tooNear_23 : decode bT_tooNear 23 = .ok (.aload_n 0, 1) := by decide +kernel
theorem dT_tooNear_24 : decode bT_tooNear 24 = .ok (.getfield 24, 3) := by decide +kernel
theorem dT_tooNear_27 : decode bT_tooNear 27 = .ok (.iload_n 2, 1) := by decide +kernel
theorem dT_tooNear_28 : decode bT_tooNear 28 = .ok (.iaload, 1) := by decide +kernel
theorem dT_tooNear_29 : decode bT_tooNear 29 = .ok (.aload_n 0, 1) := by decide +kernel
theorem dT_tooNear_30 : decode bT_tooNear 30 = .ok (.getfield 24, 3) := by decide +kernel
theorem dT_tooNear_33 : decode bT_tooNear 33 = .ok (.iload_n 1, 1) := by decide +kernel
theorem dT_tooNear_34 : decode bT_tooNear 34 = .ok (.iaload, 1) := by decide +kernel
theorem dT_tooNear_35 : decode bT_tooNear 35 = .ok (.isub, 1) := by decide +kernel
theorem dT_tooNear_36 : decode bT_tooNear 36 = .ok (.aload_n 0, 1) := by decide +kernel
theorem dT_tooNear_37 : decode bT_tooNear 37 = .ok (.getfield 49, 3) := by decide +kernel
theorem dT_tooNear_40 : decode bT_tooNear 40 = .ok (.getfield 72, 3) := by decide +kernel
theorem dT_tooNear_43 : decode bT_tooNear 43 = .ok (.if_icmp .gt 7, 3) := by decide +kernel
theorem dT_tooNear_46 : decode bT_tooNear 46 = .ok (.iconst 1, 1) := by decide +kernel
theorem dT_tooNear_47 : decode bT_tooNear 47 = .ok (.goto 4, 3) := by decide +kernel
theorem dT_tooNear_50 : decode bT_tooNear 50 = .ok (.iconst 0, 1) := by decide +kernel
theorem dT_tooNear_51 : decode bT_tooNear 51 = .ok (.ireturn, 1) := by decide +kernel
theorem dT_setTimes_0 : decode bT_setTimes 0 = .ok (.iconst (-1), 1) := by decide +kernel
theorem dT_setTimes_1 : decode bT_setTimes 1 = .ok (.istore_n 1, 1) := by decide +kernel
theorem dT_setTimes_2 : decode bT_setTimes 2 = .ok (.iconst 3, 1) := by decide +kernel
theorem dT_setTimes_3 : decode bT_setTimes 3 = .ok (.istore_n 2, 1) := by decide +kernel
theorem dT_setTimes_4 : decode bT_setTimes 4 = .ok (.iload_n 2, 1) := by decide +kernel
theorem dT_setTimes_5 : decode bT_setTimes 5 = .ok (.ifCond .lt 27, 3) := by decide +kernel
theorem dT_setTimes_8 : decode bT_setTimes 8 = .ok (.aload_n 0, 1) := by decide +kernel
theorem dT_setTimes_9 : decode bT_setTimes 9 = .ok (.getfield 21, 3) := by decide +kernel
theorem dT_setTimes_12 : decode bT_setTimes 12 = .ok (.iload_n 2, 1) := by decide +kernel
theorem dT_setTimes_13 : decode bT_setTimes 13 = .ok (.iaload, 1) := by decide +kernel
theorem dT_setTimes_14 : decode bT_setTimes 14 = .ok (.iconst (-1), 1) := by decide +kernel
theorem dT_setTimes_15 : decode bT_setTimes 15 = .ok (.if_icmp .eq 11, 3) := by decide +kernel
theorem dT_setTimes_18 : decode bT_setTimes 18 = .ok (.aload_n 0, 1) := by decide +kernel
theorem dT_setTimes_19 : decode bT_setTimes 19 = .ok (.iload_n 2, 1) := by decide +kernel
theorem dT_setTimes_20 : decode bT_setTimes 20 = .ok (.iload_n 1, 1) := by decide +kernel
theorem dT_setTimes_21 : decode bT_setTimes 21 = .ok (.invokevirtual 75, 3) := by decide +kernel
theorem dT_setTimes_24 : decode bT_setTimes 24 = .ok (.iload_n 2, 1) := by decide +kernel
theorem dT_setTimes_25 : decode bT_setTimes 25 = .ok (.istore_n 1, 1) := by decide +kernel
theorem dT_setTimes_26 : decode bT_setTimes 26 = .ok (.iinc 2 (-1), 3) := by decide +kernel
theorem dT_setTimes_29 : decode bT_setTimes 29 = .ok (.goto (-25), 3) := by decide +kernel
theorem dT_setTimes_32 : decode bT_setTimes 32 = .ok (.return_, 1) := by decide +kernel
theorem dT_setTimesOf_0 : decode bT_setTimesOf 0 = .ok (.iconst 0, 1) := by decide +kernel
theorem dT_setTimesOf_1 : decode bT_setTimesOf 1 = .ok (.istore_n 3, 1) := by decide +kernel
theorem dT_setTimesOf_2 : decode bT_setTimesOf 2 = .ok (.iconst 0, 1) := by decide +kernel
theorem dT_setTimesOf_3 : decode bT_setTimesOf 3 = .ok (.aload_n 0, 1) := by decide +kernel
theorem dT_setTimesOf_4 : decode bT_setTimesOf 4 = .ok (.getfield 21, 3) := by decide +kernel
theorem dT_setTimesOf_7 : decode bT_setTimesOf 7 = .ok (.iload_n 1, 1) := by decide +kernel
theorem dT_setTimesOf_8 : decode bT_setTimesOf 8 = .ok (.iaload, 1) := by decide +kernel
theorem dT_setTimesOf_9 : decode bT_setTimesOf 9 = .ok (.invokestatic 79, 3) := by decide +kernel
theorem dT_setTimesOf_12 : decode bT_setTimesOf 12 = .ok (.istore 4, 2) := by decide +kernel
theorem dT_setTimesOf_14 : decode bT_setTimesOf 14 = .ok (.iload 4, 2) := by decide +kernel
theorem dT_setTimesOf_16 : decode bT_setTimesOf 16 = .ok (.aload_n 0, 1) := by decide +kernel
theorem dT_setTimesOf_17 : decode bT_setTimesOf 17 = .ok (.getfield 24, 3) := by decide +kernel
theorem dT_setTimesOf_20 : decode bT_setTimesOf 20 = .ok (.iload_n 1, 1) := by decide +kernel
theorem dT_setTimesOf_21 : decode bT_setTimesOf 21 = .ok (.iaload, 1) := by decide +kernel
theorem dT_setTimesOf_22 : decode bT_setTimesOf 22 = .ok (.if_icmp .gt 115, 3) := by decide +kernel
theorem dT_setTimesOf_25 : decode bT_setTimesOf 25 = .ok (.iload 4, 2) := by decide +kernel
theorem dT_setTimesOf_27 : decode bT_setTimesOf 27 = .ok (.bipush 8, 2) := by decide +kernel
theorem dT_setTimesOf_29 : decode bT_setTimesOf 29 = .ok (.if_icmp .ge 108, 3) := by decide +kernel
theorem dT_setTimesOf_32 : decode bT_setTimesOf 32 = .ok (.aload_n 0, 1) := by decide +kernel
theorem dT_setTimesOf_33 : decode bT_setTimesOf 33 = .ok (.getfield 29, 3) := by decide +kernel
theorem dT_setTimesOf_36 : decode bT_setTimesOf 36 = .ok (.iload_n 1, 1) := by decide +kernel
theorem dT_setTimesOf_37 : decode bT_setTimesOf 37 = .ok (.aaload, 1) := by decide +kernel
theorem dT_setTimesOf_38 : decode bT_setTimesOf 38 = .ok (.iload 4, 2) := by decide +kernel
theorem dT_setTimesOf_40 : decode bT_setTimesOf 40 = .ok (.iload_n 3, 1) := by decide +kernel
theorem dT_setTimesOf_41 : decode bT_setTimesOf 41 = .ok (.iastore, 1) := by decide +kernel
theorem dT_setTimesOf_42 : decode bT_setTimesOf 42 = .ok (.aload_n 0, 1) := by decide +kernel
theorem dT_setTimesOf_43 : decode bT_setTimesOf 43 = .ok (.getfield 9, 3) := by decide +kernel
theorem dT_setTimesOf_46 : decode bT_setTimesOf 46 = .ok (.iload 4, 2) := by decide +kernel
theorem dT_setTimesOf_48 : decode bT_setTimesOf 48 = .ok (.iaload, 1) := by decide +kernel
theorem dT_setTimesOf_49 : decode bT_setTimesOf 49 = .ok (.iload_n 1, 1) := by decide +kernel
theorem dT_setTimesOf_50 : decode bT_setTimesOf 50 = .ok (.if_icmp .ne 51, 3) := by decide +kernel
theorem dT_setTimesOf_53 : decode bT_setTimesOf 53 = .ok (.aload_n 0, 1) := by decide +kernel
theorem dT_setTimesOf_54 : decode bT_setTimesOf 54 = .ok (.getfield 15, 3) := by decide +kernel
theorem dT_setTimesOf_57 : decode bT_setTimesOf 57 = .ok (.iload 4, 2) := by decide +kernel
theorem dT_setTimesOf_59 : decode bT_setTimesOf 59 = .ok (.iload_n 3, 1) := by decide +kernel
theorem dT_setTimesOf_60 : decode bT_setTimesOf 60 = .ok (.iastore, 1) := by decide +kernel
theorem dT_setTimesOf_61 : decode bT_setTimesOf 61 = .ok (.iload_n 3, 1) := by decide +kernel
theorem dT_setTimesOf_62 : decode bT_setTimesOf 62 = .ok (.aload_n 0, 1) := by decide +kernel
theorem dT_setTimesOf_63 : decode bT_setTimesOf 63 = .ok (.getfield 49, 3) := by decide +kernel
theorem dT_setTimesOf_66 : decode bT_setTimesOf 66 = .ok (.iload_n 1, 1) := by decide +kernel
theorem dT_setTimesOf_67 : decode bT_setTimesOf 67 = .ok (.aload_n 0, 1) := by decide +kernel
theorem dT_setTimesOf_68 : decode bT_setTimesOf 68 = .ok (.getfield 45, 3) := by decide +kernel
theorem dT_setTimesOf_71 : decode bT_setTimesOf 71 = .ok (.iload 4, 2) := by decide +kernel
theorem dT_setTimesOf_73 : decode bT_setTimesOf 73 = .ok (.invokevirtual 85, 3) := by decide +kernel
theorem dT_setTimesOf_76 : decode bT_setTimesOf 76 = .ok (.invokevirtual 89, 3) := by decide +kernel
theorem dT_setTimesOf_79 : decode bT_setTimesOf 79 = .ok (.iadd, 1) := by decide +kernel
theorem dT_setTimesOf_80 : decode bT_setTimesOf 80 = .ok (.istore_n 3, 1) := by decide +kernel
theorem dT_setTimesOf_81 : decode bT_setTimesOf 81 = .ok (.aload_n 0, 1) := by decide +kernel
theorem dT_setTimesOf_82 : decode bT_setTimesOf 82 = .ok (.getfield 18, 3) := by decide +kernel
theorem dT_setTimesOf_85 : decode bT_setTimesOf 85 = .ok (.iload 4, 2) := by decide +kernel
theorem dT_setTimesOf_87 : decode bT_setTimesOf 87 = .ok (.iload_n 3, 1) := by decide +kernel
theorem dT_setTimesOf_88 : decode bT_setTimesOf 88 = .ok (.iastore, 1) := by decide +kernel
theorem dT_setTimesOf_89 : decode bT_setTimesOf 89 = .ok (.aload_n 0, 1) := by decide +kernel
theorem dT_setTimesOf_90 : decode bT_setTimesOf 90 = .ok (.aload_n 0, 1) := by decide +kernel
theorem dT_setTimesOf_91 : decode bT_setTimesOf 91 = .ok (.getfield 39, 3) := by decide +kernel
theorem dT_setTimesOf_94 : decode bT_setTimesOf 94 = .ok (.iload_n 3, 1) := by decide +kernel
theorem dT_setTimesOf_95 : decode bT_setTimesOf 95 = .ok (.invokestatic 79, 3) := by decide +kernel
theorem dT_setTimesOf_98 : decode bT_setTimesOf 98 = .ok (.putfield 39, 3) := by decide +kernel
theorem dT_setTimesOf_101 : decode bT_setTimesOf 101 = .ok (.iload_n 3, 1) := by decide +kernel
theorem dT_setTimesOf_102 : decode bT_setTimesOf 102 = .ok (.aload_n 0, 1) := by decide +kernel
theorem dT_setTimesOf_103 : decode bT_setTimesOf 103 = .ok (.iload_n 2, 1) := by decide +kernel
theorem dT_setTimesOf_104 : decode bT_setTimesOf 104 = .ok (.iload 4, 2) := by decide +kernel
theorem dT_setTimesOf_106 : decode bT_setTimesOf 106 = .ok (.iconst 2, 1) := by decide +kernel
theorem dT_setTimesOf_107 : decode bT_setTimesOf 107 = .ok (.iadd, 1) := by decide +kernel
theorem dT_setTimesOf_108 : decode bT_setTimesOf 108 = .ok (.aload_n 0, 1) := by decide +kernel
theorem dT_setTimesOf_109 : decode bT_setTimesOf 109 = .ok (.getfield 49, 3) := by decide +kernel
theorem dT_setTimesOf_112 : decode bT_setTimesOf 112 = .ok (.getfield 72, 3) := by decide +kernel
theorem dT_setTimesOf_115 : decode bT_setTimesOf 115 = .ok (.iadd, 1) := by decide +kernel
theorem dT_setTimesOf_116 : decode bT_setTimesOf 116 = .ok (.invokevirtual 92, 3) := by decide +kernel
theorem dT_setTimesOf_119 : decode bT_setTimesOf 119 = .ok (.invokestatic 79, 3) := by decide +kernel
theorem dT_setTimesOf_122 : decode bT_setTimesOf 122 = .ok (.aload_n 0, 1) := by decide +kernel
theorem dT_setTimesOf_123 : decode bT_setTimesOf 123 = .ok (.getfield 49, 3) := by decide +kernel
theorem dT_setTimesOf_126 : decode bT_setTimesOf 126 = .ok (.getfield 95, 3) := by decide +kernel
theorem dT_setTimesOf_129 : decode bT_setTimesOf 129 = .ok (.iadd, 1) := by decide +kernel
theorem dT_setTimesOf_130 : decode bT_setTimesOf 130 = .ok (.istore_n 3, 1) := by decide +kernel
theorem dT_setTimesOf_131 : decode bT_setTimesOf 131 = .ok (.iinc 4 1, 3) := by decide +kernel
theorem dT_setTimesOf_134 : decode bT_setTimesOf 134 = .ok (.goto (-120), 3) := by decide +kernel
theorem dT_setTimesOf_137 : decode bT_setTimesOf 137 = .ok (.return_, 1) := by decide +kernel
theorem dT_whenCame_0 : decode bT_whenCame 0 = .ok (.aload_n 0, 1) := by decide +kernel
theorem dT_whenCame_1 : decode bT_whenCame 1 = .ok (.getfield 49, 3) := by decide +kernel
theorem dT_whenCame_4 : decode bT_whenCame 4 = .ok (.iload_n 1, 1) := by decide +kernel
theorem dT_whenCame_5 : decode bT_whenCame 5 = .ok (.invokevirtual 65, 3) := by decide +kernel
theorem dT_whenCame_8 : decode bT_whenCame 8 = .ok (.ifCond .eq 29, 3) := by decide +kernel
theorem dT_whenCame_11 : decode bT_whenCame 11 = .ok (.iload_n 2, 1) := by decide +kernel
theorem dT_whenCame_12 : decode bT_whenCame 12 = .ok (.aload_n 0, 1) := by decide +kernel
theorem dT_whenCame_13 : decode bT_whenCame 13 = .ok (.getfield 21, 3) := by decide +kernel
theorem dT_whenCame_16 : decode bT_whenCame 16 = .ok (.iload_n 1, 1) := by decide +kernel
theorem dT_whenCame_17 : decode bT_whenCame 17 = .ok (.iaload, 1) := by decide +kernel
theorem dT_whenCame_18 : decode bT_whenCame 18 = .ok (.if_icmp .le 19, 3) := by decide +kernel
theorem dT_whenCame_21 : decode bT_whenCame 21 = .ok (.iload_n 2, 1) := by decide +kernel
theorem dT_whenCame_22 : decode bT_whenCame 22 = .ok (.aload_n 0, 1) := by decide +kernel
theorem dT_whenCame_23 : decode bT_whenCame 23 = .ok (.getfield 24, 3) := by decide +kernel
theorem dT_whenCame_26 : decode bT_whenCame 26 = .ok (.iload_n 1, 1) := by decide +kernel
theorem dT_whenCame_27 : decode bT_whenCame 27 = .ok (.iaload, 1) := by decide +kernel
theorem dT_whenCame_28 : decode bT_whenCame 28 = .ok (.if_icmp .gt 9, 3) := by decide +kernel
theorem dT_whenCame_31 : decode bT_whenCame 31 = .ok (.iload_n 2, 1) := by decide +kernel
theorem dT_whenCame_32 : decode bT_whenCame 32 = .ok (.bipush 8, 2) := by decide +kernel
theorem dT_whenCame_34 : decode bT_whenCame 34 = .ok (.if_icmp .lt 5, 3) := by decide +kernel
theorem dT_whenCame_37 : decode bT_whenCame 37 = .ok (.iconst 0, 1) := by decide +kernel
theorem dT_whenCame_38 : decode bT_whenCame 38 = .ok (.ireturn, 1) := by decide +kernel
theorem dT_whenCame_39 : decode bT_whenCame 39 = .ok (.aload_n 0, 1) := by decide +kernel
theorem dT_whenCame_40 : decode bT_whenCame 40 = .ok (.getfield 29, 3) := by decide +kernel
theorem dT_whenCame_43 : decode bT_whenCame 43 = .ok (.iload_n 1, 1) := by decide +kernel
theorem dT_whenCame_44 : decode bT_whenCame 44 = .ok (.aaload, 1) := by decide +kernel
theorem dT_whenCame_45 : decode bT_whenCame 45 = .ok (.iload_n 2, 1) := by decide +kernel
theorem dT_whenCame_46 : decode bT_whenCame 46 = .ok (.iaload, 1) := by decide +kernel
theorem dT_whenCame_47 : decode bT_whenCame 47 = .ok (.ireturn, 1) := by decide +kernel
theorem dT_isBetterThan_0 : decode bT_isBetterThan 0 = .ok (.aload_n 0, 1) := by decide +kernel
theorem dT_isBetterThan_1 : decode bT_isBetterThan 1 = .ok (.getfield 39, 3) := by decide +kernel
theorem dT_isBetterThan_4 : decode bT_isBetterThan 4 = .ok (.iload_n 1, 1) := by decide +kernel
theorem dT_isBetterThan_5 : decode bT_isBetterThan 5 = .ok (.if_icmp .eq 19, 3) := by decide +kernel
theorem dT_isBetterThan_8 : decode bT_isBetterThan 8 = .ok (.aload_n 0, 1) := by decide +kernel
theorem dT_isBetterThan_9 : decode bT_isBetterThan 9 = .ok (.getfield 39, 3) := by decide +kernel
theorem dT_isBetterThan_12 : decode bT_isBetterThan 12 = .ok (.iload_n 1, 1) := by decide +kernel
theorem dT_isBetterThan_13 : decode bT_isBetterThan 13 = .ok (.if_icmp .ge 7, 3) := by decide +kernel
theorem dT_isBetterThan_16 : decode bT_isBetterThan 16 = .ok (.iconst 1, 1) := by decide +kernel
theorem dT_isBetterThan_17 : decode bT_isBetterThan 17 = .ok (.goto 20, 3) := by decide +kernel
theorem dT_isBetterThan_20 : decode bT_isBetterThan 20 = .ok (.iconst 0, 1) := by decide +kernel
theorem dT_isBetterThan_21 : decode bT_isBetterThan 21 = .ok (.goto 16, 3) := by decide +kernel
theorem dT_isBetterThan_24 : decode bT_isBetterThan 24 = .ok (.aload_n 0, 1) := by decide +kernel
theorem dT_isBetterThan_25 : decode bT_isBetterThan 25 = .ok (.getfield 42, 3) := by decide +kernel
theorem dT_isBetterThan_28 : decode bT_isBetterThan 28 = .ok (.iload_n 2, 1) := by decide +kernel
theorem dT_isBetterThan_29 : decode bT_isBetterThan 29 = .ok (.if_icmp .ge 7, 3) := by decide +kernel
theorem dT_isBetterThan_32 : decode bT_isBetterThan 32 = .ok (.iconst 1, 1) := by decide +kernel
theorem dT_isBetterThan_33 : decode bT_isBetterThan 33 = .ok (.goto 4, 3) := by decide +kernel
theorem dT_isBetterThan_36 : decode bT_isBetterThan 36 = .ok (.iconst 0, 1) := by decide +kernel
theorem dT_isBetterThan_37 : decode bT_isBetterThan 37 = .ok (.ireturn, 1) := by decide +kernel
theorem dT_sortRows_0 : decode bT_sortRows 0 = .ok (.aload_n 0, 1) := by decide +kernel
theorem dT_sortRows_1 : decode bT_sortRows 1 = .ok (.iconst 0, 1) := by decide +kernel
theorem dT_sortRows_2 : decode bT_sortRows 2 = .ok (.putfield 35, 3) := by decide +kernel
theorem dT_sortRows_5 : decode bT_sortRows 5 = .ok (.iconst 0, 1) := by decide +kernel
theorem dT_sortRows_6 : decode bT_sortRows 6 = .ok (.istore_n 1, 1) := by decide +kernel
theorem dT_sortRows_7 : decode bT_sortRows 7 = .ok (.iload_n 1, 1) := by decide +kernel
theorem dT_sortRows_8 : decode bT_sortRows 8 = .ok (.bipush 8, 2) := by decide +kernel
theorem dT_sortRows_10 : decode bT_sortRows 10 = .ok (.if_icmp .ge 81, 3) := by decide +kernel
theorem dT_sortRows_13 : decode bT_sortRows 13 = .ok (.aload_n 0, 1) := by decide +kernel
theorem dT_sortRows_14 : decode bT_sortRows 14 = .ok (.getfield 9, 3) := by decide +kernel
theorem dT_sortRows_17 : decode bT_sortRows 17 = .ok (.iload_n 1, 1) := by decide +kernel
theorem dT_sortRows_18 : decode bT_sortRows 18 = .ok (.iaload, 1) := by decide +kernel
theorem dT_sortRows_19 : decode bT_sortRows 19 = .ok (.iconst (-1), 1) := by decide +kernel
theorem dT_sortRows_20 : decode bT_sortRows 20 = .ok (.if_icmp .eq 65, 3) := by decide +kernel
theorem dT_sortRows_23 : decode bT_sortRows 23 = .ok (.aload_n 0, 1) := by decide +kernel
theorem dT_sortRows_24 : decode bT_sortRows 24 = .ok (.getfield 35, 3) := by decide +kernel
theorem dT_sortRows_27 : decode bT_sortRows 27 = .ok (.istore_n 2, 1) := by decide +kernel
theorem dT_sortRows_28 : decode bT_sortRows 28 = .ok (.iload_n 2, 1) := by decide +kernel
theorem dT_sortRows_29 : decode bT_sortRows 29 = .ok (.ifCond .le 39, 3) := by decide +kernel
theorem dT_sortRows_32 : decode bT_sortRows 32 = .ok (.aload_n 0, 1) := by decide +kernel
theorem dT_sortRows_33 : decode bT_sortRows 33 = .ok (.iload_n 1, 1) := by decide +kernel
theorem dT_sortRows_34 : decode bT_sortRows 34 = .ok (.aload_n 0, 1) := by decide +kernel
theorem dT_sortRows_35 : decode bT_sortRows 35 = .ok (.getfield 32, 3) := by decide +kernel
theorem dT_sortRows_38 : decode bT_sortRows 38 = .ok (.iload_n 2, 1) := by decide +kernel
theorem dT_sortRows_39 : decode bT_sortRows 39 = .ok (.iconst 1, 1) := by decide +kernel
theorem dT_sortRows_40 : decode bT_sortRows 40 = .ok (.isub, 1) := by decide +kernel
theorem dT_sortRows_41 : decode bT_sortRows 41 = .ok (.iaload, 1) := by decide +kernel
theorem dT_sortRows_42 : decode bT_sortRows 42 = .ok (.invokevirtual 98, 3) := by decide +kernel
theorem dT_sortRows_45 : decode bT_sortRows 45 = .ok (.ifCond .eq 23, 3) := by decide +kernel
theorem dT_sortRows_48 : decode bT_sortRows 48 = .ok (.aload_n 0, 1) := by decide +kernel
theorem dT_sortRows_49 : decode bT_sortRows 49 = .ok (.getfield 32, 3) := by decide +kernel
theorem dT_sortRows_52 : decode bT_sortRows 52 = .ok (.iload_n 2, 1) := by decide +kernel
theorem dT_sortRows_53 : decode bT_sortRows 53 = .ok (.aload_n 0, 1) := by decide +kernel
theorem dT_sortRows_54 : decode bT_sortRows 54 = .ok (.getfield 32, 3) := by decide +kernel
theorem dT_sortRows_57 : decode bT_sortRows 57 = .ok (.iload_n 2, 1) := by decide +kernel
theorem dT_sortRows_58 : decode bT_sortRows 58 = .ok (.iconst 1, 1) := by decide +kernel
theorem dT_sortRows_59 : decode bT_sortRows 59 = .ok (.isub, 1) := by decide +kernel
theorem dT_sortRows_60 : decode bT_sortRows 60 = .ok (.iaload, 1) := by decide +kernel
theorem dT_sortRows_61 : decode bT_sortRows 61 = .ok (.iastore, 1) := by decide +kernel
theorem dT_sortRows_62 : decode bT_sortRows 62 = .ok (.iinc 2 (-1), 3) := by decide +kernel
theorem dT_sortRows_65 : decode bT_sortRows 65 = .ok (.goto (-37), 3) := by decide +kernel
theorem dT_sortRows_68 : decode bT_sortRows 68 = .ok (.aload_n 0, 1) := by decide +kernel
theorem dT_sortRows_69 : decode bT_sortRows 69 = .ok (.getfield 32, 3) := by decide +kernel
theorem dT_sortRows_72 : decode bT_sortRows 72 = .ok (.iload_n 2, 1) := by decide +kernel
theorem dT_sortRows_73 : decode bT_sortRows 73 = .ok (.iload_n 1, 1) := by decide +kernel
theorem dT_sortRows_74 : decode bT_sortRows 74 = .ok (.iastore, 1) := by decide +kernel
theorem dT_sortRows_75 : decode bT_sortRows 75 = .ok (.aload_n 0, 1) := by decide +kernel
theorem dT_sortRows_76 : decode bT_sortRows 76 = .ok (.dup, 1) := by decide +kernel
theorem dT_sortRows_77 : decode bT_sortRows 77 = .ok (.getfield 35, 3) := by decide +kernel
theorem dT_sortRows_80 : decode bT_sortRows 80 = .ok (.iconst 1, 1) := by decide +kernel
theorem dT_sortRows_81 : decode bT_sortRows 81 = .ok (.iadd, 1) := by decide +kernel
theorem dT_sortRows_82 : decode bT_sortRows 82 = .ok (.putfield 35, 3) := by decide +kernel
theorem dT_sortRows_85 : decode bT_sortRows 85 = .ok (.iinc 1 1, 3) := by decide +kernel
theorem dT_sortRows_88 : decode bT_sortRows 88 = .ok (.goto (-81), 3) := by decide +kernel
theorem dT_sortRows_91 : decode bT_sortRows 91 = .ok (.return_, 1) := by decide +kernel
theorem dT_beginsAhead_0 : decode bT_beginsAhead 0 = .ok (.aload_n 0, 1) := by decide +kernel
theorem dT_beginsAhead_1 : decode bT_beginsAhead 1 = .ok (.getfield 45, 3) := by decide +kernel
theorem dT_beginsAhead_4 : decode bT_beginsAhead 4 = .ok (.iload_n 1, 1) := by decide +kernel
theorem dT_beginsAhead_5 : decode bT_beginsAhead 5 = .ok (.invokevirtual 59, 3) := by decide +kernel
theorem dT_beginsAhead_8 : decode bT_beginsAhead 8 = .ok (.ifCond .eq 14, 3) := by decide +kernel
theorem dT_beginsAhead_11 : decode bT_beginsAhead 11 = .ok (.aload_n 0, 1) := by decide +kernel
theorem dT_beginsAhead_12 : decode bT_beginsAhead 12 = .ok (.getfield 45, 3) := by decide +kernel
theorem dT_beginsAhead_15 : decode bT_beginsAhead 15 = .ok (.iload_n 2, 1) := by decide +kernel
theorem dT_beginsAhead_16 : decode bT_beginsAhead 16 = .ok (.invokevirtual 59, 3) := by decide +kernel
theorem dT_beginsAhead_19 : decode bT_beginsAhead 19 = .ok (.ifCond .ne 5, 3) := by decide +kernel
theorem dT_beginsAhead_22 : decode bT_beginsAhead 22 = .ok (.iconst 0, 1) := by decide +kernel
theorem dT_beginsAhead_23 : decode bT_beginsAhead 23 = .ok (.ireturn, 1) := by decide +kernel
theorem dT_beginsAhead_24 : decode bT_beginsAhead 24 = .ok (.aload_n 0, 1) := by decide +kernel
theorem dT_beginsAhead_25 : decode bT_beginsAhead 25 = .ok (.getfield 15, 3) := by decide +kernel
theorem dT_beginsAhead_28 : decode bT_beginsAhead 28 = .ok (.iload_n 1, 1) := by decide +kernel
theorem dT_beginsAhead_29 : decode bT_beginsAhead 29 = .ok (.iaload, 1) := by decide +kernel
theorem dT_beginsAhead_30 : decode bT_beginsAhead 30 = .ok (.aload_n 0, 1) := by decide +kernel
theorem dT_beginsAhead_31 : decode bT_beginsAhead 31 = .ok (.getfield 15, 3) := by decide +kernel
theorem dT_beginsAhead_34 : decode bT_beginsAhead 34 = .ok (.iload_n 2, 1) := by decide +kernel
theorem dT_beginsAhead_35 : decode bT_beginsAhead 35 = .ok (.iaload, 1) := by decide +kernel
theorem dT_beginsAhead_36 : decode bT_beginsAhead 36 = .ok (.if_icmp .eq 26, 3) := by decide +kernel
theorem dT_beginsAhead_39 : decode bT_beginsAhead 39 = .ok (.aload_n 0, 1) := by decide +kernel
theorem dT_beginsAhead_40 : decode bT_beginsAhead 40 = .ok (.getfield 15, 3) := by decide +kernel
theorem dT_beginsAhead_43 : decode bT_beginsAhead 43 = .ok (.iload_n 1, 1) := by decide +kernel
theorem dT_beginsAhead_44 : decode bT_beginsAhead 44 = .ok (.iaload, 1) := by decide +kernel
theorem dT_beginsAhead_45 : decode bT_beginsAhead 45 = .ok (.aload_n 0, 1) := by decide +kernel
theorem dT_beginsAhead_46 : decode bT_beginsAhead 46 = .ok (.getfield 15, 3) := by decide +kernel
theorem dT_beginsAhead_49 : decode bT_beginsAhead 49 = .ok (.iload_n 2, 1) := by decide +kernel
theorem dT_beginsAhead_50 : decode bT_beginsAhead 50 = .ok (.iaload, 1) := by decide +kernel
theorem dT_beginsAhead_51 : decode bT_beginsAhead 51 = .ok (.if_icmp .ge 7, 3) := by decide +kernel
theorem dT_beginsAhead_54 : decode bT_beginsAhead 54 = .ok (.iconst 1, 1) := by decide +kernel
theorem dT_beginsAhead_55 : decode bT_beginsAhead 55 = .ok (.goto 27, 3) := by decide +kernel
theorem dT_beginsAhead_58 : decode bT_beginsAhead 58 = .ok (.iconst 0, 1) := by decide +kernel
theorem dT_beginsAhead_59 : decode bT_beginsAhead 59 = .ok (.goto 23, 3) := by decide +kernel
theorem dT_beginsAhead_62 : decode bT_beginsAhead 62 = .ok (.aload_n 0, 1) := by decide +kernel
theorem dT_beginsAhead_63 : decode bT_beginsAhead 63 = .ok (.getfield 9, 3) := by decide +kernel
theorem dT_beginsAhead_66 : decode bT_beginsAhead 66 = .ok (.iload_n 1, 1) := by decide +kernel
theorem dT_beginsAhead_67 : decode bT_beginsAhead 67 = .ok (.iaload, 1) := by decide +kernel
theorem dT_beginsAhead_68 : decode bT_beginsAhead 68 = .ok (.aload_n 0, 1) := by decide +kernel
theorem dT_beginsAhead_69 : decode bT_beginsAhead 69 = .ok (.getfield 9, 3) := by decide +kernel
theorem dT_beginsAhead_72 : decode bT_beginsAhead 72 = .ok (.iload_n 2, 1) := by decide +kernel
theorem dT_beginsAhead_73 : decode bT_beginsAhead 73 = .ok (.iaload, 1) := by decide +kernel
theorem dT_beginsAhead_74 : decode bT_beginsAhead 74 = .ok (.if_icmp .ge 7, 3) := by decide +kernel
theorem dT_beginsAhead_77 : decode bT_beginsAhead 77 = .ok (.iconst 1, 1) := by decide +kernel
theorem dT_beginsAhead_78 : decode bT_beginsAhead 78 = .ok (.goto 4, 3) := by decide +kernel
theorem dT_beginsAhead_81 : decode bT_beginsAhead 81 = .ok (.iconst 0, 1) := by decide +kernel
theorem dT_beginsAhead_82 : decode bT_beginsAhead 82 = .ok (.ireturn, 1) := by decide +kernel
theorem dT_ofRow_0 : decode bT_ofRow 0 = .ok (.iload_n 1, 1) := by decide +kernel
theorem dT_ofRow_1 : decode bT_ofRow 1 = .ok (.ifCond .lt 33, 3) := by decide +kernel
theorem dT_ofRow_4 : decode bT_ofRow 4 = .ok (.iload_n 1, 1) := by decide +kernel
theorem dT_ofRow_5 : decode bT_ofRow 5 = .ok (.aload_n 0, 1) := by decide +kernel
theorem dT_ofRow_6 : decode bT_ofRow 6 = .ok (.getfield 35, 3) := by decide +kernel
theorem dT_ofRow_9 : decode bT_ofRow 9 = .ok (.if_icmp .ge 25, 3) := by decide +kernel
theorem dT_ofRow_12 : decode bT_ofRow 12 = .ok (.iload_n 1, 1) := by decide +kernel
theorem dT_ofRow_13 : decode bT_ofRow 13 = .ok (.bipush 8, 2) := by decide +kernel
theorem dT_ofRow_15 : decode bT_ofRow 15 = .ok (.if_icmp .ge 19, 3) := by decide +kernel
theorem dT_ofRow_18 : decode bT_ofRow 18 = .ok (.aload_n 0, 1) := by decide +kernel
theorem dT_ofRow_19 : decode bT_ofRow 19 = .ok (.getfield 45, 3) := by decide +kernel
theorem dT_ofRow_22 : decode bT_ofRow 22 = .ok (.aload_n 0, 1) := by decide +kernel
theorem dT_ofRow_23 : decode bT_ofRow 23 = .ok (.getfield 32, 3) := by decide +kernel
theorem dT_ofRow_26 : decode bT_ofRow 26 = .ok (.iload_n 1, 1) := by decide +kernel
theorem dT_ofRow_27 : decode bT_ofRow 27 = .ok (.iaload, 1) := by decide +kernel
theorem dT_ofRow_28 : decode bT_ofRow 28 = .ok (.invokevirtual 59, 3) := by decide +kernel
theorem dT_ofRow_31 : decode bT_ofRow 31 = .ok (.ifCond .ne 5, 3) := by decide +kernel
theorem dT_ofRow_34 : decode bT_ofRow 34 = .ok (.iconst (-1), 1) := by decide +kernel
theorem dT_ofRow_35 : decode bT_ofRow 35 = .ok (.ireturn, 1) := by decide +kernel
theorem dT_ofRow_36 : decode bT_ofRow 36 = .ok (.aload_n 0, 1) := by decide +kernel
theorem dT_ofRow_37 : decode bT_ofRow 37 = .ok (.getfield 32, 3) := by decide +kernel
theorem dT_ofRow_40 : decode bT_ofRow 40 = .ok (.iload_n 1, 1) := by decide +kernel
theorem dT_ofRow_41 : decode bT_ofRow 41 = .ok (.iaload, 1) := by decide +kernel
theorem dT_ofRow_42 : decode bT_ofRow 42 = .ok (.istore_n 3, 1) := by decide +kernel
theorem dT_ofRow_43 : decode bT_ofRow 43 = .ok (.iload_n 2, 1) := by decide +kernel
theorem dT_ofRow_44 : decode bT_ofRow 44 = .ok (.tableswitch 44 0 2 #[28, 35, 42], 28) := by decide +kernel
theorem dT_ofRow_72 : decode bT_ofRow 72 = .ok (.aload_n 0, 1) := by decide +kernel
theorem dT_ofRow_73 : decode bT_ofRow 73 = .ok (.getfield 15, 3) := by decide +kernel
theorem dT_ofRow_76 : decode bT_ofRow 76 = .ok (.iload_n 3, 1) := by decide +kernel
theorem dT_ofRow_77 : decode bT_ofRow 77 = .ok (.iaload, 1) := by decide +kernel
theorem dT_ofRow_78 : decode bT_ofRow 78 = .ok (.ireturn, 1) := by decide +kernel
theorem dT_ofRow_79 : decode bT_ofRow 79 = .ok (.aload_n 0, 1) := by decide +kernel
theorem dT_ofRow_80 : decode bT_ofRow 80 = .ok (.getfield 9, 3) := by decide +kernel
theorem dT_ofRow_83 : decode bT_ofRow 83 = .ok (.iload_n 3, 1) := by decide +kernel
theorem dT_ofRow_84 : decode bT_ofRow 84 = .ok (.iaload, 1) := by decide +kernel
theorem dT_ofRow_85 : decode bT_ofRow 85 = .ok (.ireturn, 1) := by decide +kernel
theorem dT_ofRow_86 : decode bT_ofRow 86 = .ok (.iload_n 3, 1) := by decide +kernel
theorem dT_ofRow_87 : decode bT_ofRow 87 = .ok (.ireturn, 1) := by decide +kernel
theorem dT_ofRow_88 : decode bT_ofRow 88 = .ok (.aload_n 0, 1) := by decide +kernel
theorem dT_ofRow_89 : decode bT_ofRow 89 = .ok (.getfield 18, 3) := by decide +kernel
theorem dT_ofRow_92 : decode bT_ofRow 92 = .ok (.iload_n 3, 1) := by decide +kernel
theorem dT_ofRow_93 : decode bT_ofRow 93 = .ok (.iaload, 1) := by decide +kernel
theorem dT_ofRow_94 : decode bT_ofRow 94 = .ok (.ireturn, 1) := by decide +kernel
theorem dT_bayWorkedAt_0 : decode bT_bayWorkedAt 0 = .ok (.iconst 0, 1) := by decide +kernel
theorem dT_bayWorkedAt_1 : decode bT_bayWorkedAt 1 = .ok (.istore_n 3, 1) := by decide +kernel
theorem dT_bayWorkedAt_2 : decode bT_bayWorkedAt 2 = .ok (.iload_n 3, 1) := by decide +kernel
theorem dT_bayWorkedAt_3 : decode bT_bayWorkedAt 3 = .ok (.bipush 8, 2) := by decide +kernel
theorem dT_bayWorkedAt_5 : decode bT_bayWorkedAt 5 = .ok (.if_icmp .ge 41, 3) := by decide +kernel
theorem dT_bayWorkedAt_8 : decode bT_bayWorkedAt 8 = .ok (.aload_n 0, 1) := by decide +kernel
theorem dT_bayWorkedAt_9 : decode bT_bayWorkedAt 9 = .ok (.getfield 9, 3) := by decide +kernel
theorem dT_bayWorkedAt_12 : decode bT_bayWorkedAt 12 = .ok (.iload_n 3, 1) := by decide +kernel
theorem dT_bayWorkedAt_13 : decode bT_bayWorkedAt 13 = .ok (.iaload, 1) := by decide +kernel
theorem dT_bayWorkedAt_14 : decode bT_bayWorkedAt 14 = .ok (.iload_n 1, 1) := by decide +kernel
theorem dT_bayWorkedAt_15 : decode bT_bayWorkedAt 15 = .ok (.if_icmp .ne 25, 3) := by decide +kernel
theorem dT_bayWorkedAt_18 : decode bT_bayWorkedAt 18 = .ok (.aload_n 0, 1) := by decide +kernel
theorem dT_bayWorkedAt_19 : decode bT_bayWorkedAt 19 = .ok (.getfield 15, 3) := by decide +kernel
theorem dT_bayWorkedAt_22 : decode bT_bayWorkedAt 22 = .ok (.iload_n 3, 1) := by decide +kernel
theorem dT_bayWorkedAt_23 : decode bT_bayWorkedAt 23 = .ok (.iaload, 1) := by decide +kernel
theorem dT_bayWorkedAt_24 : decode bT_bayWorkedAt 24 = .ok (.iload_n 2, 1) := by decide +kernel
theorem dT_bayWorkedAt_25 : decode bT_bayWorkedAt 25 = .ok (.if_icmp .gt 15, 3) := by decide +kernel
theorem dT_bayWorkedAt_28 : decode bT_bayWorkedAt 28 = .ok (.iload_n 2, 1) := by decide +kernel
theorem dT_bayWorkedAt_29 : decode bT_bayWorkedAt 29 = .ok (.aload_n 0, 1) := by decide +kernel
theorem dT_bayWorkedAt_30 : decode bT_bayWorkedAt 30 = .ok (.getfield 18, 3) := by decide +kernel
theorem dT_bayWorkedAt_33 : decode bT_bayWorkedAt 33 = .ok (.iload_n 3, 1) := by decide +kernel
theorem dT_bayWorkedAt_34 : decode bT_bayWorkedAt 34 = .ok (.iaload, 1) := by decide +kernel
theorem dT_bayWorkedAt_35 : decode bT_bayWorkedAt 35 = .ok (.if_icmp .ge 5, 3) := by decide +kernel
theorem dT_bayWorkedAt_38 : decode bT_bayWorkedAt 38 = .ok (.iload_n 3, 1) := by decide +kernel
theorem dT_bayWorkedAt_39 : decode bT_bayWorkedAt 39 = .ok (.ireturn, 1) := by decide +kernel
theorem dT_bayWorkedAt_40 : decode bT_bayWorkedAt 40 = .ok (.iinc 3 1, 3) := by decide +kernel
theorem dT_bayWorkedAt_43 : decode bT_bayWorkedAt 43 = .ok (.goto (-41), 3) := by decide +kernel
theorem dT_bayWorkedAt_46 : decode bT_bayWorkedAt 46 = .ok (.iconst (-1), 1) := by decide +kernel
theorem dT_bayWorkedAt_47 : decode bT_bayWorkedAt 47 = .ok (.ireturn, 1) := by decide +kernel
theorem dT_bayCameTo_0 : decode bT_bayCameTo 0 = .ok (.aload_n 0, 1) := by decide +kernel
theorem dT_bayCameTo_1 : decode bT_bayCameTo 1 = .ok (.getfield 49, 3) := by decide +kernel
theorem dT_bayCameTo_4 : decode bT_bayCameTo 4 = .ok (.iload_n 1, 1) := by decide +kernel
theorem dT_bayCameTo_5 : decode bT_bayCameTo 5 = .ok (.invokevirtual 65, 3) := by decide +kernel
theorem dT_bayCameTo_8 : decode bT_bayCameTo 8 = .ok (.ifCond .eq 13, 3) := by decide +kernel
theorem dT_bayCameTo_11 : decode bT_bayCameTo 11 = .ok (.aload_n 0, 1) := by decide +kernel
theorem dT_bayCameTo_12 : decode bT_bayCameTo 12 = .ok (.getfield 21, 3) := by decide +kernel
theorem dT_bayCameTo_15 : decode bT_bayCameTo 15 = .ok (.iload_n 1, 1) := by decide +kernel
theorem dT_bayCameTo_16 : decode bT_bayCameTo 16 = .ok (.iaload, 1) := by decide +kernel
theorem dT_bayCameTo_17 : decode bT_bayCameTo 17 = .ok (.iconst (-1), 1) := by decide +kernel
theorem dT_bayCameTo_18 : decode bT_bayCameTo 18 = .ok (.if_icmp .ne 5, 3) := by decide +kernel
theorem dT_bayCameTo_21 : decode bT_bayCameTo 21 = .ok (.iconst (-1), 1) := by decide +kernel
theorem dT_bayCameTo_22 : decode bT_bayCameTo 22 = .ok (.ireturn, 1) := by decide +kernel
theorem dT_bayCameTo_23 : decode bT_bayCameTo 23 = .ok (.aload_n 0, 1) := by decide +kernel
theorem dT_bayCameTo_24 : decode bT_bayCameTo 24 = .ok (.getfield 21, 3) := by decide +kernel
theorem dT_bayCameTo_27 : decode bT_bayCameTo 27 = .ok (.iload_n 1, 1) := by decide +kernel
theorem dT_bayCameTo_28 : decode bT_bayCameTo 28 = .ok (.iaload, 1) := by decide +kernel
theorem dT_bayCameTo_29 : decode bT_bayCameTo 29 = .ok (.istore_n 3, 1) := by decide +kernel
theorem dT_bayCameTo_30 : decode bT_bayCameTo 30 = .ok (.iconst 0, 1) := by decide +kernel
theorem dT_bayCameTo_31 : decode bT_bayCameTo 31 = .ok (.iload_n 3, 1) := by decide +kernel
theorem dT_bayCameTo_32 : decode bT_bayCameTo 32 = .ok (.invokestatic 79, 3) := by decide +kernel
theorem dT_bayCameTo_35 : decode bT_bayCameTo 35 = .ok (.istore 4, 2) := by decide +kernel
theorem dT_bayCameTo_37 : decode bT_bayCameTo 37 = .ok (.iload 4, 2) := by decide +kernel
theorem dT_bayCameTo_39 : decode bT_bayCameTo 39 = .ok (.aload_n 0, 1) := by decide +kernel
theorem dT_bayCameTo_40 : decode bT_bayCameTo 40 = .ok (.getfield 24, 3) := by decide +kernel
theorem dT_bayCameTo_43 : decode bT_bayCameTo 43 = .ok (.iload_n 1, 1) := by decide +kernel
theorem dT_bayCameTo_44 : decode bT_bayCameTo 44 = .ok (.iaload, 1) := by decide +kernel
theorem dT_bayCameTo_45 : decode bT_bayCameTo 45 = .ok (.if_icmp .gt 32, 3) := by decide +kernel
theorem dT_bayCameTo_48 : decode bT_bayCameTo 48 = .ok (.iload 4, 2) := by decide +kernel
theorem dT_bayCameTo_50 : decode bT_bayCameTo 50 = .ok (.bipush 8, 2) := by decide +kernel
theorem dT_bayCameTo_52 : decode bT_bayCameTo 52 = .ok (.if_icmp .ge 25, 3) := by decide +kernel
theorem dT_bayCameTo_55 : decode bT_bayCameTo 55 = .ok (.aload_n 0, 1) := by decide +kernel
theorem dT_bayCameTo_56 : decode bT_bayCameTo 56 = .ok (.getfield 29, 3) := by decide +kernel
theorem dT_bayCameTo_59 : decode bT_bayCameTo 59 = .ok (.iload_n 1, 1) := by decide +kernel
theorem dT_bayCameTo_60 : decode bT_bayCameTo 60 = .ok (.aaload, 1) := by decide +kernel
theorem dT_bayCameTo_61 : decode bT_bayCameTo 61 = .ok (.iload 4, 2) := by decide +kernel
theorem dT_bayCameTo_63 : decode bT_bayCameTo 63 = .ok (.iaload, 1) := by decide +kernel
theorem dT_bayCameTo_64 : decode bT_bayCameTo 64 = .ok (.iload_n 2, 1) := by decide +kernel
theorem dT_bayCameTo_65 : decode bT_bayCameTo 65 = .ok (.if_icmp .gt 6, 3) := by decide +kernel
theorem dT_bayCameTo_68 : decode bT_bayCameTo 68 = .ok (.iload 4, 2) := by decide +kernel
theorem dT_bayCameTo_70 : decode bT_bayCameTo 70 = .ok (.istore_n 3, 1) := by decide +kernel
theorem dT_bayCameTo_71 : decode bT_bayCameTo 71 = .ok (.iinc 4 1, 3) := by decide +kernel
theorem dT_bayCameTo_74 : decode bT_bayCameTo 74 = .ok (.goto (-37), 3) := by decide +kernel
theorem dT_bayCameTo_77 : decode bT_bayCameTo 77 = .ok (.iload_n 3, 1) := by decide +kernel
theorem dT_bayCameTo_78 : decode bT_bayCameTo 78 = .ok (.ireturn, 1) := by decide +kernel
theorem dT_doneBy_0 : decode bT_doneBy 0 = .ok (.aload_n 0, 1) := by decide +kernel
theorem dT_doneBy_1 : decode bT_doneBy 1 = .ok (.getfield 45, 3) := by decide +kernel
theorem dT_doneBy_4 : decode bT_doneBy 4 = .ok (.iload_n 1, 1) := by decide +kernel
theorem dT_doneBy_5 : decode bT_doneBy 5 = .ok (.invokevirtual 59, 3) := by decide +kernel
theorem dT_doneBy_8 : decode bT_doneBy 8 = .ok (.ifCond .eq 23, 3) := by decide +kernel
theorem dT_doneBy_11 : decode bT_doneBy 11 = .ok (.aload_n 0, 1) := by decide +kernel
theorem dT_doneBy_12 : decode bT_doneBy 12 = .ok (.getfield 9, 3) := by decide +kernel
theorem dT_doneBy_15 : decode bT_doneBy 15 = .ok (.iload_n 1, 1) := by decide +kernel
theorem dT_doneBy_16 : decode bT_doneBy 16 = .ok (.iaload, 1) := by decide +kernel
theorem dT_doneBy_17 : decode bT_doneBy 17 = .ok (.iconst (-1), 1) := by decide +kernel
theorem dT_doneBy_18 : decode bT_doneBy 18 = .ok (.if_icmp .eq 13, 3) := by decide +kernel
theorem dT_doneBy_21 : decode bT_doneBy 21 = .ok (.iload_n 2, 1) := by decide +kernel
theorem dT_doneBy_22 : decode bT_doneBy 22 = .ok (.aload_n 0, 1) := by decide +kernel
theorem dT_doneBy_23 : decode bT_doneBy 23 = .ok (.getfield 15, 3) := by decide +kernel
theorem dT_doneBy_26 : decode bT_doneBy 26 = .ok (.iload_n 1, 1) := by decide +kernel
theorem dT_doneBy_27 : decode bT_doneBy 27 = .ok (.iaload, 1) := by decide +kernel
theorem dT_doneBy_28 : decode bT_doneBy 28 = .ok (.if_icmp .gt 5, 3) := by decide +kernel
theorem dT_doneBy_31 : decode bT_doneBy 31 = .ok (.iconst 0, 1) := by decide +kernel
theorem dT_doneBy_32 : decode bT_doneBy 32 = .ok (.ireturn, 1) := by decide +kernel
theorem dT_doneBy_33 : decode bT_doneBy 33 = .ok (.iload_n 2, 1) := by decide +kernel
theorem dT_doneBy_34 : decode bT_doneBy 34 = .ok (.aload_n 0, 1) := by decide +kernel
theorem dT_doneBy_35 : decode bT_doneBy 35 = .ok (.getfield 18, 3) := by decide +kernel
theorem dT_doneBy_38 : decode bT_doneBy 38 = .ok (.iload_n 1, 1) := by decide +kernel
theorem dT_doneBy_39 : decode bT_doneBy 39 = .ok (.iaload, 1) := by decide +kernel
theorem dT_doneBy_40 : decode bT_doneBy 40 = .ok (.if_icmp .lt 12, 3) := by decide +kernel
theorem dT_doneBy_43 : decode bT_doneBy 43 = .ok (.aload_n 0, 1) := by decide +kernel
theorem dT_doneBy_44 : decode bT_doneBy 44 = .ok (.getfield 45, 3) := by decide +kernel
theorem dT_doneBy_47 : decode bT_doneBy 47 = .ok (.iload_n 1, 1) := by decide +kernel
theorem dT_doneBy_48 : decode bT_doneBy 48 = .ok (.invokevirtual 85, 3) := by decide +kernel
theorem dT_doneBy_51 : decode bT_doneBy 51 = .ok (.ireturn, 1) := by decide +kernel
theorem dT_doneBy_52 : decode bT_doneBy 52 = .ok (.aload_n 0, 1) := by decide +kernel
theorem dT_doneBy_53 : decode bT_doneBy 53 = .ok (.getfield 49, 3) := by decide +kernel
theorem dT_doneBy_56 : decode bT_doneBy 56 = .ok (.aload_n 0, 1) := by decide +kernel
theorem dT_doneBy_57 : decode bT_doneBy 57 = .ok (.getfield 9, 3) := by decide +kernel
theorem dT_doneBy_60 : decode bT_doneBy 60 = .ok (.iload_n 1, 1) := by decide +kernel
theorem dT_doneBy_61 : decode bT_doneBy 61 = .ok (.iaload, 1) := by decide +kernel
theorem dT_doneBy_62 : decode bT_doneBy 62 = .ok (.iload_n 2, 1) := by decide +kernel
theorem dT_doneBy_63 : decode bT_doneBy 63 = .ok (.aload_n 0, 1) := by decide +kernel
theorem dT_doneBy_64 : decode bT_doneBy 64 = .ok (.getfield 15, 3) := by decide +kernel
theorem dT_doneBy_67 : decode bT_doneBy 67 = .ok (.iload_n 1, 1) := by decide +kernel
theorem dT_doneBy_68 : decode bT_doneBy 68 = .ok (.iaload, 1) := by decide +kernel
theorem dT_doneBy_69 : decode bT_doneBy 69 = .ok (.isub, 1) := by decide +kernel
theorem dT_doneBy_70 : decode bT_doneBy 70 = .ok (.invokevirtual 101, 3) := by decide +kernel
theorem dT_doneBy_73 : decode bT_doneBy 73 = .ok (.ireturn, 1) := by decide +kernel
end
section
theorem dM_init_0 : decode bM_init 0 = .ok (.aload_n 0, 1) := by decide +kernel
theorem dM_init_1 : decode bM_init 1 = .ok (.invokespecial 1, 3) := by decide +kernel
theorem dM_init_4 : decode bM_init 4 = .ok (.aload_n 0, 1) := by decide +kernel
theorem dM_init_5 : decode bM_init 5 = .ok (.bipush 8, 2) := by decide +kernel
theorem dM_init_7 : decode bM_init 7 = .ok (.newarray .int, 2) := by decide +kernel
theorem dM_init_9 : decode bM_init 9 = .ok (.putfield 7, 3) := by decide +kernel
theorem dM_init_12 : decode bM_init 12 = .ok (.aload_n 0, 1) := by decide +kernel
theorem dM_init_13 : decode bM_init 13 = .ok (.bipush 8, 2) := by decide +kernel
theorem dM_init_15 : decode bM_init 15 = .ok (.newarray .int, 2) := by decide +kernel
theorem dM_init_17 : decode bM_init 17 = .ok (.putfield 13, 3) := by decide +kernel
theorem dM_init_20 : decode bM_init 20 = .ok (.aload_n 0, 1) := by decide +kernel
theorem dM_init_21 : decode bM_init 21 = .ok (.iconst 4, 1) := by decide +kernel
theorem dM_init_22 : decode bM_init 22 = .ok (.newarray .int, 2) := by decide +kernel
theorem dM_init_24 : decode bM_init 24 = .ok (.dup, 1) := by decide +kernel
theorem dM_init_25 : decode bM_init 25 = .ok (.iconst 0, 1) := by decide +kernel
theorem dM_init_26 : decode bM_init 26 = .ok (.iconst 1, 1) := by decide +kernel
theorem dM_init_27 : decode bM_init 27 = .ok (.iastore, 1) := by decide +kernel
theorem dM_init_28 : decode bM_init 28 = .ok (.dup, 1) := by decide +kernel
theorem dM_init_29 : decode bM_init 29 = .ok (.iconst 1, 1) := by decide +kernel
theorem dM_init_30 : decode bM_init 30 = .ok (.iconst 1, 1) := by decide +kernel
theorem dM_init_31 : decode bM_init 31 = .ok (.iastore, 1) := by decide +kernel
theorem dM_init_32 : decode bM_init 32 = .ok (.dup, 1) := by decide +kernel
theorem dM_init_33 : decode bM_init 33 = .ok (.iconst 2, 1) := by decide +kernel
theorem dM_init_34 : decode bM_init 34 = .ok (.iconst 1, 1) := by decide +kernel
theorem dM_init_35 : decode bM_init 35 = .ok (.iastore, 1) := by decide +kernel
theorem dM_init_36 : decode bM_init 36 = .ok (.dup, 1) := by decide +kernel
theorem dM_init_37 : decode bM_init 37 = .ok (.iconst 3, 1) := by decide +kernel
theorem dM_init_38 : decode bM_init 38 = .ok (.iconst 1, 1) := by decide +kernel
theorem dM_init_39 : decode bM_init 39 = .ok (.iastore, 1) := by decide +kernel
theorem dM_init_40 : decode bM_init 40 = .ok (.putfield 16, 3) := by decide +kernel
theorem dM_init_43 : decode bM_init 43 = .ok (.aload_n 0, 1) := by decide +kernel
theorem dM_init_44 : decode bM_init 44 = .ok (.iconst 4, 1) := by decide +kernel
theorem dM_init_45 : decode bM_init 45 = .ok (.newarray .int, 2) := by decide +kernel
theorem dM_init_47 : decode bM_init 47 = .ok (.dup, 1) := by decide +kernel
theorem dM_init_48 : decode bM_init 48 = .ok (.iconst 0, 1) := by decide +kernel
theorem dM_init_49 : decode bM_init 49 = .ok (.iconst 1, 1) := by decide +kernel
theorem dM_init_50 : decode bM_init 50 = .ok (.iastore, 1) := by decide +kernel
theorem dM_init_51 : decode bM_init 51 = .ok (.dup, 1) := by decide +kernel
theorem dM_init_52 : decode bM_init 52 = .ok (.iconst 1, 1) := by decide +kernel
theorem dM_init_53 : decode bM_init 53 = .ok (.iconst 1, 1) := by decide +kernel
theorem dM_init_54 : decode bM_init 54 = .ok (.iastore, 1) := by decide +kernel
theorem dM_init_55 : decode bM_init 55 = .ok (.dup, 1) := by decide +kernel
theorem dM_init_56 : decode bM_init 56 = .ok (.iconst 2, 1) := by decide +kernel
theorem dM_init_57 : decode bM_init 57 = .ok (.iconst 1, 1) := by decide +kernel
theorem dM_init_58 : decode bM_init 58 = .ok (.iastore, 1) := by decide +kernel
theorem dM_init_59 : decode bM_init 59 = .ok (.dup, 1) := by decide +kernel
theorem dM_init_60 : decode bM_init 60 = .ok (.iconst 3, 1) := by decide +kernel
theorem dM_init_61 : decode bM_init 61 = .ok (.iconst 1, 1) := by decide +kernel
theorem dM_init_62 : decode bM_init 62 = .ok (.iastore, 1) := by decide +kernel
theorem dM_init_63 : decode bM_init 63 = .ok (.putfield 19, 3) := by decide +kernel
theorem dM_init_66 : decode bM_init 66 = .ok (.aload_n 0, 1) := by decide +kernel
theorem dM_init_67 : decode bM_init 67 = .ok (.iconst 4, 1) := by decide +kernel
theorem dM_init_68 : decode bM_init 68 = .ok (.newarray .boolean, 2) := by decide +kernel
theorem dM_init_70 : decode bM_init 70 = .ok (.putfield 22, 3) := by decide +kernel
theorem dM_init_73 : decode bM_init 73 = .ok (.aload_n 0, 1) := by decide +kernel
theorem dM_init_74 : decode bM_init 74 = .ok (.iconst 1, 1) := by decide +kernel
theorem dM_init_75 : decode bM_init 75 = .ok (.putfield 26, 3) := by decide +kernel
theorem dM_init_78 : decode bM_init 78 = .ok (.aload_n 0, 1) := by decide +kernel
theorem dM_init_79 : decode bM_init 79 = .ok (.bipush 8, 2) := by decide +kernel
theorem dM_init_81 : decode bM_init 81 = .ok (.newarray .int, 2) := by decide +kernel
theorem dM_init_83 : decode bM_init 83 = .ok (.putfield 30, 3) := by decide +kernel
theorem dM_init_86 : decode bM_init 86 = .ok (.aload_n 0, 1) := by decide +kernel
theorem dM_init_87 : decode bM_init 87 = .ok (.bipush 8, 2) := by decide +kernel
theorem dM_init_89 : decode bM_init 89 = .ok (.newarray .int, 2) := by decide +kernel
theorem dM_init_91 : decode bM_init 91 = .ok (.putfield 33, 3) := by decide +kernel
theorem dM_init_94 : decode bM_init 94 = .ok (.aload_n 0, 1) := by decide +kernel
theorem dM_init_95 : decode bM_init 95 = .ok (.bipush 32, 2) := by decide +kernel
theorem dM_init_97 : decode bM_init 97 = .ok (.newarray .int, 2) := by decide +kernel
theorem dM_init_99 : decode bM_init 99 = .ok (.putfield 36, 3) := by decide +kernel
theorem dM_init_102 : decode bM_init 102 = .ok (.aload_n 0, 1) := by decide +kernel
theorem dM_init_103 : decode bM_init 103 = .ok (.iconst 4, 1) := by decide +kernel
theorem dM_init_104 : decode bM_init 104 = .ok (.newarray .int, 2) := by decide +kernel
theorem dM_init_106 : decode bM_init 106 = .ok (.putfield 39, 3) := by decide +kernel
theorem dM_init_109 : decode bM_init 109 = .ok (.aload_n 0, 1) := by decide +kernel
theorem dM_init_110 : decode bM_init 110 = .ok (.iconst 4, 1) := by decide +kernel
theorem dM_init_111 : decode bM_init 111 = .ok (.newarray .int, 2) := by decide +kernel
theorem dM_init_113 : decode bM_init 113 = .ok (.putfield 42, 3) := by decide +kernel
theorem dM_init_116 : decode bM_init 116 = .ok (.aload_n 0, 1) := by decide +kernel
theorem dM_init_117 : decode bM_init 117 = .ok (.iload_n 1, 1) := by decide +kernel
theorem dM_init_118 : decode bM_init 118 = .ok (.iconst 1, 1) := by decide +kernel
theorem dM_init_119 : decode bM_init 119 = .ok (.if_icmp .ge 7, 3) := by decide +kernel
theorem dM_init_122 : decode bM_init 122 = .ok (.iconst 1, 1) := by decide +kernel
theorem dM_init_123 : decode bM_init 123 = .ok (.goto 13, 3) := by decide +kernel
theorem dM_init_126 : decode bM_init 126 = .ok (.iload_n 1, 1) := by decide +kernel
theorem dM_init_127 : decode bM_init 127 = .ok (.iconst 4, 1) := by decide +kernel
theorem dM_init_128 : decode bM_init 128 = .ok (.if_icmp .le 7, 3) := by decide +kernel
theorem dM_init_131 : decode bM_init 131 = .ok (.iconst 4, 1) := by decide +kernel
theorem dM_init_132 : decode bM_init 132 = .ok (.goto 4, 3) := by decide +kernel
theorem dM_init_135 : decode bM_init 135 = .ok (.iload_n 1, 1) := by decide +kernel
theorem dM_init_136 : decode bM_init 136 = .ok (.putfield 45, 3) := by decide +kernel
theorem dM_init_139 : decode bM_init 139 = .ok (.aload_n 0, 1) := by decide +kernel
theorem dM_init_140 : decode bM_init 140 = .ok (.iload_n 2, 1) := by decide +kernel
theorem dM_init_141 : decode bM_init 141 = .ok (.ifCond .ge 7, 3) := by decide +kernel
theorem dM_init_144 : decode bM_init 144 = .ok (.iconst 0, 1) := by decide +kernel
theorem dM_init_145 : decode bM_init 145 = .ok (.goto 13, 3) := by decide +kernel
theorem dM_init_148 : decode bM_init 148 = .ok (.iload_n 2, 1) := by decide +kernel
theorem dM_init_149 : decode bM_init 149 = .ok (.iconst 3, 1) := by decide +kernel
theorem dM_init_150 : decode bM_init 150 = .ok (.if_icmp .le 7, 3) := by decide +kernel
theorem dM_init_153 : decode bM_init 153 = .ok (.iconst 3, 1) := by decide +kernel
theorem dM_init_154 : decode bM_init 154 = .ok (.goto 4, 3) := by decide +kernel
theorem dM_init_157 : decode bM_init 157 = .ok (.iload_n 2, 1) := by decide +kernel
theorem dM_init_158 : decode bM_init 158 = .ok (.putfield 48, 3) := by decide +kernel
theorem dM_init_161 : decode bM_init 161 = .ok (.return_, 1) := by decide +kernel
theorem dM_thrown_0 : decode bM_thrown 0 = .ok (.aload_n 0, 1) := by decide +kernel
theorem dM_thrown_1 : decode bM_thrown 1 = .ok (.getfield 51, 3) := by decide +kernel
theorem dM_thrown_4 : decode bM_thrown 4 = .ok (.ireturn, 1) := by decide +kernel
theorem dM_refuse_0 : decode bM_refuse 0 = .ok (.aload_n 0, 1) := by decide +kernel
theorem dM_refuse_1 : decode bM_refuse 1 = .ok (.iload_n 1, 1) := by decide +kernel
theorem dM_refuse_2 : decode bM_refuse 2 = .ok (.putfield 51, 3) := by decide +kernel
theorem dM_refuse_5 : decode bM_refuse 5 = .ok (.iconst 0, 1) := by decide +kernel
theorem dM_refuse_6 : decode bM_refuse 6 = .ok (.ireturn, 1) := by decide +kernel
theorem dM_in_0 : decode bM_in 0 = .ok (.iload_n 0, 1) := by decide +kernel
theorem dM_in_1 : decode bM_in 1 = .ok (.iload_n 1, 1) := by decide +kernel
theorem dM_in_2 : decode bM_in 2 = .ok (.if_icmp .lt 12, 3) := by decide +kernel
theorem dM_in_5 : decode bM_in 5 = .ok (.iload_n 0, 1) := by decide +kernel
theorem dM_in_6 : decode bM_in 6 = .ok (.iload_n 2, 1) := by decide +kernel
theorem dM_in_7 : decode bM_in 7 = .ok (.if_icmp .gt 7, 3) := by decide +kernel
theorem dM_in_10 : decode bM_in 10 = .ok (.iconst 1, 1) := by decide +kernel
theorem dM_in_11 : decode bM_in 11 = .ok (.goto 4, 3) := by decide +kernel
theorem dM_in_14 : decode bM_in 14 = .ok (.iconst 0, 1) := by decide +kernel
theorem dM_in_15 : decode bM_in 15 = .ok (.ireturn, 1) := by decide +kernel
theorem dM_isCrane_0 : decode bM_isCrane 0 = .ok (.iload_n 1, 1) := by decide +kernel
theorem dM_isCrane_1 : decode bM_isCrane 1 = .ok (.ifCond .lt 15, 3) := by decide +kernel
theorem dM_isCrane_4 : decode bM_isCrane 4 = .ok (.iload_n 1, 1) := by decide +kernel
theorem dM_isCrane_5 : decode bM_isCrane 5 = .ok (.aload_n 0, 1) := by decide +kernel
theorem dM_isCrane_6 : decode bM_isCrane 6 = .ok (.getfield 45, 3) := by decide +kernel
theorem dM_isCrane_9 : decode bM_isCrane 9 = .ok (.if_icmp .ge 7, 3) := by decide +kernel
theorem dM_isCrane_12 : decode bM_isCrane 12 = .ok (.iconst 1, 1) := by decide +kernel
theorem dM_isCrane_13 : decode bM_isCrane 13 = .ok (.goto 4, 3) := by decide +kernel
theorem dM_isCrane_16 : decode bM_isCrane 16 = .ok (.iconst 0, 1) := by decide +kernel
theorem dM_isCrane_17 : decode bM_isCrane 17 = .ok (.ireturn, 1) := by decide +kernel
theorem dM_bay_0 : decode bM_bay 0 = .ok (.iload_n 1, 1) := by decide +kernel
theorem dM_bay_1 : decode bM_bay 1 = .ok (.iconst 0, 1) := by decide +kernel
theorem dM_bay_2 : decode bM_bay 2 = .ok (.bipush 50, 2) := by decide +kernel
theorem dM_bay_4 : decode bM_bay 4 = .ok (.invokestatic 54, 3) := by decide +kernel
theorem dM_bay_7 : decode bM_bay 7 = .ok (.ifCond .eq 14, 3) := by decide +kernel
theorem dM_bay_10 : decode bM_bay 10 = .ok (.iload_n 2, 1) := by decide +kernel
theorem dM_bay_11 : decode bM_bay 11 = .ok (.iconst 0, 1) := by decide +kernel
theorem dM_bay_12 : decode bM_bay 12 = .ok (.sipush 200, 3) := by decide +kernel
theorem dM_bay_15 : decode bM_bay 15 = .ok (.invokestatic 54, 3) := by decide +kernel
theorem dM_bay_18 : decode bM_bay 18 = .ok (.ifCond .ne 9, 3) := by decide +kernel
theorem dM_bay_21 : decode bM_bay 21 = .ok (.aload_n 0, 1) := by decide +kernel
theorem dM_bay_22 : decode bM_bay 22 = .ok (.iconst 1, 1) := by decide +kernel
theorem dM_bay_23 : decode bM_bay 23 = .ok (.invokevirtual 58, 3) := by decide +kernel
theorem dM_bay_26 : decode bM_bay 26 = .ok (.ireturn, 1) := by decide +kernel
theorem dM_bay_27 : decode bM_bay 27 = .ok (.aload_n 0, 1) := by decide +kernel
theorem dM_bay_28 : decode bM_bay 28 = .ok (.getfield 62, 3) := by decide +kernel
theorem dM_bay_31 : decode bM_bay 31 = .ok (.bipush 8, 2) := by decide +kernel
theorem dM_bay_33 : decode bM_bay 33 = .ok (.if_icmp .ne 9, 3) := by decide +kernel
theorem dM_bay_36 : decode bM_bay 36 = .ok (.aload_n 0, 1) := by decide +kernel
theorem dM_bay_37 : decode bM_bay 37 = .ok (.iconst 2, 1) := by decide +kernel
theorem dM_bay_38 : decode bM_bay 38 = .ok (.invokevirtual 58, 3) := by decide +kernel
theorem dM_bay_41 : decode bM_bay 41 = .ok (.ireturn, 1) := by decide +kernel
theorem dM_bay_42 : decode bM_bay 42 = .ok (.aload_n 0, 1) := by decide +kernel
theorem dM_bay_43 : decode bM_bay 43 = .ok (.iconst 0, 1) := by decide +kernel
theorem dM_bay_44 : decode bM_bay 44 = .ok (.putfield 51, 3) := by decide +kernel
theorem dM_bay_47 : decode bM_bay 47 = .ok (.aload_n 0, 1) := by decide +kernel
theorem dM_bay_48 : decode bM_bay 48 = .ok (.getfield 7, 3) := by decide +kernel
theorem dM_bay_51 : decode bM_bay 51 = .ok (.aload_n 0, 1) := by decide +kernel
theorem dM_bay_52 : decode bM_bay 52 = .ok (.getfield 62, 3) := by decide +kernel
theorem dM_bay_55 : decode bM_bay 55 = .ok (.iload_n 1, 1) := by decide +kernel
theorem dM_bay_56 : decode bM_bay 56 = .ok (.iastore, 1) := by decide +kernel
theorem dM_bay_57 : decode bM_bay 57 = .ok (.aload_n 0, 1) := by decide +kernel
theorem dM_bay_58 : decode bM_bay 58 = .ok (.getfield 13, 3) := by decide +kernel
theorem dM_bay_61 : decode bM_bay 61 = .ok (.aload_n 0, 1) := by decide +kernel
theorem dM_bay_62 : decode bM_bay 62 = .ok (.getfield 62, 3) := by decide +kernel
theorem dM_bay_65 : decode bM_bay 65 = .ok (.iload_n 2, 1) := by decide +kernel
theorem dM_bay_66 : decode bM_bay 66 = .ok (.iastore, 1) := by decide +kernel
theorem dM_bay_67 : decode bM_bay 67 = .ok (.aload_n 0, 1) := by decide +kernel
theorem dM_bay_68 : decode bM_bay 68 = .ok (.dup, 1) := by decide +kernel
theorem dM_bay_69 : decode bM_bay 69 = .ok (.getfield 62, 3) := by decide +kernel
theorem dM_bay_72 : decode bM_bay 72 = .ok (.iconst 1, 1) := by decide +kernel
theorem dM_bay_73 : decode bM_bay 73 = .ok (.iadd, 1) := by decide +kernel
theorem dM_bay_74 : decode bM_bay 74 = .ok (.putfield 62, 3) := by decide +kernel
theorem dM_bay_77 : decode bM_bay 77 = .ok (.aload_n 0, 1) := by decide +kernel
theorem dM_bay_78 : decode bM_bay 78 = .ok (.iconst 0, 1) := by decide +kernel
theorem dM_bay_79 : decode bM_bay 79 = .ok (.putfield 65, 3) := by decide +kernel
theorem dM_bay_82 : decode bM_bay 82 = .ok (.aload_n 0, 1) := by decide +kernel
theorem dM_bay_83 : decode bM_bay 83 = .ok (.getfield 62, 3) := by decide +kernel
theorem dM_bay_86 : decode bM_bay 86 = .ok (.iconst 1, 1) := by decide +kernel
theorem dM_bay_87 : decode bM_bay 87 = .ok (.isub, 1) := by decide +kernel
theorem dM_bay_88 : decode bM_bay 88 = .ok (.ireturn, 1) := by decide +kernel
theorem dM_rate_0 : decode bM_rate 0 = .ok (.aload_n 0, 1) := by decide +kernel
theorem dM_rate_1 : decode bM_rate 1 = .ok (.iload_n 2, 1) := by decide +kernel
theorem dM_rate_2 : decode bM_rate 2 = .ok (.ifCond .ne 7, 3) := by decide +kernel
theorem dM_rate_5 : decode bM_rate 5 = .ok (.iconst 1, 1) := by decide +kernel
theorem dM_rate_6 : decode bM_rate 6 = .ok (.goto 36, 3) := by decide +kernel
theorem dM_rate_9 : decode bM_rate 9 = .ok (.aload_n 0, 1) := by decide +kernel
theorem dM_rate_10 : decode bM_rate 10 = .ok (.iload_n 1, 1) := by decide +kernel
theorem dM_rate_11 : decode bM_rate 11 = .ok (.invokevirtual 69, 3) := by decide +kernel
theorem dM_rate_14 : decode bM_rate 14 = .ok (.ifCond .eq 23, 3) := by decide +kernel
theorem dM_rate_17 : decode bM_rate 17 = .ok (.iload_n 2, 1) := by decide +kernel
theorem dM_rate_18 : decode bM_rate 18 = .ok (.iconst 1, 1) := by decide +kernel
theorem dM_rate_19 : decode bM_rate 19 = .ok (.bipush 100, 2) := by decide +kernel
theorem dM_rate_21 : decode bM_rate 21 = .ok (.invokestatic 54, 3) := by decide +kernel
theorem dM_rate_24 : decode bM_rate 24 = .ok (.ifCond .eq 13, 3) := by decide +kernel
theorem dM_rate_27 : decode bM_rate 27 = .ok (.iload_n 3, 1) := by decide +kernel
theorem dM_rate_28 : decode bM_rate 28 = .ok (.iconst 1, 1) := by decide +kernel
theorem dM_rate_29 : decode bM_rate 29 = .ok (.bipush 100, 2) := by decide +kernel
theorem dM_rate_31 : decode bM_rate 31 = .ok (.invokestatic 54, 3) := by decide +kernel
theorem dM_rate_34 : decode bM_rate 34 = .ok (.ifCond .ne 7, 3) := by decide +kernel
theorem dM_rate_37 : decode bM_rate 37 = .ok (.iconst 2, 1) := by decide +kernel
theorem dM_rate_38 : decode bM_rate 38 = .ok (.goto 4, 3) := by decide +kernel
theorem dM_rate_41 : decode bM_rate 41 = .ok (.iconst 0, 1) := by decide +kernel
theorem dM_rate_42 : decode bM_rate 42 = .ok (.putfield 51, 3) := by decide +kernel
theorem dM_rate_45 : decode bM_rate 45 = .ok (.aload_n 0, 1) := by decide +kernel
theorem dM_rate_46 : decode bM_rate 46 = .ok (.getfield 51, 3) := by decide +kernel
theorem dM_rate_49 : decode bM_rate 49 = .ok (.ifCond .le 5, 3) := by decide +kernel
theorem dM_rate_52 : decode bM_rate 52 = .ok (.iconst 0, 1) := by decide +kernel
theorem dM_rate_53 : decode bM_rate 53 = .ok (.ireturn, 1) := by decide +kernel
theorem dM_rate_54 : decode bM_rate 54 = .ok (.aload_n 0, 1) := by decide +kernel
theorem dM_rate_55 : decode bM_rate 55 = .ok (.getfield 16, 3) := by decide +kernel
theorem dM_rate_58 : decode bM_rate 58 = .ok (.iload_n 1, 1) := by decide +kernel
theorem dM_rate_59 : decode bM_rate 59 = .ok (.iload_n 2, 1) := by decide +kernel
theorem dM_rate_60 : decode bM_rate 60 = .ok (.iastore, 1) := by decide +kernel
theorem dM_rate_61 : decode bM_rate 61 = .ok (.aload_n 0, 1) := by decide +kernel
theorem dM_rate_62 : decode bM_rate 62 = .ok (.getfield 19, 3) := by decide +kernel
theorem dM_rate_65 : decode bM_rate 65 = .ok (.iload_n 1, 1) := by decide +kernel
theorem dM_rate_66 : decode bM_rate 66 = .ok (.iload_n 3, 1) := by decide +kernel
theorem dM_rate_67 : decode bM_rate 67 = .ok (.iastore, 1) := by decide +kernel
theorem dM_rate_68 : decode bM_rate 68 = .ok (.aload_n 0, 1) := by decide +kernel
theorem dM_rate_69 : decode bM_rate 69 = .ok (.iconst 0, 1) := by decide +kernel
theorem dM_rate_70 : decode bM_rate 70 = .ok (.putfield 65, 3) := by decide +kernel
theorem dM_rate_73 : decode bM_rate 73 = .ok (.iconst 1, 1) := by decide +kernel
theorem dM_rate_74 : decode bM_rate 74 = .ok (.ireturn, 1) := by decide +kernel
theorem dM_step_0 : decode bM_step 0 = .ok (.aload_n 0, 1) := by decide +kernel
theorem dM_step_1 : decode bM_step 1 = .ok (.iconst 0, 1) := by decide +kernel
theorem dM_step_2 : decode bM_step 2 = .ok (.putfield 51, 3) := by decide +kernel
theorem dM_step_5 : decode bM_step 5 = .ok (.iload_n 1, 1) := by decide +kernel
theorem dM_step_6 : decode bM_step 6 = .ok (.iconst 0, 1) := by decide +kernel
theorem dM_step_7 : decode bM_step 7 = .ok (.bipush 20, 2) := by decide +kernel
theorem dM_step_9 : decode bM_step 9 = .ok (.invokestatic 54, 3) := by decide +kernel
theorem dM_step_12 : decode bM_step 12 = .ok (.ifCond .ne 5, 3) := by decide +kernel
theorem dM_step_15 : decode bM_step 15 = .ok (.iconst 0, 1) := by decide +kernel
theorem dM_step_16 : decode bM_step 16 = .ok (.ireturn, 1) := by decide +kernel
theorem dM_step_17 : decode bM_step 17 = .ok (.aload_n 0, 1) := by decide +kernel
theorem dM_step_18 : decode bM_step 18 = .ok (.iload_n 1, 1) := by decide +kernel
theorem dM_step_19 : decode bM_step 19 = .ok (.putfield 26, 3) := by decide +kernel
theorem dM_step_22 : decode bM_step 22 = .ok (.aload_n 0, 1) := by decide +kernel
theorem dM_step_23 : decode bM_step 23 = .ok (.iconst 0, 1) := by decide +kernel
theorem dM_step_24 : decode bM_step 24 = .ok (.putfield 65, 3) := by decide +kernel
theorem dM_step_27 : decode bM_step 27 = .ok (.iconst 1, 1) := by decide +kernel
theorem dM_step_28 : decode bM_step 28 = .ok (.ireturn, 1) := by decide +kernel
theorem dM_all_0 : decode bM_all 0 = .ok (.aload_n 0, 1) := by decide +kernel
theorem dM_all_1 : decode bM_all 1 = .ok (.getfield 7, 3) := by decide +kernel
theorem dM_all_4 : decode bM_all 4 = .ok (.iload_n 1, 1) := by decide +kernel
theorem dM_all_5 : decode bM_all 5 = .ok (.iaload, 1) := by decide +kernel
theorem dM_all_6 : decode bM_all 6 = .ok (.aload_n 0, 1) := by decide +kernel
theorem dM_all_7 : decode bM_all 7 = .ok (.getfield 13, 3) := by decide +kernel
theorem dM_all_10 : decode bM_all 10 = .ok (.iload_n 1, 1) := by decide +kernel
theorem dM_all_11 : decode bM_all 11 = .ok (.iaload, 1) := by decide +kernel
theorem dM_all_12 : decode bM_all 12 = .ok (.iadd, 1) := by decide +kernel
theorem dM_all_13 : decode bM_all 13 = .ok (.ireturn, 1) := by decide +kernel
theorem dM_takes_0 : decode bM_takes 0 = .ok (.aload_n 0, 1) := by decide +kernel
theorem dM_takes_1 : decode bM_takes 1 = .ok (.iload_n 2, 1) := by decide +kernel
theorem dM_takes_2 : decode bM_takes 2 = .ok (.invokevirtual 73, 3) := by decide +kernel
theorem dM_takes_5 : decode bM_takes 5 = .ok (.aload_n 0, 1) := by decide +kernel
theorem dM_takes_6 : decode bM_takes 6 = .ok (.getfield 19, 3) := by decide +kernel
theorem dM_takes_9 : decode bM_takes 9 = .ok (.iload_n 1, 1) := by decide +kernel
theorem dM_takes_10 : decode bM_takes 10 = .ok (.iaload, 1) := by decide +kernel
theorem dM_takes_11 : decode bM_takes 11 = .ok (.imul, 1) := by decide +kernel
theorem dM_takes_12 : decode bM_takes 12 = .ok (.istore_n 3, 1) := by decide +kernel
theorem dM_takes_13 : decode bM_takes 13 = .ok (.iload_n 3, 1) := by decide +kernel
theorem dM_takes_14 : decode bM_takes 14 = .ok (.aload_n 0, 1) := by decide +kernel
theorem dM_takes_15 : decode bM_takes 15 = .ok (.getfield 16, 3) := by decide +kernel
theorem dM_takes_18 : decode bM_takes 18 = .ok (.iload_n 1, 1) := by decide +kernel
theorem dM_takes_19 : decode bM_takes 19 = .ok (.iaload, 1) := by decide +kernel
theorem dM_takes_20 : decode bM_takes 20 = .ok (.idiv, 1) := by decide +kernel
theorem dM_takes_21 : decode bM_takes 21 = .ok (.iload_n 3, 1) := by decide +kernel
theorem dM_takes_22 : decode bM_takes 22 = .ok (.aload_n 0, 1) := by decide +kernel
theorem dM_takes_23 : decode bM_takes 23 = .ok (.getfield 16, 3) := by decide +kernel
theorem dM_takes_26 : decode bM_takes 26 = .ok (.iload_n 1, 1) := by decide +kernel
theorem dM_takes_27 : decode bM_takes 27 = .ok (.iaload, 1) := by decide +kernel
theorem dM_takes_28 : decode bM_takes 28 = .ok (.irem, 1) := by decide +kernel
theorem dM_takes_29 : decode bM_takes 29 = .ok (.ifCond .le 7, 3) := by decide +kernel
theorem dM_takes_32 : decode bM_takes 32 = .ok (.iconst 1, 1) := by decide +kernel
theorem dM_takes_33 : decode bM_takes 33 = .ok (.goto 4, 3) := by decide +kernel
theorem dM_takes_36 : decode bM_takes 36 = .ok (.iconst 0, 1) := by decide +kernel
theorem dM_takes_37 : decode bM_takes 37 = .ok (.iadd, 1) := by decide +kernel
theorem dM_takes_38 : decode bM_takes 38 = .ok (.ireturn, 1) := by decide +kernel
theorem dM_spans_0 : decode bM_spans 0 = .ok (.iconst (-1), 1) := by decide +kernel
theorem dM_spans_1 : decode bM_spans 1 = .ok (.istore_n 1, 1) := by decide +kernel
theorem dM_spans_2 : decode bM_spans 2 = .ok (.iconst 1, 1) := by decide +kernel
theorem dM_spans_3 : decode bM_spans 3 = .ok (.istore_n 2, 1) := by decide +kernel
theorem dM_spans_4 : decode bM_spans 4 = .ok (.iconst 0, 1) := by decide +kernel
theorem dM_spans_5 : decode bM_spans 5 = .ok (.istore_n 3, 1) := by decide +kernel
theorem dM_spans_6 : decode bM_spans 6 = .ok (.iload_n 3, 1) := by decide +kernel
theorem dM_spans_7 : decode bM_spans 7 = .ok (.aload_n 0, 1) := by decide +kernel
theorem dM_spans_8 : decode bM_spans 8 = .ok (.getfield 45, 3) := by decide +kernel
theorem dM_spans_11 : decode bM_spans 11 = .ok (.if_icmp .ge 160, 3) := by decide +kernel
theorem dM_spans_14 : decode bM_spans 14 = .ok (.aload_n 0, 1) := by decide +kernel
theorem dM_spans_15 : decode bM_spans 15 = .ok (.getfield 39, 3) := by decide +kernel
theorem dM_spans_18 : decode bM_spans 18 = .ok (.iload_n 3, 1) := by decide +kernel
theorem dM_spans_19 : decode bM_spans 19 = .ok (.iconst (-1), 1) := by decide +kernel
theorem dM_spans_20 : decode bM_spans 20 = .ok (.iastore, 1) := by decide +kernel
theorem dM_spans_21 : decode bM_spans 21 = .ok (.iconst 0, 1) := by decide +kernel
theorem dM_spans_22 : decode bM_spans 22 = .ok (.istore 4, 2) := by decide +kernel
theorem dM_spans_24 : decode bM_spans 24 = .ok (.iload 4, 2) := by decide +kernel
theorem dM_spans_26 : decode bM_spans 26 = .ok (.aload_n 0, 1) := by decide +kernel
theorem dM_spans_27 : decode bM_spans 27 = .ok (.getfield 62, 3) := by decide +kernel
theorem dM_spans_30 : decode bM_spans 30 = .ok (.if_icmp .ge 54, 3) := by decide +kernel
theorem dM_spans_33 : decode bM_spans 33 = .ok (.aload_n 0, 1) := by decide +kernel
theorem dM_spans_34 : decode bM_spans 34 = .ok (.getfield 30, 3) := by decide +kernel
theorem dM_spans_37 : decode bM_spans 37 = .ok (.iload 4, 2) := by decide +kernel
theorem dM_spans_39 : decode bM_spans 39 = .ok (.iaload, 1) := by decide +kernel
theorem dM_spans_40 : decode bM_spans 40 = .ok (.iload_n 3, 1) := by decide +kernel
theorem dM_spans_41 : decode bM_spans 41 = .ok (.if_icmp .ne 37, 3) := by decide +kernel
theorem dM_spans_44 : decode bM_spans 44 = .ok (.aload_n 0, 1) := by decide +kernel
theorem dM_spans_45 : decode bM_spans 45 = .ok (.getfield 39, 3) := by decide +kernel
theorem dM_spans_48 : decode bM_spans 48 = .ok (.iload_n 3, 1) := by decide +kernel
theorem dM_spans_49 : decode bM_spans 49 = .ok (.aload_n 0, 1) := by decide +kernel
theorem dM_spans_50 : decode bM_spans 50 = .ok (.getfield 39, 3) := by decide +kernel
theorem dM_spans_53 : decode bM_spans 53 = .ok (.iload_n 3, 1) := by decide +kernel
theorem dM_spans_54 : decode bM_spans 54 = .ok (.iaload, 1) := by decide +kernel
theorem dM_spans_55 : decode bM_spans 55 = .ok (.ifCond .ge 8, 3) := by decide +kernel
theorem dM_spans_58 : decode bM_spans 58 = .ok (.iload 4, 2) := by decide +kernel
theorem dM_spans_60 : decode bM_spans 60 = .ok (.goto 9, 3) := by decide +kernel
theorem dM_spans_63 : decode bM_spans 63 = .ok (.aload_n 0, 1) := by decide +kernel
theorem dM_spans_64 : decode bM_spans 64 = .ok (.getfield 39, 3) := by decide +kernel
theorem dM_spans_67 : decode bM_spans 67 = .ok (.iload_n 3, 1) := by decide +kernel
theorem dM_spans_68 : decode bM_spans 68 = .ok (.iaload, 1) := by decide +kernel
theorem dM_spans_69 : decode bM_spans 69 = .ok (.iastore, 1) := by decide +kernel
theorem dM_spans_70 : decode bM_spans 70 = .ok (.aload_n 0, 1) := by decide +kernel
theorem dM_spans_71 : decode bM_spans 71 = .ok (.getfield 42, 3) := by decide +kernel
theorem dM_spans_74 : decode bM_spans 74 = .ok (.iload_n 3, 1) := by decide +kernel
theorem dM_spans_75 : decode bM_spans 75 = .ok (.iload 4, 2) := by decide +kernel
theorem dM_spans_77 : decode bM_spans 77 = .ok (.iastore, 1) := by decide +kernel
theorem dM_spans_78 : decode bM_spans 78 = .ok (.iinc 4 1, 3) := by decide +kernel
theorem dM_spans_81 : decode bM_spans 81 = .ok (.goto (-57), 3) := by decide +kernel
theorem dM_spans_84 : decode bM_spans 84 = .ok (.aload_n 0, 1) := by decide +kernel
theorem dM_spans_85 : decode bM_spans 85 = .ok (.getfield 39, 3) := by decide +kernel
theorem dM_spans_88 : decode bM_spans 88 = .ok (.iload_n 3, 1) := by decide +kernel
theorem dM_spans_89 : decode bM_spans 89 = .ok (.iaload, 1) := by decide +kernel
theorem dM_spans_90 : decode bM_spans 90 = .ok (.ifCond .lt 75, 3) := by decide +kernel
theorem dM_spans_93 : decode bM_spans 93 = .ok (.iload_n 2, 1) := by decide +kernel
theorem dM_spans_94 : decode bM_spans 94 = .ok (.ifCond .eq 67, 3) := by decide +kernel
theorem dM_spans_97 : decode bM_spans 97 = .ok (.iload_n 1, 1) := by decide +kernel
theorem dM_spans_98 : decode bM_spans 98 = .ok (.ifCond .lt 59, 3) := by decide +kernel
theorem dM_spans_101 : decode bM_spans 101 = .ok (.aload_n 0, 1) := by decide +kernel
theorem dM_spans_102 : decode bM_spans 102 = .ok (.getfield 39, 3) := by decide +kernel
theorem dM_spans_105 : decode bM_spans 105 = .ok (.iload_n 3, 1) := by decide +kernel
theorem dM_spans_106 : decode bM_spans 106 = .ok (.iaload, 1) := by decide +kernel
theorem dM_spans_107 : decode bM_spans 107 = .ok (.aload_n 0, 1) := by decide +kernel
theorem dM_spans_108 : decode bM_spans 108 = .ok (.getfield 39, 3) := by decide +kernel
theorem dM_spans_111 : decode bM_spans 111 = .ok (.iload_n 1, 1) := by decide +kernel
theorem dM_spans_112 : decode bM_spans 112 = .ok (.ifCond .lt 7, 3) := by decide +kernel
theorem dM_spans_115 : decode bM_spans 115 = .ok (.iload_n 1, 1) := by decide +kernel
theorem dM_spans_116 : decode bM_spans 116 = .ok (.goto 4, 3) := by decide +kernel
theorem dM_spans_119 : decode bM_spans 119 = .ok (.iconst 0, 1) := by decide +kernel
theorem dM_spans_120 : decode bM_spans 120 = .ok (.iaload, 1) := by decide +kernel
theorem dM_spans_121 : decode bM_spans 121 = .ok (.isub, 1) := by decide +kernel
theorem dM_spans_122 : decode bM_spans 122 = .ok (.aload_n 0, 1) := by decide +kernel
theorem dM_spans_123 : decode bM_spans 123 = .ok (.getfield 48, 3) := by decide +kernel
theorem dM_spans_126 : decode bM_spans 126 = .ok (.if_icmp .le 35, 3) := by decide +kernel
theorem dM_spans_129 : decode bM_spans 129 = .ok (.aload_n 0, 1) := by decide +kernel
theorem dM_spans_130 : decode bM_spans 130 = .ok (.getfield 42, 3) := by decide +kernel
theorem dM_spans_133 : decode bM_spans 133 = .ok (.iload_n 3, 1) := by decide +kernel
theorem dM_spans_134 : decode bM_spans 134 = .ok (.iaload, 1) := by decide +kernel
theorem dM_spans_135 : decode bM_spans 135 = .ok (.aload_n 0, 1) := by decide +kernel
theorem dM_spans_136 : decode bM_spans 136 = .ok (.getfield 42, 3) := by decide +kernel
theorem dM_spans_139 : decode bM_spans 139 = .ok (.iload_n 1, 1) := by decide +kernel
theorem dM_spans_140 : decode bM_spans 140 = .ok (.ifCond .lt 7, 3) := by decide +kernel
theorem dM_spans_143 : decode bM_spans 143 = .ok (.iload_n 1, 1) := by decide +kernel
theorem dM_spans_144 : decode bM_spans 144 = .ok (.goto 4, 3) := by decide +kernel
theorem dM_spans_147 : decode bM_spans 147 = .ok (.iconst 0, 1) := by decide +kernel
theorem dM_spans_148 : decode bM_spans 148 = .ok (.iaload, 1) := by decide +kernel
theorem dM_spans_149 : decode bM_spans 149 = .ok (.isub, 1) := by decide +kernel
theorem dM_spans_150 : decode bM_spans 150 = .ok (.aload_n 0, 1) := by decide +kernel
theorem dM_spans_151 : decode bM_spans 151 = .ok (.getfield 48, 3) := by decide +kernel
theorem dM_spans_154 : decode bM_spans 154 = .ok (.if_icmp .le 7, 3) := by decide +kernel
theorem dM_spans_157 : decode bM_spans 157 = .ok (.iconst 1, 1) := by decide +kernel
theorem dM_spans_158 : decode bM_spans 158 = .ok (.goto 4, 3) := by decide +kernel
theorem dM_spans_161 : decode bM_spans 161 = .ok (.iconst 0, 1) := by decide +kernel
theorem dM_spans_162 : decode bM_spans 162 = .ok (.istore_n 2, 1) := by decide +kernel
theorem dM_spans_163 : decode bM_spans 163 = .ok (.iload_n 3, 1) := by decide +kernel
theorem dM_spans_164 : decode bM_spans 164 = .ok (.istore_n 1, 1) := by decide +kernel
theorem dM_spans_165 : decode bM_spans 165 = .ok (.iinc 3 1, 3) := by decide +kernel
theorem dM_spans_168 : decode bM_spans 168 = .ok (.goto (-162), 3) := by decide +kernel
theorem dM_spans_171 : decode bM_spans 171 = .ok (.iload_n 2, 1) := by decide +kernel
theorem dM_spans_172 : decode bM_spans 172 = .ok (.ireturn, 1) := by decide +kernel
theorem dM_times_0 : decode bM_times 0 = .ok (.iconst 0, 1) := by decide +kernel
theorem dM_times_1 : decode bM_times 1 = .ok (.istore_n 1, 1) := by decide +kernel
theorem dM_times_2 : decode bM_times 2 = .ok (.iconst (-1), 1) := by decide +kernel
theorem dM_times_3 : decode bM_times 3 = .ok (.istore_n 2, 1) := by decide +kernel
theorem dM_times_4 : decode bM_times 4 = .ok (.aload_n 0, 1) := by decide +kernel
theorem dM_times_5 : decode bM_times 5 = .ok (.getfield 45, 3) := by decide +kernel
theorem dM_times_8 : decode bM_times 8 = .ok (.iconst 1, 1) := by decide +kernel
theorem dM_times_9 : decode bM_times 9 = .ok (.isub, 1) := by decide +kernel
theorem dM_times_10 : decode bM_times 10 = .ok (.istore_n 3, 1) := by decide +kernel
theorem dM_times_11 : decode bM_times 11 = .ok (.iload_n 3, 1) := by decide +kernel
theorem dM_times_12 : decode bM_times 12 = .ok (.ifCond .lt 177, 3) := by decide +kernel
theorem dM_times_15 : decode bM_times 15 = .ok (.aload_n 0, 1) := by decide +kernel
theorem dM_times_16 : decode bM_times 16 = .ok (.getfield 39, 3) := by decide +kernel
theorem dM_times_19 : decode bM_times 19 = .ok (.iload_n 3, 1) := by decide +kernel
theorem dM_times_20 : decode bM_times 20 = .ok (.iaload, 1) := by decide +kernel
theorem dM_times_21 : decode bM_times 21 = .ok (.ifCond .ge 6, 3) := by decide +kernel
theorem dM_times_24 : decode bM_times 24 = .ok (.goto 159, 3) := by decide +kernel
theorem dM_times_27 : decode bM_times 27 = .ok (.iconst 0, 1) := by decide +kernel
theorem dM_times_28 : decode bM_times 28 = .ok (.istore 4, 2) := by decide +kernel
theorem dM_times_30 : decode bM_times 30 = .ok (.iconst 0, 1) := by decide +kernel
theorem dM_times_31 : decode bM_times 31 = .ok (.istore 5, 2) := by decide +kernel
theorem dM_times_33 : decode bM_times 33 = .ok (.iload 5, 2) := by decide +kernel
theorem dM_times_35 : decode bM_times 35 = .ok (.aload_n 0, 1) := by decide +kernel
theorem dM_times_36 : decode bM_times 36 = .ok (.getfield 42, 3) := by decide +kernel
theorem dM_times_39 : decode bM_times 39 = .ok (.iload_n 3, 1) := by decide +kernel
theorem dM_times_40 : decode bM_times 40 = .ok (.iaload, 1) := by decide +kernel
theorem dM_times_41 : decode bM_times 41 = .ok (.if_icmp .gt 140, 3) := by decide +kernel
theorem dM_times_44 : decode bM_times 44 = .ok (.iload 5, 2) := by decide +kernel
theorem dM_times_46 : decode bM_times 46 = .ok (.aload_n 0, 1) := by decide +kernel
theorem dM_times_47 : decode bM_times 47 = .ok (.getfield 39, 3) := by decide +kernel
theorem dM_times_50 : decode bM_times 50 = .ok (.iload_n 3, 1) := by decide +kernel
theorem dM_times_51 : decode bM_times 51 = .ok (.iaload, 1) := by decide +kernel
theorem dM_times_52 : decode bM_times 52 = .ok (.if_icmp .gt 19, 3) := by decide +kernel
theorem dM_times_55 : decode bM_times 55 = .ok (.aload_n 0, 1) := by decide +kernel
theorem dM_times_56 : decode bM_times 56 = .ok (.getfield 36, 3) := by decide +kernel
theorem dM_times_59 : decode bM_times 59 = .ok (.bipush 8, 2) := by decide +kernel
theorem dM_times_61 : decode bM_times 61 = .ok (.iload_n 3, 1) := by decide +kernel
theorem dM_times_62 : decode bM_times 62 = .ok (.imul, 1) := by decide +kernel
theorem dM_times_63 : decode bM_times 63 = .ok (.iload 5, 2) := by decide +kernel
theorem dM_times_65 : decode bM_times 65 = .ok (.iadd, 1) := by decide +kernel
theorem dM_times_66 : decode bM_times 66 = .ok (.iconst 0, 1) := by decide +kernel
theorem dM_times_67 : decode bM_times 67 = .ok (.iastore, 1) := by decide +kernel
theorem dM_times_68 : decode bM_times 68 = .ok (.goto 71, 3) := by decide +kernel
theorem dM_times_71 : decode bM_times 71 = .ok (.iload_n 2, 1) := by decide +kernel
theorem dM_times_72 : decode bM_times 72 = .ok (.ifCond .ge 7, 3) := by decide +kernel
theorem dM_times_75 : decode bM_times 75 = .ok (.iconst 0, 1) := by decide +kernel
theorem dM_times_76 : decode bM_times 76 = .ok (.goto 22, 3) := by decide +kernel
theorem dM_times_79 : decode bM_times 79 = .ok (.aload_n 0, 1) := by decide +kernel
theorem dM_times_80 : decode bM_times 80 = .ok (.getfield 36, 3) := by decide +kernel
theorem dM_times_83 : decode bM_times 83 = .ok (.bipush 8, 2) := by decide +kernel
theorem dM_times_85 : decode bM_times 85 = .ok (.iload_n 2, 1) := by decide +kernel
theorem dM_times_86 : decode bM_times 86 = .ok (.imul, 1) := by decide +kernel
theorem dM_times_87 : decode bM_times 87 = .ok (.iload 5, 2) := by decide +kernel
theorem dM_times_89 : decode bM_times 89 = .ok (.iadd, 1) := by decide +kernel
theorem dM_times_90 : decode bM_times 90 = .ok (.iconst 1, 1) := by decide +kernel
theorem dM_times_91 : decode bM_times 91 = .ok (.iadd, 1) := by decide +kernel
theorem dM_times_92 : decode bM_times 92 = .ok (.aload_n 0, 1) := by decide +kernel
theorem dM_times_93 : decode bM_times 93 = .ok (.getfield 48, 3) := by decide +kernel
theorem dM_times_96 : decode bM_times 96 = .ok (.iadd, 1) := by decide +kernel
theorem dM_times_97 : decode bM_times 97 = .ok (.iaload, 1) := by decide +kernel
theorem dM_times_98 : decode bM_times 98 = .ok (.istore 6, 2) := by decide +kernel
theorem dM_times_100 : decode bM_times 100 = .ok (.iload 6, 2) := by decide +kernel
theorem dM_times_102 : decode bM_times 102 = .ok (.iload 4, 2) := by decide +kernel
theorem dM_times_104 : decode bM_times 104 = .ok (.if_icmp .le 8, 3) := by decide +kernel
theorem dM_times_107 : decode bM_times 107 = .ok (.iload 6, 2) := by decide +kernel
theorem dM_times_109 : decode bM_times 109 = .ok (.goto 5, 3) := by decide +kernel
theorem dM_times_112 : decode bM_times 112 = .ok (.iload 4, 2) := by decide +kernel
theorem dM_times_114 : decode bM_times 114 = .ok (.istore 4, 2) := by decide +kernel
theorem dM_times_116 : decode bM_times 116 = .ok (.iload 4, 2) := by decide +kernel
theorem dM_times_118 : decode bM_times 118 = .ok (.aload_n 0, 1) := by decide +kernel
theorem dM_times_119 : decode bM_times 119 = .ok (.getfield 26, 3) := by decide +kernel
theorem dM_times_122 : decode bM_times 122 = .ok (.iadd, 1) := by decide +kernel
theorem dM_times_123 : decode bM_times 123 = .ok (.istore 4, 2) := by decide +kernel
theorem dM_times_125 : decode bM_times 125 = .ok (.aload_n 0, 1) := by decide +kernel
theorem dM_times_126 : decode bM_times 126 = .ok (.getfield 36, 3) := by decide +kernel
theorem dM_times_129 : decode bM_times 129 = .ok (.bipush 8, 2) := by decide +kernel
theorem dM_times_131 : decode bM_times 131 = .ok (.iload_n 3, 1) := by decide +kernel
theorem dM_times_132 : decode bM_times 132 = .ok (.imul, 1) := by decide +kernel
theorem dM_times_133 : decode bM_times 133 = .ok (.iload 5, 2) := by decide +kernel
theorem dM_times_135 : decode bM_times 135 = .ok (.iadd, 1) := by decide +kernel
theorem dM_times_136 : decode bM_times 136 = .ok (.iload 4, 2) := by decide +kernel
theorem dM_times_138 : decode bM_times 138 = .ok (.iastore, 1) := by decide +kernel
theorem dM_times_139 : decode bM_times 139 = .ok (.aload_n 0, 1) := by decide +kernel
theorem dM_times_140 : decode bM_times 140 = .ok (.getfield 30, 3) := by decide +kernel
theorem dM_times_143 : decode bM_times 143 = .ok (.iload 5, 2) := by decide +kernel
theorem dM_times_145 : decode bM_times 145 = .ok (.iaload, 1) := by decide +kernel
theorem dM_times_146 : decode bM_times 146 = .ok (.iload_n 3, 1) := by decide +kernel
theorem dM_times_147 : decode bM_times 147 = .ok (.if_icmp .ne 28, 3) := by decide +kernel
theorem dM_times_150 : decode bM_times 150 = .ok (.iload 4, 2) := by decide +kernel
theorem dM_times_152 : decode bM_times 152 = .ok (.aload_n 0, 1) := by decide +kernel
theorem dM_times_153 : decode bM_times 153 = .ok (.iload_n 3, 1) := by decide +kernel
theorem dM_times_154 : decode bM_times 154 = .ok (.iload 5, 2) := by decide +kernel
theorem dM_times_156 : decode bM_times 156 = .ok (.invokevirtual 76, 3) := by decide +kernel
theorem dM_times_159 : decode bM_times 159 = .ok (.iadd, 1) := by decide +kernel
theorem dM_times_160 : decode bM_times 160 = .ok (.istore 4, 2) := by decide +kernel
theorem dM_times_162 : decode bM_times 162 = .ok (.iload 4, 2) := by decide +kernel
theorem dM_times_164 : decode bM_times 164 = .ok (.iload_n 1, 1) := by decide +kernel
theorem dM_times_165 : decode bM_times 165 = .ok (.if_icmp .le 8, 3) := by decide +kernel
theorem dM_times_168 : decode bM_times 168 = .ok (.iload 4, 2) := by decide +kernel
theorem dM_times_170 : decode bM_times 170 = .ok (.goto 4, 3) := by decide +kernel
theorem dM_times_173 : decode bM_times 173 = .ok (.iload_n 1, 1) := by decide +kernel
theorem dM_times_174 : decode bM_times 174 = .ok (.istore_n 1, 1) := by decide +kernel
theorem dM_times_175 : decode bM_times 175 = .ok (.iinc 5 1, 3) := by decide +kernel
theorem dM_times_178 : decode bM_times 178 = .ok (.goto (-145), 3) := by decide +kernel
theorem dM_times_181 : decode bM_times 181 = .ok (.iload_n 3, 1) := by decide +kernel
theorem dM_times_182 : decode bM_times 182 = .ok (.istore_n 2, 1) := by decide +kernel
theorem dM_times_183 : decode bM_times 183 = .ok (.iinc 3 (-1), 3) := by decide +kernel
theorem dM_times_186 : decode bM_times 186 = .ok (.goto (-175), 3) := by decide +kernel
theorem dM_times_189 : decode bM_times 189 = .ok (.iload_n 1, 1) := by decide +kernel
theorem dM_times_190 : decode bM_times 190 = .ok (.ireturn, 1) := by decide +kernel
theorem dM_steps_0 : decode bM_steps 0 = .ok (.iconst 0, 1) := by decide +kernel
theorem dM_steps_1 : decode bM_steps 1 = .ok (.istore_n 1, 1) := by decide +kernel
theorem dM_steps_2 : decode bM_steps 2 = .ok (.iconst 0, 1) := by decide +kernel
theorem dM_steps_3 : decode bM_steps 3 = .ok (.istore_n 2, 1) := by decide +kernel
theorem dM_steps_4 : decode bM_steps 4 = .ok (.iload_n 2, 1) := by decide +kernel
theorem dM_steps_5 : decode bM_steps 5 = .ok (.aload_n 0, 1) := by decide +kernel
theorem dM_steps_6 : decode bM_steps 6 = .ok (.getfield 45, 3) := by decide +kernel
theorem dM_steps_9 : decode bM_steps 9 = .ok (.if_icmp .ge 38, 3) := by decide +kernel
theorem dM_steps_12 : decode bM_steps 12 = .ok (.iload_n 1, 1) := by decide +kernel
theorem dM_steps_13 : decode bM_steps 13 = .ok (.aload_n 0, 1) := by decide +kernel
theorem dM_steps_14 : decode bM_steps 14 = .ok (.getfield 39, 3) := by decide +kernel
theorem dM_steps_17 : decode bM_steps 17 = .ok (.iload_n 2, 1) := by decide +kernel
theorem dM_steps_18 : decode bM_steps 18 = .ok (.iaload, 1) := by decide +kernel
theorem dM_steps_19 : decode bM_steps 19 = .ok (.ifCond .ge 7, 3) := by decide +kernel
theorem dM_steps_22 : decode bM_steps 22 = .ok (.iconst 0, 1) := by decide +kernel
theorem dM_steps_23 : decode bM_steps 23 = .ok (.goto 16, 3) := by decide +kernel
theorem dM_steps_26 : decode bM_steps 26 = .ok (.aload_n 0, 1) := by decide +kernel
theorem dM_steps_27 : decode bM_steps 27 = .ok (.getfield 42, 3) := by decide +kernel
theorem dM_steps_30 : decode bM_steps 30 = .ok (.iload_n 2, 1) := by decide +kernel
theorem dM_steps_31 : decode bM_steps 31 = .ok (.iaload, 1) := by decide +kernel
theorem dM_steps_32 : decode bM_steps 32 = .ok (.aload_n 0, 1) := by decide +kernel
theorem dM_steps_33 : decode bM_steps 33 = .ok (.getfield 39, 3) := by decide +kernel
theorem dM_steps_36 : decode bM_steps 36 = .ok (.iload_n 2, 1) := by decide +kernel
theorem dM_steps_37 : decode bM_steps 37 = .ok (.iaload, 1) := by decide +kernel
theorem dM_steps_38 : decode bM_steps 38 = .ok (.isub, 1) := by decide +kernel
theorem dM_steps_39 : decode bM_steps 39 = .ok (.iadd, 1) := by decide +kernel
theorem dM_steps_40 : decode bM_steps 40 = .ok (.istore_n 1, 1) := by decide +kernel
theorem dM_steps_41 : decode bM_steps 41 = .ok (.iinc 2 1, 3) := by decide +kernel
theorem dM_steps_44 : decode bM_steps 44 = .ok (.goto (-40), 3) := by decide +kernel
theorem dM_steps_47 : decode bM_steps 47 = .ok (.iload_n 1, 1) := by decide +kernel
theorem dM_steps_48 : decode bM_steps 48 = .ok (.ireturn, 1) := by decide +kernel
theorem dM_goesOn_0 : decode bM_goesOn 0 = .ok (.aload_n 0, 1) := by decide +kernel
theorem dM_goesOn_1 : decode bM_goesOn 1 = .ok (.getfield 62, 3) := by decide +kernel
theorem dM_goesOn_4 : decode bM_goesOn 4 = .ok (.iconst 1, 1) := by decide +kernel
theorem dM_goesOn_5 : decode bM_goesOn 5 = .ok (.isub, 1) := by decide +kernel
theorem dM_goesOn_6 : decode bM_goesOn 6 = .ok (.istore_n 1, 1) := by decide +kernel
theorem dM_goesOn_7 : decode bM_goesOn 7 = .ok (.iload_n 1, 1) := by decide +kernel
theorem dM_goesOn_8 : decode bM_goesOn 8 = .ok (.ifCond .lt 33, 3) := by decide +kernel
theorem dM_goesOn_11 : decode bM_goesOn 11 = .ok (.aload_n 0, 1) := by decide +kernel
theorem dM_goesOn_12 : decode bM_goesOn 12 = .ok (.getfield 30, 3) := by decide +kernel
theorem dM_goesOn_15 : decode bM_goesOn 15 = .ok (.iload_n 1, 1) := by decide +kernel
theorem dM_goesOn_16 : decode bM_goesOn 16 = .ok (.iaload, 1) := by decide +kernel
theorem dM_goesOn_17 : decode bM_goesOn 17 = .ok (.ifCond .lt 18, 3) := by decide +kernel
theorem dM_goesOn_20 : decode bM_goesOn 20 = .ok (.aload_n 0, 1) := by decide +kernel
theorem dM_goesOn_21 : decode bM_goesOn 21 = .ok (.getfield 30, 3) := by decide +kernel
theorem dM_goesOn_24 : decode bM_goesOn 24 = .ok (.iload_n 1, 1) := by decide +kernel
theorem dM_goesOn_25 : decode bM_goesOn 25 = .ok (.iaload, 1) := by decide +kernel
theorem dM_goesOn_26 : decode bM_goesOn 26 = .ok (.aload_n 0, 1) := by decide +kernel
theorem dM_goesOn_27 : decode bM_goesOn 27 = .ok (.getfield 45, 3) := by decide +kernel
theorem dM_goesOn_30 : decode bM_goesOn 30 = .ok (.iconst 1, 1) := by decide +kernel
theorem dM_goesOn_31 : decode bM_goesOn 31 = .ok (.isub, 1) := by decide +kernel
theorem dM_goesOn_32 : decode bM_goesOn 32 = .ok (.if_icmp .ne 9, 3) := by decide +kernel
theorem dM_goesOn_35 : decode bM_goesOn 35 = .ok (.iinc 1 (-1), 3) := by decide +kernel
theorem dM_goesOn_38 : decode bM_goesOn 38 = .ok (.goto (-31), 3) := by decide +kernel
theorem dM_goesOn_41 : decode bM_goesOn 41 = .ok (.iload_n 1, 1) := by decide +kernel
theorem dM_goesOn_42 : decode bM_goesOn 42 = .ok (.ifCond .ge 5, 3) := by decide +kernel
theorem dM_goesOn_45 : decode bM_goesOn 45 = .ok (.iconst 0, 1) := by decide +kernel
theorem dM_goesOn_46 : decode bM_goesOn 46 = .ok (.ireturn, 1) := by decide +kernel
theorem dM_goesOn_47 : decode bM_goesOn 47 = .ok (.aload_n 0, 1) := by decide +kernel
theorem dM_goesOn_48 : decode bM_goesOn 48 = .ok (.getfield 30, 3) := by decide +kernel
theorem dM_goesOn_51 : decode bM_goesOn 51 = .ok (.iload_n 1, 1) := by decide +kernel
theorem dM_goesOn_52 : decode bM_goesOn 52 = .ok (.iaload, 1) := by decide +kernel
theorem dM_goesOn_53 : decode bM_goesOn 53 = .ok (.iconst 1, 1) := by decide +kernel
theorem dM_goesOn_54 : decode bM_goesOn 54 = .ok (.iadd, 1) := by decide +kernel
theorem dM_goesOn_55 : decode bM_goesOn 55 = .ok (.istore_n 2, 1) := by decide +kernel
theorem dM_goesOn_56 : decode bM_goesOn 56 = .ok (.iload_n 1, 1) := by decide +kernel
theorem dM_goesOn_57 : decode bM_goesOn 57 = .ok (.aload_n 0, 1) := by decide +kernel
theorem dM_goesOn_58 : decode bM_goesOn 58 = .ok (.getfield 62, 3) := by decide +kernel
theorem dM_goesOn_61 : decode bM_goesOn 61 = .ok (.if_icmp .ge 29, 3) := by decide +kernel
theorem dM_goesOn_64 : decode bM_goesOn 64 = .ok (.aload_n 0, 1) := by decide +kernel
theorem dM_goesOn_65 : decode bM_goesOn 65 = .ok (.getfield 30, 3) := by decide +kernel
theorem dM_goesOn_68 : decode bM_goesOn 68 = .ok (.iload_n 1, 1) := by decide +kernel
theorem dM_goesOn_69 : decode bM_goesOn 69 = .ok (.aload_n 0, 1) := by decide +kernel
theorem dM_goesOn_70 : decode bM_goesOn 70 = .ok (.getfield 30, 3) := by decide +kernel
theorem dM_goesOn_73 : decode bM_goesOn 73 = .ok (.iload_n 1, 1) := by decide +kernel
theorem dM_goesOn_74 : decode bM_goesOn 74 = .ok (.iaload, 1) := by decide +kernel
theorem dM_goesOn_75 : decode bM_goesOn 75 = .ok (.ifCond .ge 7, 3) := by decide +kernel
theorem dM_goesOn_78 : decode bM_goesOn 78 = .ok (.iconst (-1), 1) := by decide +kernel
theorem dM_goesOn_79 : decode bM_goesOn 79 = .ok (.goto 4, 3) := by decide +kernel
theorem dM_goesOn_82 : decode bM_goesOn 82 = .ok (.iload_n 2, 1) := by decide +kernel
theorem dM_goesOn_83 : decode bM_goesOn 83 = .ok (.iastore, 1) := by decide +kernel
theorem dM_goesOn_84 : decode bM_goesOn 84 = .ok (.iinc 1 1, 3) := by decide +kernel
theorem dM_goesOn_87 : decode bM_goesOn 87 = .ok (.goto (-31), 3) := by decide +kernel
theorem dM_goesOn_90 : decode bM_goesOn 90 = .ok (.iconst 1, 1) := by decide +kernel
theorem dM_goesOn_91 : decode bM_goesOn 91 = .ok (.ireturn, 1) := by decide +kernel
theorem dM_isAllowed_0 : decode bM_isAllowed 0 = .ok (.iconst 1, 1) := by decide +kernel
theorem dM_isAllowed_1 : decode bM_isAllowed 1 = .ok (.istore_n 1, 1) := by decide +kernel
theorem dM_isAllowed_2 : decode bM_isAllowed 2 = .ok (.iconst 0, 1) := by decide +kernel
theorem dM_isAllowed_3 : decode bM_isAllowed 3 = .ok (.istore_n 2, 1) := by decide +kernel
theorem dM_isAllowed_4 : decode bM_isAllowed 4 = .ok (.iload_n 2, 1) := by decide +kernel
theorem dM_isAllowed_5 : decode bM_isAllowed 5 = .ok (.aload_n 0, 1) := by decide +kernel
theorem dM_isAllowed_6 : decode bM_isAllowed 6 = .ok (.getfield 62, 3) := by decide +kernel
theorem dM_isAllowed_9 : decode bM_isAllowed 9 = .ok (.if_icmp .ge 55, 3) := by decide +kernel
theorem dM_isAllowed_12 : decode bM_isAllowed 12 = .ok (.iload_n 1, 1) := by decide +kernel
theorem dM_isAllowed_13 : decode bM_isAllowed 13 = .ok (.ifCond .eq 43, 3) := by decide +kernel
theorem dM_isAllowed_16 : decode bM_isAllowed 16 = .ok (.aload_n 0, 1) := by decide +kernel
theorem dM_isAllowed_17 : decode bM_isAllowed 17 = .ok (.getfield 30, 3) := by decide +kernel
theorem dM_isAllowed_20 : decode bM_isAllowed 20 = .ok (.iload_n 2, 1) := by decide +kernel
theorem dM_isAllowed_21 : decode bM_isAllowed 21 = .ok (.iaload, 1) := by decide +kernel
theorem dM_isAllowed_22 : decode bM_isAllowed 22 = .ok (.ifCond .lt 30, 3) := by decide +kernel
theorem dM_isAllowed_25 : decode bM_isAllowed 25 = .ok (.aload_n 0, 1) := by decide +kernel
theorem dM_isAllowed_26 : decode bM_isAllowed 26 = .ok (.getfield 22, 3) := by decide +kernel
theorem dM_isAllowed_29 : decode bM_isAllowed 29 = .ok (.aload_n 0, 1) := by decide +kernel
theorem dM_isAllowed_30 : decode bM_isAllowed 30 = .ok (.getfield 30, 3) := by decide +kernel
theorem dM_isAllowed_33 : decode bM_isAllowed 33 = .ok (.iload_n 2, 1) := by decide +kernel
theorem dM_isAllowed_34 : decode bM_isAllowed 34 = .ok (.iaload, 1) := by decide +kernel
theorem dM_isAllowed_35 : decode bM_isAllowed 35 = .ok (.ifCond .ge 7, 3) := by decide +kernel
theorem dM_isAllowed_38 : decode bM_isAllowed 38 = .ok (.iconst 0, 1) := by decide +kernel
theorem dM_isAllowed_39 : decode bM_isAllowed 39 = .ok (.goto 9, 3) := by decide +kernel
theorem dM_isAllowed_42 : decode bM_isAllowed 42 = .ok (.aload_n 0, 1) := by decide +kernel
theorem dM_isAllowed_43 : decode bM_isAllowed 43 = .ok (.getfield 30, 3) := by decide +kernel
theorem dM_isAllowed_46 : decode bM_isAllowed 46 = .ok (.iload_n 2, 1) := by decide +kernel
theorem dM_isAllowed_47 : decode bM_isAllowed 47 = .ok (.iaload, 1) := by decide +kernel
theorem dM_isAllowed_48 : decode bM_isAllowed 48 = .ok (.baload, 1) := by decide +kernel
theorem dM_isAllowed_49 : decode bM_isAllowed 49 = .ok (.ifCond .ne 7, 3) := by decide +kernel
theorem dM_isAllowed_52 : decode bM_isAllowed 52 = .ok (.iconst 1, 1) := by decide +kernel
theorem dM_isAllowed_53 : decode bM_isAllowed 53 = .ok (.goto 4, 3) := by decide +kernel
theorem dM_isAllowed_56 : decode bM_isAllowed 56 = .ok (.iconst 0, 1) := by decide +kernel
theorem dM_isAllowed_57 : decode bM_isAllowed 57 = .ok (.istore_n 1, 1) := by decide +kernel
theorem dM_isAllowed_58 : decode bM_isAllowed 58 = .ok (.iinc 2 1, 3) := by decide +kernel
theorem dM_isAllowed_61 : decode bM_isAllowed 61 = .ok (.goto (-57), 3) := by decide +kernel
theorem dM_isAllowed_64 : decode bM_isAllowed 64 = .ok (.iload_n 1, 1) := by decide +kernel
theorem dM_isAllowed_65 : decode bM_isAllowed 65 = .ok (.ifCond .eq 14, 3) := by decide +kernel
theorem dM_isAllowed_68 : decode bM_isAllowed 68 = .ok (.aload_n 0, 1) := by decide +kernel
theorem dM_isAllowed_69 : decode bM_isAllowed 69 = .ok (.invokevirtual 80, 3) := by decide +kernel
theorem dM_isAllowed_72 : decode bM_isAllowed 72 = .ok (.ifCond .eq 7, 3) := by decide +kernel
theorem dM_isAllowed_75 : decode bM_isAllowed 75 = .ok (.iconst 1, 1) := by decide +kernel
theorem dM_isAllowed_76 : decode bM_isAllowed 76 = .ok (.goto 4, 3) := by decide +kernel
theorem dM_isAllowed_79 : decode bM_isAllowed 79 = .ok (.iconst 0, 1) := by decide +kernel
theorem dM_isAllowed_80 : decode bM_isAllowed 80 = .ok (.ireturn, 1) := by decide +kernel
theorem dM_search_0 : decode bM_search 0 = .ok (.iconst 0, 1) := by decide +kernel
theorem dM_search_1 : decode bM_search 1 = .ok (.istore_n 1, 1) := by decide +kernel
theorem dM_search_2 : decode bM_search 2 = .ok (.iload_n 1, 1) := by decide +kernel
theorem dM_search_3 : decode bM_search 3 = .ok (.aload_n 0, 1) := by decide +kernel
theorem dM_search_4 : decode bM_search 4 = .ok (.getfield 62, 3) := by decide +kernel
theorem dM_search_7 : decode bM_search 7 = .ok (.if_icmp .ge 28, 3) := by decide +kernel
theorem dM_search_10 : decode bM_search 10 = .ok (.aload_n 0, 1) := by decide +kernel
theorem dM_search_11 : decode bM_search 11 = .ok (.getfield 30, 3) := by decide +kernel
theorem dM_search_14 : decode bM_search 14 = .ok (.iload_n 1, 1) := by decide +kernel
theorem dM_search_15 : decode bM_search 15 = .ok (.aload_n 0, 1) := by decide +kernel
theorem dM_search_16 : decode bM_search 16 = .ok (.iload_n 1, 1) := by decide +kernel
theorem dM_search_17 : decode bM_search 17 = .ok (.invokevirtual 73, 3) := by decide +kernel
theorem dM_search_20 : decode bM_search 20 = .ok (.ifCond .le 7, 3) := by decide +kernel
theorem dM_search_23 : decode bM_search 23 = .ok (.iconst 0, 1) := by decide +kernel
theorem dM_search_24 : decode bM_search 24 = .ok (.goto 4, 3) := by decide +kernel
theorem dM_search_27 : decode bM_search 27 = .ok (.iconst (-1), 1) := by decide +kernel
theorem dM_search_28 : decode bM_search 28 = .ok (.iastore, 1) := by decide +kernel
theorem dM_search_29 : decode bM_search 29 = .ok (.iinc 1 1, 3) := by decide +kernel
theorem dM_search_32 : decode bM_search 32 = .ok (.goto (-30), 3) := by decide +kernel
theorem dM_search_35 : decode bM_search 35 = .ok (.ldc 84, 2) := by decide +kernel
theorem dM_search_37 : decode bM_search 37 = .ok (.istore_n 1, 1) := by decide +kernel
theorem dM_search_38 : decode bM_search 38 = .ok (.ldc 84, 2) := by decide +kernel
theorem dM_search_40 : decode bM_search 40 = .ok (.istore_n 2, 1) := by decide +kernel
theorem dM_search_41 : decode bM_search 41 = .ok (.iconst 1, 1) := by decide +kernel
theorem dM_search_42 : decode bM_search 42 = .ok (.istore_n 3, 1) := by decide +kernel
theorem dM_search_43 : decode bM_search 43 = .ok (.iload_n 3, 1) := by decide +kernel
theorem dM_search_44 : decode bM_search 44 = .ok (.ifCond .eq 103, 3) := by decide +kernel
theorem dM_search_47 : decode bM_search 47 = .ok (.aload_n 0, 1) := by decide +kernel
theorem dM_search_48 : decode bM_search 48 = .ok (.invokevirtual 85, 3) := by decide +kernel
theorem dM_search_51 : decode bM_search 51 = .ok (.ifCond .eq 10, 3) := by decide +kernel
theorem dM_search_54 : decode bM_search 54 = .ok (.aload_n 0, 1) := by decide +kernel
theorem dM_search_55 : decode bM_search 55 = .ok (.invokevirtual 88, 3) := by decide +kernel
theorem dM_search_58 : decode bM_search 58 = .ok (.goto 5, 3) := by decide +kernel
theorem dM_search_61 : decode bM_search 61 = .ok (.ldc 84, 2) := by decide +kernel
theorem dM_search_63 : decode bM_search 63 = .ok (.istore 4, 2) := by decide +kernel
theorem dM_search_65 : decode bM_search 65 = .ok (.iload 4, 2) := by decide +kernel
theorem dM_search_67 : decode bM_search 67 = .ok (.ldc 84, 2) := by decide +kernel
theorem dM_search_69 : decode bM_search 69 = .ok (.if_icmp .ge 10, 3) := by decide +kernel
theorem dM_search_72 : decode bM_search 72 = .ok (.aload_n 0, 1) := by decide +kernel
theorem dM_search_73 : decode bM_search 73 = .ok (.invokevirtual 92, 3) := by decide +kernel
theorem dM_search_76 : decode bM_search 76 = .ok (.goto 5, 3) := by decide +kernel
theorem dM_search_79 : decode bM_search 79 = .ok (.ldc 84, 2) := by decide +kernel
theorem dM_search_81 : decode bM_search 81 = .ok (.istore 5, 2) := by decide +kernel
theorem dM_search_83 : decode bM_search 83 = .ok (.iload 4, 2) := by decide +kernel
theorem dM_search_85 : decode bM_search 85 = .ok (.iload_n 1, 1) := by decide +kernel
theorem dM_search_86 : decode bM_search 86 = .ok (.if_icmp .lt 15, 3) := by decide +kernel
theorem dM_search_89 : decode bM_search 89 = .ok (.iload 4, 2) := by decide +kernel
theorem dM_search_91 : decode bM_search 91 = .ok (.iload_n 1, 1) := by decide +kernel
theorem dM_search_92 : decode bM_search 92 = .ok (.if_icmp .ne 47, 3) := by decide +kernel
theorem dM_search_95 : decode bM_search 95 = .ok (.iload 5, 2) := by decide +kernel
theorem dM_search_97 : decode bM_search 97 = .ok (.iload_n 2, 1) := by decide +kernel
theorem dM_search_98 : decode bM_search 98 = .ok (.if_icmp .ge 41, 3) := by decide +kernel
theorem dM_search_101 : decode bM_search 101 = .ok (.iload 4, 2) := by decide +kernel
theorem dM_search_103 : decode bM_search 103 = .ok (.istore_n 1, 1) := by decide +kernel
theorem dM_search_104 : decode bM_search 104 = .ok (.iload 5, 2) := by decide +kernel
theorem dM_search_106 : decode bM_search 106 = .ok (.istore_n 2, 1) := by decide +kernel
theorem dM_search_107 : decode bM_search 107 = .ok (.iconst 0, 1) := by decide +kernel
theorem dM_search_108 : decode bM_search 108 = .ok (.istore 6, 2) := by decide +kernel
theorem dM_search_110 : decode bM_search 110 = .ok (.iload 6, 2) := by decide +kernel
theorem dM_search_112 : decode bM_search 112 = .ok (.aload_n 0, 1) := by decide +kernel
theorem dM_search_113 : decode bM_search 113 = .ok (.getfield 62, 3) := by decide +kernel
theorem dM_search_116 : decode bM_search 116 = .ok (.if_icmp .ge 23, 3) := by decide +kernel
theorem dM_search_119 : decode bM_search 119 = .ok (.aload_n 0, 1) := by decide +kernel
theorem dM_search_120 : decode bM_search 120 = .ok (.getfield 33, 3) := by decide +kernel
theorem dM_search_123 : decode bM_search 123 = .ok (.iload 6, 2) := by decide +kernel
theorem dM_search_125 : decode bM_search 125 = .ok (.aload_n 0, 1) := by decide +kernel
theorem dM_search_126 : decode bM_search 126 = .ok (.getfield 30, 3) := by decide +kernel
theorem dM_search_129 : decode bM_search 129 = .ok (.iload 6, 2) := by decide +kernel
theorem dM_search_131 : decode bM_search 131 = .ok (.iaload, 1) := by decide +kernel
theorem dM_search_132 : decode bM_search 132 = .ok (.iastore, 1) := by decide +kernel
theorem dM_search_133 : decode bM_search 133 = .ok (.iinc 6 1, 3) := by decide +kernel
theorem dM_search_136 : decode bM_search 136 = .ok (.goto (-26), 3) := by decide +kernel
theorem dM_search_139 : decode bM_search 139 = .ok (.aload_n 0, 1) := by decide +kernel
theorem dM_search_140 : decode bM_search 140 = .ok (.invokevirtual 95, 3) := by decide +kernel
theorem dM_search_143 : decode bM_search 143 = .ok (.istore_n 3, 1) := by decide +kernel
theorem dM_search_144 : decode bM_search 144 = .ok (.goto (-101), 3) := by decide +kernel
theorem dM_search_147 : decode bM_search 147 = .ok (.aload_n 0, 1) := by decide +kernel
theorem dM_search_148 : decode bM_search 148 = .ok (.iload_n 1, 1) := by decide +kernel
theorem dM_search_149 : decode bM_search 149 = .ok (.ldc 84, 2) := by decide +kernel
theorem dM_search_151 : decode bM_search 151 = .ok (.if_icmp .ge 14, 3) := by decide +kernel
theorem dM_search_154 : decode bM_search 154 = .ok (.aload_n 0, 1) := by decide +kernel
theorem dM_search_155 : decode bM_search 155 = .ok (.invokevirtual 98, 3) := by decide +kernel
theorem dM_search_158 : decode bM_search 158 = .ok (.ifCond .le 7, 3) := by decide +kernel
theorem dM_search_161 : decode bM_search 161 = .ok (.iconst 1, 1) := by decide +kernel
theorem dM_search_162 : decode bM_search 162 = .ok (.goto 4, 3) := by decide +kernel
theorem dM_search_165 : decode bM_search 165 = .ok (.iconst 0, 1) := by decide +kernel
theorem dM_search_166 : decode bM_search 166 = .ok (.putfield 65, 3) := by decide +kernel
theorem dM_search_169 : decode bM_search 169 = .ok (.aload_n 0, 1) := by decide +kernel
theorem dM_search_170 : decode bM_search 170 = .ok (.getfield 65, 3) := by decide +kernel
theorem dM_search_173 : decode bM_search 173 = .ok (.ifCond .eq 7, 3) := by decide +kernel
theorem dM_search_176 : decode bM_search 176 = .ok (.iload_n 1, 1) := by decide +kernel
theorem dM_search_177 : decode bM_search 177 = .ok (.goto 4, 3) := by decide +kernel
theorem dM_search_180 : decode bM_search 180 = .ok (.iconst (-1), 1) := by decide +kernel
theorem dM_search_181 : decode bM_search 181 = .ok (.ireturn, 1) := by decide +kernel
theorem dM_plan_0 : decode bM_plan 0 = .ok (.aload_n 0, 1) := by decide +kernel
theorem dM_plan_1 : decode bM_plan 1 = .ok (.iconst 0, 1) := by decide +kernel
theorem dM_plan_2 : decode bM_plan 2 = .ok (.putfield 51, 3) := by decide +kernel
theorem dM_plan_5 : decode bM_plan 5 = .ok (.aload_n 0, 1) := by decide +kernel
theorem dM_plan_6 : decode bM_plan 6 = .ok (.invokevirtual 101, 3) := by decide +kernel
theorem dM_plan_9 : decode bM_plan 9 = .ok (.ireturn, 1) := by decide +kernel
theorem dM_lays_0 : decode bM_lays 0 = .ok (.iconst 0, 1) := by decide +kernel
theorem dM_lays_1 : decode bM_lays 1 = .ok (.istore_n 1, 1) := by decide +kernel
theorem dM_lays_2 : decode bM_lays 2 = .ok (.iload_n 1, 1) := by decide +kernel
theorem dM_lays_3 : decode bM_lays 3 = .ok (.aload_n 0, 1) := by decide +kernel
theorem dM_lays_4 : decode bM_lays 4 = .ok (.getfield 62, 3) := by decide +kernel
theorem dM_lays_7 : decode bM_lays 7 = .ok (.if_icmp .ge 21, 3) := by decide +kernel
theorem dM_lays_10 : decode bM_lays 10 = .ok (.aload_n 0, 1) := by decide +kernel
theorem dM_lays_11 : decode bM_lays 11 = .ok (.getfield 30, 3) := by decide +kernel
theorem dM_lays_14 : decode bM_lays 14 = .ok (.iload_n 1, 1) := by decide +kernel
theorem dM_lays_15 : decode bM_lays 15 = .ok (.aload_n 0, 1) := by decide +kernel
theorem dM_lays_16 : decode bM_lays 16 = .ok (.getfield 33, 3) := by decide +kernel
theorem dM_lays_19 : decode bM_lays 19 = .ok (.iload_n 1, 1) := by decide +kernel
theorem dM_lays_20 : decode bM_lays 20 = .ok (.iaload, 1) := by decide +kernel
theorem dM_lays_21 : decode bM_lays 21 = .ok (.iastore, 1) := by decide +kernel
theorem dM_lays_22 : decode bM_lays 22 = .ok (.iinc 1 1, 3) := by decide +kernel
theorem dM_lays_25 : decode bM_lays 25 = .ok (.goto (-23), 3) := by decide +kernel
theorem dM_lays_28 : decode bM_lays 28 = .ok (.aload_n 0, 1) := by decide +kernel
theorem dM_lays_29 : decode bM_lays 29 = .ok (.invokevirtual 80, 3) := by decide +kernel
theorem dM_lays_32 : decode bM_lays 32 = .ok (.istore_n 1, 1) := by decide +kernel
theorem dM_lays_33 : decode bM_lays 33 = .ok (.iload_n 1, 1) := by decide +kernel
theorem dM_lays_34 : decode bM_lays 34 = .ok (.ifCond .eq 10, 3) := by decide +kernel
theorem dM_lays_37 : decode bM_lays 37 = .ok (.aload_n 0, 1) := by decide +kernel
theorem dM_lays_38 : decode bM_lays 38 = .ok (.invokevirtual 88, 3) := by decide +kernel
theorem dM_lays_41 : decode bM_lays 41 = .ok (.goto 5, 3) := by decide +kernel
theorem dM_lays_44 : decode bM_lays 44 = .ok (.ldc 84, 2) := by decide +kernel
theorem dM_lays_46 : decode bM_lays 46 = .ok (.ireturn, 1) := by decide +kernel
theorem dM_works_0 : decode bM_works 0 = .ok (.aload_n 0, 1) := by decide +kernel
theorem dM_works_1 : decode bM_works 1 = .ok (.aload_n 0, 1) := by decide +kernel
theorem dM_works_2 : decode bM_works 2 = .ok (.iload_n 1, 1) := by decide +kernel
theorem dM_works_3 : decode bM_works 3 = .ok (.invokevirtual 69, 3) := by decide +kernel
theorem dM_works_6 : decode bM_works 6 = .ok (.ifCond .ne 7, 3) := by decide +kernel
theorem dM_works_9 : decode bM_works 9 = .ok (.iconst 1, 1) := by decide +kernel
theorem dM_works_10 : decode bM_works 10 = .ok (.goto 15, 3) := by decide +kernel
theorem dM_works_13 : decode bM_works 13 = .ok (.aload_n 0, 1) := by decide +kernel
theorem dM_works_14 : decode bM_works 14 = .ok (.getfield 65, 3) := by decide +kernel
theorem dM_works_17 : decode bM_works 17 = .ok (.ifCond .ne 7, 3) := by decide +kernel
theorem dM_works_20 : decode bM_works 20 = .ok (.iconst 2, 1) := by decide +kernel
theorem dM_works_21 : decode bM_works 21 = .ok (.goto 4, 3) := by decide +kernel
theorem dM_works_24 : decode bM_works 24 = .ok (.iconst 0, 1) := by decide +kernel
theorem dM_works_25 : decode bM_works 25 = .ok (.putfield 51, 3) := by decide +kernel
theorem dM_works_28 : decode bM_works 28 = .ok (.aload_n 0, 1) := by decide +kernel
theorem dM_works_29 : decode bM_works 29 = .ok (.getfield 51, 3) := by decide +kernel
theorem dM_works_32 : decode bM_works 32 = .ok (.ifCond .le 5, 3) := by decide +kernel
theorem dM_works_35 : decode bM_works 35 = .ok (.iconst 0, 1) := by decide +kernel
theorem dM_works_36 : decode bM_works 36 = .ok (.ireturn, 1) := by decide +kernel
theorem dM_works_37 : decode bM_works 37 = .ok (.aload_n 0, 1) := by decide +kernel
theorem dM_works_38 : decode bM_works 38 = .ok (.invokevirtual 104, 3) := by decide +kernel
theorem dM_works_41 : decode bM_works 41 = .ok (.istore_n 3, 1) := by decide +kernel
theorem dM_works_42 : decode bM_works 42 = .ok (.iconst 0, 1) := by decide +kernel
theorem dM_works_43 : decode bM_works 43 = .ok (.istore 4, 2) := by decide +kernel
theorem dM_works_45 : decode bM_works 45 = .ok (.iload 4, 2) := by decide +kernel
theorem dM_works_47 : decode bM_works 47 = .ok (.aload_n 0, 1) := by decide +kernel
theorem dM_works_48 : decode bM_works 48 = .ok (.getfield 62, 3) := by decide +kernel
theorem dM_works_51 : decode bM_works 51 = .ok (.if_icmp .ge 69, 3) := by decide +kernel
theorem dM_works_54 : decode bM_works 54 = .ok (.iload_n 3, 1) := by decide +kernel
theorem dM_works_55 : decode bM_works 55 = .ok (.ldc 84, 2) := by decide +kernel
theorem dM_works_57 : decode bM_works 57 = .ok (.if_icmp .ge 63, 3) := by decide +kernel
theorem dM_works_60 : decode bM_works 60 = .ok (.aload_n 0, 1) := by decide +kernel
theorem dM_works_61 : decode bM_works 61 = .ok (.getfield 30, 3) := by decide +kernel
theorem dM_works_64 : decode bM_works 64 = .ok (.iload 4, 2) := by decide +kernel
theorem dM_works_66 : decode bM_works 66 = .ok (.iaload, 1) := by decide +kernel
theorem dM_works_67 : decode bM_works 67 = .ok (.iload_n 1, 1) := by decide +kernel
theorem dM_works_68 : decode bM_works 68 = .ok (.if_icmp .ne 46, 3) := by decide +kernel
theorem dM_works_71 : decode bM_works 71 = .ok (.iload_n 2, 1) := by decide +kernel
theorem dM_works_72 : decode bM_works 72 = .ok (.aload_n 0, 1) := by decide +kernel
theorem dM_works_73 : decode bM_works 73 = .ok (.getfield 36, 3) := by decide +kernel
theorem dM_works_76 : decode bM_works 76 = .ok (.bipush 8, 2) := by decide +kernel
theorem dM_works_78 : decode bM_works 78 = .ok (.iload_n 1, 1) := by decide +kernel
theorem dM_works_79 : decode bM_works 79 = .ok (.imul, 1) := by decide +kernel
theorem dM_works_80 : decode bM_works 80 = .ok (.iload 4, 2) := by decide +kernel
theorem dM_works_82 : decode bM_works 82 = .ok (.iadd, 1) := by decide +kernel
theorem dM_works_83 : decode bM_works 83 = .ok (.iaload, 1) := by decide +kernel
theorem dM_works_84 : decode bM_works 84 = .ok (.if_icmp .lt 30, 3) := by decide +kernel
theorem dM_works_87 : decode bM_works 87 = .ok (.iload_n 2, 1) := by decide +kernel
theorem dM_works_88 : decode bM_works 88 = .ok (.aload_n 0, 1) := by decide +kernel
theorem dM_works_89 : decode bM_works 89 = .ok (.getfield 36, 3) := by decide +kernel
theorem dM_works_92 : decode bM_works 92 = .ok (.bipush 8, 2) := by decide +kernel
theorem dM_works_94 : decode bM_works 94 = .ok (.iload_n 1, 1) := by decide +kernel
theorem dM_works_95 : decode bM_works 95 = .ok (.imul, 1) := by decide +kernel
theorem dM_works_96 : decode bM_works 96 = .ok (.iload 4, 2) := by decide +kernel
theorem dM_works_98 : decode bM_works 98 = .ok (.iadd, 1) := by decide +kernel
theorem dM_works_99 : decode bM_works 99 = .ok (.iaload, 1) := by decide +kernel
theorem dM_works_100 : decode bM_works 100 = .ok (.isub, 1) := by decide +kernel
theorem dM_works_101 : decode bM_works 101 = .ok (.aload_n 0, 1) := by decide +kernel
theorem dM_works_102 : decode bM_works 102 = .ok (.iload_n 1, 1) := by decide +kernel
theorem dM_works_103 : decode bM_works 103 = .ok (.iload 4, 2) := by decide +kernel
theorem dM_works_105 : decode bM_works 105 = .ok (.invokevirtual 76, 3) := by decide +kernel
theorem dM_works_108 : decode bM_works 108 = .ok (.if_icmp .ge 6, 3) := by decide +kernel
theorem dM_works_111 : decode bM_works 111 = .ok (.iload 4, 2) := by decide +kernel
theorem dM_works_113 : decode bM_works 113 = .ok (.ireturn, 1) := by decide +kernel
theorem dM_works_114 : decode bM_works 114 = .ok (.iinc 4 1, 3) := by decide +kernel
theorem dM_works_117 : decode bM_works 117 = .ok (.goto (-72), 3) := by decide +kernel
theorem dM_works_120 : decode bM_works 120 = .ok (.iconst (-1), 1) := by decide +kernel
theorem dM_works_121 : decode bM_works 121 = .ok (.ireturn, 1) := by decide +kernel
theorem dM_where_0 : decode bM_where 0 = .ok (.aload_n 0, 1) := by decide +kernel
theorem dM_where_1 : decode bM_where 1 = .ok (.aload_n 0, 1) := by decide +kernel
theorem dM_where_2 : decode bM_where 2 = .ok (.iload_n 1, 1) := by decide +kernel
theorem dM_where_3 : decode bM_where 3 = .ok (.invokevirtual 69, 3) := by decide +kernel
theorem dM_where_6 : decode bM_where 6 = .ok (.ifCond .eq 7, 3) := by decide +kernel
theorem dM_where_9 : decode bM_where 9 = .ok (.iload_n 2, 1) := by decide +kernel
theorem dM_where_10 : decode bM_where 10 = .ok (.ifCond .ge 7, 3) := by decide +kernel
theorem dM_where_13 : decode bM_where 13 = .ok (.iconst 1, 1) := by decide +kernel
theorem dM_where_14 : decode bM_where 14 = .ok (.goto 15, 3) := by decide +kernel
theorem dM_where_17 : decode bM_where 17 = .ok (.aload_n 0, 1) := by decide +kernel
theorem dM_where_18 : decode bM_where 18 = .ok (.getfield 65, 3) := by decide +kernel
theorem dM_where_21 : decode bM_where 21 = .ok (.ifCond .ne 7, 3) := by decide +kernel
theorem dM_where_24 : decode bM_where 24 = .ok (.iconst 2, 1) := by decide +kernel
theorem dM_where_25 : decode bM_where 25 = .ok (.goto 4, 3) := by decide +kernel
theorem dM_where_28 : decode bM_where 28 = .ok (.iconst 0, 1) := by decide +kernel
theorem dM_where_29 : decode bM_where 29 = .ok (.putfield 51, 3) := by decide +kernel
theorem dM_where_32 : decode bM_where 32 = .ok (.aload_n 0, 1) := by decide +kernel
theorem dM_where_33 : decode bM_where 33 = .ok (.getfield 51, 3) := by decide +kernel
theorem dM_where_36 : decode bM_where 36 = .ok (.ifCond .le 5, 3) := by decide +kernel
theorem dM_where_39 : decode bM_where 39 = .ok (.iconst 0, 1) := by decide +kernel
theorem dM_where_40 : decode bM_where 40 = .ok (.ireturn, 1) := by decide +kernel
theorem dM_where_41 : decode bM_where 41 = .ok (.aload_n 0, 1) := by decide +kernel
theorem dM_where_42 : decode bM_where 42 = .ok (.invokevirtual 104, 3) := by decide +kernel
theorem dM_where_45 : decode bM_where 45 = .ok (.istore_n 3, 1) := by decide +kernel
theorem dM_where_46 : decode bM_where 46 = .ok (.iload_n 3, 1) := by decide +kernel
theorem dM_where_47 : decode bM_where 47 = .ok (.ldc 84, 2) := by decide +kernel
theorem dM_where_49 : decode bM_where 49 = .ok (.if_icmp .ge 12, 3) := by decide +kernel
theorem dM_where_52 : decode bM_where 52 = .ok (.aload_n 0, 1) := by decide +kernel
theorem dM_where_53 : decode bM_where 53 = .ok (.getfield 39, 3) := by decide +kernel
theorem dM_where_56 : decode bM_where 56 = .ok (.iload_n 1, 1) := by decide +kernel
theorem dM_where_57 : decode bM_where 57 = .ok (.iaload, 1) := by decide +kernel
theorem dM_where_58 : decode bM_where 58 = .ok (.goto 4, 3) := by decide +kernel
theorem dM_where_61 : decode bM_where 61 = .ok (.iconst (-1), 1) := by decide +kernel
theorem dM_where_62 : decode bM_where 62 = .ok (.istore 4, 2) := by decide +kernel
theorem dM_where_64 : decode bM_where 64 = .ok (.iconst 0, 1) := by decide +kernel
theorem dM_where_65 : decode bM_where 65 = .ok (.istore 5, 2) := by decide +kernel
theorem dM_where_67 : decode bM_where 67 = .ok (.iload 5, 2) := by decide +kernel
theorem dM_where_69 : decode bM_where 69 = .ok (.aload_n 0, 1) := by decide +kernel
theorem dM_where_70 : decode bM_where 70 = .ok (.getfield 62, 3) := by decide +kernel
theorem dM_where_73 : decode bM_where 73 = .ok (.if_icmp .ge 61, 3) := by decide +kernel
theorem dM_where_76 : decode bM_where 76 = .ok (.iload 4, 2) := by decide +kernel
theorem dM_where_78 : decode bM_where 78 = .ok (.ifCond .lt 56, 3) := by decide +kernel
theorem dM_where_81 : decode bM_where 81 = .ok (.iload 5, 2) := by decide +kernel
theorem dM_where_83 : decode bM_where 83 = .ok (.aload_n 0, 1) := by decide +kernel
theorem dM_where_84 : decode bM_where 84 = .ok (.getfield 39, 3) := by decide +kernel
theorem dM_where_87 : decode bM_where 87 = .ok (.iload_n 1, 1) := by decide +kernel
theorem dM_where_88 : decode bM_where 88 = .ok (.iaload, 1) := by decide +kernel
theorem dM_where_89 : decode bM_where 89 = .ok (.if_icmp .le 35, 3) := by decide +kernel
theorem dM_where_92 : decode bM_where 92 = .ok (.iload 5, 2) := by decide +kernel
theorem dM_where_94 : decode bM_where 94 = .ok (.aload_n 0, 1) := by decide +kernel
theorem dM_where_95 : decode bM_where 95 = .ok (.getfield 42, 3) := by decide +kernel
theorem dM_where_98 : decode bM_where 98 = .ok (.iload_n 1, 1) := by decide +kernel
theorem dM_where_99 : decode bM_where 99 = .ok (.iaload, 1) := by decide +kernel
theorem dM_where_100 : decode bM_where 100 = .ok (.if_icmp .gt 24, 3) := by decide +kernel
theorem dM_where_103 : decode bM_where 103 = .ok (.aload_n 0, 1) := by decide +kernel
theorem dM_where_104 : decode bM_where 104 = .ok (.getfield 36, 3) := by decide +kernel
theorem dM_where_107 : decode bM_where 107 = .ok (.bipush 8, 2) := by decide +kernel
theorem dM_where_109 : decode bM_where 109 = .ok (.iload_n 1, 1) := by decide +kernel
theorem dM_where_110 : decode bM_where 110 = .ok (.imul, 1) := by decide +kernel
theorem dM_where_111 : decode bM_where 111 = .ok (.iload 5, 2) := by decide +kernel
theorem dM_where_113 : decode bM_where 113 = .ok (.iadd, 1) := by decide +kernel
theorem dM_where_114 : decode bM_where 114 = .ok (.iaload, 1) := by decide +kernel
theorem dM_where_115 : decode bM_where 115 = .ok (.iload_n 2, 1) := by decide +kernel
theorem dM_where_116 : decode bM_where 116 = .ok (.if_icmp .gt 8, 3) := by decide +kernel
theorem dM_where_119 : decode bM_where 119 = .ok (.iload 5, 2) := by decide +kernel
theorem dM_where_121 : decode bM_where 121 = .ok (.goto 5, 3) := by decide +kernel
theorem dM_where_124 : decode bM_where 124 = .ok (.iload 4, 2) := by decide +kernel
theorem dM_where_126 : decode bM_where 126 = .ok (.istore 4, 2) := by decide +kernel
theorem dM_where_128 : decode bM_where 128 = .ok (.iinc 5 1, 3) := by decide +kernel
theorem dM_where_131 : decode bM_where 131 = .ok (.goto (-64), 3) := by decide +kernel
theorem dM_where_134 : decode bM_where 134 = .ok (.iload 4, 2) := by decide +kernel
theorem dM_where_136 : decode bM_where 136 = .ok (.ireturn, 1) := by decide +kernel
theorem dM_fails_0 : decode bM_fails 0 = .ok (.aload_n 0, 1) := by decide +kernel
theorem dM_fails_1 : decode bM_fails 1 = .ok (.aload_n 0, 1) := by decide +kernel
theorem dM_fails_2 : decode bM_fails 2 = .ok (.iload_n 1, 1) := by decide +kernel
theorem dM_fails_3 : decode bM_fails 3 = .ok (.invokevirtual 69, 3) := by decide +kernel
theorem dM_fails_6 : decode bM_fails 6 = .ok (.ifCond .ne 7, 3) := by decide +kernel
theorem dM_fails_9 : decode bM_fails 9 = .ok (.iconst 1, 1) := by decide +kernel
theorem dM_fails_10 : decode bM_fails 10 = .ok (.goto 32, 3) := by decide +kernel
theorem dM_fails_13 : decode bM_fails 13 = .ok (.iload_n 2, 1) := by decide +kernel
theorem dM_fails_14 : decode bM_fails 14 = .ok (.ifCond .lt 12, 3) := by decide +kernel
theorem dM_fails_17 : decode bM_fails 17 = .ok (.aload_n 0, 1) := by decide +kernel
theorem dM_fails_18 : decode bM_fails 18 = .ok (.getfield 22, 3) := by decide +kernel
theorem dM_fails_21 : decode bM_fails 21 = .ok (.iload_n 1, 1) := by decide +kernel
theorem dM_fails_22 : decode bM_fails 22 = .ok (.baload, 1) := by decide +kernel
theorem dM_fails_23 : decode bM_fails 23 = .ok (.ifCond .eq 7, 3) := by decide +kernel
theorem dM_fails_26 : decode bM_fails 26 = .ok (.iconst 2, 1) := by decide +kernel
theorem dM_fails_27 : decode bM_fails 27 = .ok (.goto 15, 3) := by decide +kernel
theorem dM_fails_30 : decode bM_fails 30 = .ok (.aload_n 0, 1) := by decide +kernel
theorem dM_fails_31 : decode bM_fails 31 = .ok (.getfield 65, 3) := by decide +kernel
theorem dM_fails_34 : decode bM_fails 34 = .ok (.ifCond .ne 7, 3) := by decide +kernel
theorem dM_fails_37 : decode bM_fails 37 = .ok (.iconst 3, 1) := by decide +kernel
theorem dM_fails_38 : decode bM_fails 38 = .ok (.goto 4, 3) := by decide +kernel
theorem dM_fails_41 : decode bM_fails 41 = .ok (.iconst 0, 1) := by decide +kernel
theorem dM_fails_42 : decode bM_fails 42 = .ok (.putfield 51, 3) := by decide +kernel
theorem dM_fails_45 : decode bM_fails 45 = .ok (.aload_n 0, 1) := by decide +kernel
theorem dM_fails_46 : decode bM_fails 46 = .ok (.getfield 51, 3) := by decide +kernel
theorem dM_fails_49 : decode bM_fails 49 = .ok (.ifCond .le 5, 3) := by decide +kernel
theorem dM_fails_52 : decode bM_fails 52 = .ok (.iconst 0, 1) := by decide +kernel
theorem dM_fails_53 : decode bM_fails 53 = .ok (.ireturn, 1) := by decide +kernel
theorem dM_fails_54 : decode bM_fails 54 = .ok (.aload_n 0, 1) := by decide +kernel
theorem dM_fails_55 : decode bM_fails 55 = .ok (.invokevirtual 104, 3) := by decide +kernel
theorem dM_fails_58 : decode bM_fails 58 = .ok (.istore_n 3, 1) := by decide +kernel
theorem dM_fails_59 : decode bM_fails 59 = .ok (.iconst 0, 1) := by decide +kernel
theorem dM_fails_60 : decode bM_fails 60 = .ok (.istore 4, 2) := by decide +kernel
theorem dM_fails_62 : decode bM_fails 62 = .ok (.iload 4, 2) := by decide +kernel
theorem dM_fails_64 : decode bM_fails 64 = .ok (.aload_n 0, 1) := by decide +kernel
theorem dM_fails_65 : decode bM_fails 65 = .ok (.getfield 62, 3) := by decide +kernel
theorem dM_fails_68 : decode bM_fails 68 = .ok (.if_icmp .ge 185, 3) := by decide +kernel
theorem dM_fails_71 : decode bM_fails 71 = .ok (.iload_n 3, 1) := by decide +kernel
theorem dM_fails_72 : decode bM_fails 72 = .ok (.ldc 84, 2) := by decide +kernel
theorem dM_fails_74 : decode bM_fails 74 = .ok (.if_icmp .ge 179, 3) := by decide +kernel
theorem dM_fails_77 : decode bM_fails 77 = .ok (.aload_n 0, 1) := by decide +kernel
theorem dM_fails_78 : decode bM_fails 78 = .ok (.getfield 30, 3) := by decide +kernel
theorem dM_fails_81 : decode bM_fails 81 = .ok (.iload 4, 2) := by decide +kernel
theorem dM_fails_83 : decode bM_fails 83 = .ok (.iaload, 1) := by decide +kernel
theorem dM_fails_84 : decode bM_fails 84 = .ok (.istore 5, 2) := by decide +kernel
theorem dM_fails_86 : decode bM_fails 86 = .ok (.iload 5, 2) := by decide +kernel
theorem dM_fails_88 : decode bM_fails 88 = .ok (.ifCond .ge 7, 3) := by decide +kernel
theorem dM_fails_91 : decode bM_fails 91 = .ok (.iconst 0, 1) := by decide +kernel
theorem dM_fails_92 : decode bM_fails 92 = .ok (.goto 27, 3) := by decide +kernel
theorem dM_fails_95 : decode bM_fails 95 = .ok (.iload_n 2, 1) := by decide +kernel
theorem dM_fails_96 : decode bM_fails 96 = .ok (.aload_n 0, 1) := by decide +kernel
theorem dM_fails_97 : decode bM_fails 97 = .ok (.getfield 36, 3) := by decide +kernel
theorem dM_fails_100 : decode bM_fails 100 = .ok (.bipush 8, 2) := by decide +kernel
theorem dM_fails_102 : decode bM_fails 102 = .ok (.iload 5, 2) := by decide +kernel
theorem dM_fails_104 : decode bM_fails 104 = .ok (.ifCond .ge 7, 3) := by decide +kernel
theorem dM_fails_107 : decode bM_fails 107 = .ok (.iconst 0, 1) := by decide +kernel
theorem dM_fails_108 : decode bM_fails 108 = .ok (.goto 5, 3) := by decide +kernel
theorem dM_fails_111 : decode bM_fails 111 = .ok (.iload 5, 2) := by decide +kernel
theorem dM_fails_113 : decode bM_fails 113 = .ok (.imul, 1) := by decide +kernel
theorem dM_fails_114 : decode bM_fails 114 = .ok (.iload 4, 2) := by decide +kernel
theorem dM_fails_116 : decode bM_fails 116 = .ok (.iadd, 1) := by decide +kernel
theorem dM_fails_117 : decode bM_fails 117 = .ok (.iaload, 1) := by decide +kernel
theorem dM_fails_118 : decode bM_fails 118 = .ok (.isub, 1) := by decide +kernel
theorem dM_fails_119 : decode bM_fails 119 = .ok (.istore 6, 2) := by decide +kernel
theorem dM_fails_121 : decode bM_fails 121 = .ok (.iload 5, 2) := by decide +kernel
theorem dM_fails_123 : decode bM_fails 123 = .ok (.ifCond .lt 124, 3) := by decide +kernel
theorem dM_fails_126 : decode bM_fails 126 = .ok (.iload 6, 2) := by decide +kernel
theorem dM_fails_128 : decode bM_fails 128 = .ok (.ifCond .le 119, 3) := by decide +kernel
theorem dM_fails_131 : decode bM_fails 131 = .ok (.iload 6, 2) := by decide +kernel
theorem dM_fails_133 : decode bM_fails 133 = .ok (.i2l, 1) := by decide +kernel
theorem dM_fails_134 : decode bM_fails 134 = .ok (.aload_n 0, 1) := by decide +kernel
theorem dM_fails_135 : decode bM_fails 135 = .ok (.getfield 16, 3) := by decide +kernel
theorem dM_fails_138 : decode bM_fails 138 = .ok (.iload 5, 2) := by decide +kernel
theorem dM_fails_140 : decode bM_fails 140 = .ok (.iaload, 1) := by decide +kernel
theorem dM_fails_141 : decode bM_fails 141 = .ok (.i2l, 1) := by decide +kernel
theorem dM_fails_142 : decode bM_fails 142 = .ok (.lmul, 1) := by decide +kernel
theorem dM_fails_143 : decode bM_fails 143 = .ok (.aload_n 0, 1) := by decide +kernel
theorem dM_fails_144 : decode bM_fails 144 = .ok (.getfield 19, 3) := by decide +kernel
theorem dM_fails_147 : decode bM_fails 147 = .ok (.iload 5, 2) := by decide +kernel
theorem dM_fails_149 : decode bM_fails 149 = .ok (.iaload, 1) := by decide +kernel
theorem dM_fails_150 : decode bM_fails 150 = .ok (.i2l, 1) := by decide +kernel
theorem dM_fails_151 : decode bM_fails 151 = .ok (.ldiv, 1) := by decide +kernel
theorem dM_fails_152 : decode bM_fails 152 = .ok (.lstore 7, 2) := by decide +kernel
theorem dM_fails_154 : decode bM_fails 154 = .ok (.iload 6, 2) := by decide +kernel
theorem dM_fails_156 : decode bM_fails 156 = .ok (.aload_n 0, 1) := by decide +kernel
theorem dM_fails_157 : decode bM_fails 157 = .ok (.iload 5, 2) := by decide +kernel
theorem dM_fails_159 : decode bM_fails 159 = .ok (.iload 4, 2) := by decide +kernel
theorem dM_fails_161 : decode bM_fails 161 = .ok (.invokevirtual 76, 3) := by decide +kernel
theorem dM_fails_164 : decode bM_fails 164 = .ok (.if_icmp .ge 16, 3) := by decide +kernel
theorem dM_fails_167 : decode bM_fails 167 = .ok (.lload 7, 2) := by decide +kernel
theorem dM_fails_169 : decode bM_fails 169 = .ok (.aload_n 0, 1) := by decide +kernel
theorem dM_fails_170 : decode bM_fails 170 = .ok (.iload 4, 2) := by decide +kernel
theorem dM_fails_172 : decode bM_fails 172 = .ok (.invokevirtual 73, 3) := by decide +kernel
theorem dM_fails_175 : decode bM_fails 175 = .ok (.i2l, 1) := by decide +kernel
theorem dM_fails_176 : decode bM_fails 176 = .ok (.lcmp, 1) := by decide +kernel
theorem dM_fails_177 : decode bM_fails 177 = .ok (.ifCond .le 12, 3) := by decide +kernel
theorem dM_fails_180 : decode bM_fails 180 = .ok (.aload_n 0, 1) := by decide +kernel
theorem dM_fails_181 : decode bM_fails 181 = .ok (.iload 4, 2) := by decide +kernel
theorem dM_fails_183 : decode bM_fails 183 = .ok (.invokevirtual 73, 3) := by decide +kernel
theorem dM_fails_186 : decode bM_fails 186 = .ok (.goto 6, 3) := by decide +kernel
theorem dM_fails_189 : decode bM_fails 189 = .ok (.lload 7, 2) := by decide +kernel
theorem dM_fails_191 : decode bM_fails 191 = .ok (.l2i, 1) := by decide +kernel
theorem dM_fails_192 : decode bM_fails 192 = .ok (.istore 9, 2) := by decide +kernel
theorem dM_fails_194 : decode bM_fails 194 = .ok (.iload 9, 2) := by decide +kernel
theorem dM_fails_196 : decode bM_fails 196 = .ok (.aload_n 0, 1) := by decide +kernel
theorem dM_fails_197 : decode bM_fails 197 = .ok (.getfield 7, 3) := by decide +kernel
theorem dM_fails_200 : decode bM_fails 200 = .ok (.iload 4, 2) := by decide +kernel
theorem dM_fails_202 : decode bM_fails 202 = .ok (.iaload, 1) := by decide +kernel
theorem dM_fails_203 : decode bM_fails 203 = .ok (.if_icmp .ge 8, 3) := by decide +kernel
theorem dM_fails_206 : decode bM_fails 206 = .ok (.iload 9, 2) := by decide +kernel
theorem dM_fails_208 : decode bM_fails 208 = .ok (.goto 10, 3) := by decide +kernel
theorem dM_fails_211 : decode bM_fails 211 = .ok (.aload_n 0, 1) := by decide +kernel
theorem dM_fails_212 : decode bM_fails 212 = .ok (.getfield 7, 3) := by decide +kernel
theorem dM_fails_215 : decode bM_fails 215 = .ok (.iload 4, 2) := by decide +kernel
theorem dM_fails_217 : decode bM_fails 217 = .ok (.iaload, 1) := by decide +kernel
theorem dM_fails_218 : decode bM_fails 218 = .ok (.istore 10, 2) := by decide +kernel
theorem dM_fails_220 : decode bM_fails 220 = .ok (.aload_n 0, 1) := by decide +kernel
theorem dM_fails_221 : decode bM_fails 221 = .ok (.getfield 7, 3) := by decide +kernel
theorem dM_fails_224 : decode bM_fails 224 = .ok (.iload 4, 2) := by decide +kernel
theorem dM_fails_226 : decode bM_fails 226 = .ok (.dup2, 1) := by decide +kernel
theorem dM_fails_227 : decode bM_fails 227 = .ok (.iaload, 1) := by decide +kernel
theorem dM_fails_228 : decode bM_fails 228 = .ok (.iload 10, 2) := by decide +kernel
theorem dM_fails_230 : decode bM_fails 230 = .ok (.isub, 1) := by decide +kernel
theorem dM_fails_231 : decode bM_fails 231 = .ok (.iastore, 1) := by decide +kernel
theorem dM_fails_232 : decode bM_fails 232 = .ok (.aload_n 0, 1) := by decide +kernel
theorem dM_fails_233 : decode bM_fails 233 = .ok (.getfield 13, 3) := by decide +kernel
theorem dM_fails_236 : decode bM_fails 236 = .ok (.iload 4, 2) := by decide +kernel
theorem dM_fails_238 : decode bM_fails 238 = .ok (.dup2, 1) := by decide +kernel
theorem dM_fails_239 : decode bM_fails 239 = .ok (.iaload, 1) := by decide +kernel
theorem dM_fails_240 : decode bM_fails 240 = .ok (.iload 9, 2) := by decide +kernel
theorem dM_fails_242 : decode bM_fails 242 = .ok (.iload 10, 2) := by decide +kernel
theorem dM_fails_244 : decode bM_fails 244 = .ok (.isub, 1) := by decide +kernel
theorem dM_fails_245 : decode bM_fails 245 = .ok (.isub, 1) := by decide +kernel
theorem dM_fails_246 : decode bM_fails 246 = .ok (.iastore, 1) := by decide +kernel
theorem dM_fails_247 : decode bM_fails 247 = .ok (.iinc 4 1, 3) := by decide +kernel
theorem dM_fails_250 : decode bM_fails 250 = .ok (.goto (-188), 3) := by decide +kernel
theorem dM_fails_253 : decode bM_fails 253 = .ok (.aload_n 0, 1) := by decide +kernel
theorem dM_fails_254 : decode bM_fails 254 = .ok (.getfield 22, 3) := by decide +kernel
theorem dM_fails_257 : decode bM_fails 257 = .ok (.iload_n 1, 1) := by decide +kernel
theorem dM_fails_258 : decode bM_fails 258 = .ok (.iconst 1, 1) := by decide +kernel
theorem dM_fails_259 : decode bM_fails 259 = .ok (.bastore, 1) := by decide +kernel
theorem dM_fails_260 : decode bM_fails 260 = .ok (.aload_n 0, 1) := by decide +kernel
theorem dM_fails_261 : decode bM_fails 261 = .ok (.invokevirtual 101, 3) := by decide +kernel
theorem dM_fails_264 : decode bM_fails 264 = .ok (.ireturn, 1) := by decide +kernel
theorem dM_working_0 : decode bM_working 0 = .ok (.iconst 0, 1) := by decide +kernel
theorem dM_working_1 : decode bM_working 1 = .ok (.istore_n 1, 1) := by decide +kernel
theorem dM_working_2 : decode bM_working 2 = .ok (.iconst 0, 1) := by decide +kernel
theorem dM_working_3 : decode bM_working 3 = .ok (.istore_n 2, 1) := by decide +kernel
theorem dM_working_4 : decode bM_working 4 = .ok (.iload_n 2, 1) := by decide +kernel
theorem dM_working_5 : decode bM_working 5 = .ok (.aload_n 0, 1) := by decide +kernel
theorem dM_working_6 : decode bM_working 6 = .ok (.getfield 45, 3) := by decide +kernel
theorem dM_working_9 : decode bM_working 9 = .ok (.if_icmp .ge 26, 3) := by decide +kernel
theorem dM_working_12 : decode bM_working 12 = .ok (.iload_n 1, 1) := by decide +kernel
theorem dM_working_13 : decode bM_working 13 = .ok (.aload_n 0, 1) := by decide +kernel
theorem dM_working_14 : decode bM_working 14 = .ok (.getfield 22, 3) := by decide +kernel
theorem dM_working_17 : decode bM_working 17 = .ok (.iload_n 2, 1) := by decide +kernel
theorem dM_working_18 : decode bM_working 18 = .ok (.baload, 1) := by decide +kernel
theorem dM_working_19 : decode bM_working 19 = .ok (.ifCond .eq 7, 3) := by decide +kernel
theorem dM_working_22 : decode bM_working 22 = .ok (.iconst 0, 1) := by decide +kernel
theorem dM_working_23 : decode bM_working 23 = .ok (.goto 4, 3) := by decide +kernel
theorem dM_working_26 : decode bM_working 26 = .ok (.iconst 1, 1) := by decide +kernel
theorem dM_working_27 : decode bM_working 27 = .ok (.iadd, 1) := by decide +kernel
theorem dM_working_28 : decode bM_working 28 = .ok (.istore_n 1, 1) := by decide +kernel
theorem dM_working_29 : decode bM_working 29 = .ok (.iinc 2 1, 3) := by decide +kernel
theorem dM_working_32 : decode bM_working 32 = .ok (.goto (-28), 3) := by decide +kernel
theorem dM_working_35 : decode bM_working 35 = .ok (.iload_n 1, 1) := by decide +kernel
theorem dM_working_36 : decode bM_working 36 = .ok (.ireturn, 1) := by decide +kernel
theorem dM_bound_0 : decode bM_bound 0 = .ok (.aload_n 0, 1) := by decide +kernel
theorem dM_bound_1 : decode bM_bound 1 = .ok (.iconst 0, 1) := by decide +kernel
theorem dM_bound_2 : decode bM_bound 2 = .ok (.putfield 51, 3) := by decide +kernel
theorem dM_bound_5 : decode bM_bound 5 = .ok (.aload_n 0, 1) := by decide +kernel
theorem dM_bound_6 : decode bM_bound 6 = .ok (.invokevirtual 98, 3) := by decide +kernel
theorem dM_bound_9 : decode bM_bound 9 = .ok (.ifCond .ne 5, 3) := by decide +kernel
theorem dM_bound_12 : decode bM_bound 12 = .ok (.iconst (-1), 1) := by decide +kernel
theorem dM_bound_13 : decode bM_bound 13 = .ok (.ireturn, 1) := by decide +kernel
theorem dM_bound_14 : decode bM_bound 14 = .ok (.iconst 0, 1) := by decide +kernel
theorem dM_bound_15 : decode bM_bound 15 = .ok (.istore_n 1, 1) := by decide +kernel
theorem dM_bound_16 : decode bM_bound 16 = .ok (.lconst 0, 1) := by decide +kernel
theorem dM_bound_17 : decode bM_bound 17 = .ok (.lstore_n 2, 1) := by decide +kernel
theorem dM_bound_18 : decode bM_bound 18 = .ok (.iconst 0, 1) := by decide +kernel
theorem dM_bound_19 : decode bM_bound 19 = .ok (.istore 4, 2) := by decide +kernel
theorem dM_bound_21 : decode bM_bound 21 = .ok (.iload 4, 2) := by decide +kernel
theorem dM_bound_23 : decode bM_bound 23 = .ok (.aload_n 0, 1) := by decide +kernel
theorem dM_bound_24 : decode bM_bound 24 = .ok (.getfield 62, 3) := by decide +kernel
theorem dM_bound_27 : decode bM_bound 27 = .ok (.if_icmp .ge 92, 3) := by decide +kernel
theorem dM_bound_30 : decode bM_bound 30 = .ok (.ldc 84, 2) := by decide +kernel
theorem dM_bound_32 : decode bM_bound 32 = .ok (.istore 5, 2) := by decide +kernel
theorem dM_bound_34 : decode bM_bound 34 = .ok (.iconst 0, 1) := by decide +kernel
theorem dM_bound_35 : decode bM_bound 35 = .ok (.istore 6, 2) := by decide +kernel
theorem dM_bound_37 : decode bM_bound 37 = .ok (.iload 6, 2) := by decide +kernel
theorem dM_bound_39 : decode bM_bound 39 = .ok (.aload_n 0, 1) := by decide +kernel
theorem dM_bound_40 : decode bM_bound 40 = .ok (.getfield 45, 3) := by decide +kernel
theorem dM_bound_43 : decode bM_bound 43 = .ok (.if_icmp .ge 47, 3) := by decide +kernel
theorem dM_bound_46 : decode bM_bound 46 = .ok (.aload_n 0, 1) := by decide +kernel
theorem dM_bound_47 : decode bM_bound 47 = .ok (.getfield 22, 3) := by decide +kernel
theorem dM_bound_50 : decode bM_bound 50 = .ok (.iload 6, 2) := by decide +kernel
theorem dM_bound_52 : decode bM_bound 52 = .ok (.baload, 1) := by decide +kernel
theorem dM_bound_53 : decode bM_bound 53 = .ok (.ifCond .ne 27, 3) := by decide +kernel
theorem dM_bound_56 : decode bM_bound 56 = .ok (.aload_n 0, 1) := by decide +kernel
theorem dM_bound_57 : decode bM_bound 57 = .ok (.iload 6, 2) := by decide +kernel
theorem dM_bound_59 : decode bM_bound 59 = .ok (.iload 4, 2) := by decide +kernel
theorem dM_bound_61 : decode bM_bound 61 = .ok (.invokevirtual 76, 3) := by decide +kernel
theorem dM_bound_64 : decode bM_bound 64 = .ok (.iload 5, 2) := by decide +kernel
theorem dM_bound_66 : decode bM_bound 66 = .ok (.if_icmp .ge 14, 3) := by decide +kernel
theorem dM_bound_69 : decode bM_bound 69 = .ok (.aload_n 0, 1) := by decide +kernel
theorem dM_bound_70 : decode bM_bound 70 = .ok (.iload 6, 2) := by decide +kernel
theorem dM_bound_72 : decode bM_bound 72 = .ok (.iload 4, 2) := by decide +kernel
theorem dM_bound_74 : decode bM_bound 74 = .ok (.invokevirtual 76, 3) := by decide +kernel
theorem dM_bound_77 : decode bM_bound 77 = .ok (.goto 5, 3) := by decide +kernel
theorem dM_bound_80 : decode bM_bound 80 = .ok (.iload 5, 2) := by decide +kernel
theorem dM_bound_82 : decode bM_bound 82 = .ok (.istore 5, 2) := by decide +kernel
theorem dM_bound_84 : decode bM_bound 84 = .ok (.iinc 6 1, 3) := by decide +kernel
theorem dM_bound_87 : decode bM_bound 87 = .ok (.goto (-50), 3) := by decide +kernel
theorem dM_bound_90 : decode bM_bound 90 = .ok (.iload 5, 2) := by decide +kernel
theorem dM_bound_92 : decode bM_bound 92 = .ok (.iload_n 1, 1) := by decide +kernel
theorem dM_bound_93 : decode bM_bound 93 = .ok (.if_icmp .le 8, 3) := by decide +kernel
theorem dM_bound_96 : decode bM_bound 96 = .ok (.iload 5, 2) := by decide +kernel
theorem dM_bound_98 : decode bM_bound 98 = .ok (.goto 4, 3) := by decide +kernel
theorem dM_bound_101 : decode bM_bound 101 = .ok (.iload_n 1, 1) := by decide +kernel
theorem dM_bound_102 : decode bM_bound 102 = .ok (.istore_n 1, 1) := by decide +kernel
theorem dM_bound_103 : decode bM_bound 103 = .ok (.lload_n 2, 1) := by decide +kernel
theorem dM_bound_104 : decode bM_bound 104 = .ok (.aload_n 0, 1) := by decide +kernel
theorem dM_bound_105 : decode bM_bound 105 = .ok (.iload 4, 2) := by decide +kernel
theorem dM_bound_107 : decode bM_bound 107 = .ok (.invokevirtual 73, 3) := by decide +kernel
theorem dM_bound_110 : decode bM_bound 110 = .ok (.i2l, 1) := by decide +kernel
theorem dM_bound_111 : decode bM_bound 111 = .ok (.ladd, 1) := by decide +kernel
theorem dM_bound_112 : decode bM_bound 112 = .ok (.lstore_n 2, 1) := by decide +kernel
theorem dM_bound_113 : decode bM_bound 113 = .ok (.iinc 4 1, 3) := by decide +kernel
theorem dM_bound_116 : decode bM_bound 116 = .ok (.goto (-95), 3) := by decide +kernel
theorem dM_bound_119 : decode bM_bound 119 = .ok (.lconst 1, 1) := by decide +kernel
theorem dM_bound_120 : decode bM_bound 120 = .ok (.lstore 4, 2) := by decide +kernel
theorem dM_bound_122 : decode bM_bound 122 = .ok (.iconst 0, 1) := by decide +kernel
theorem dM_bound_123 : decode bM_bound 123 = .ok (.istore 6, 2) := by decide +kernel
theorem dM_bound_125 : decode bM_bound 125 = .ok (.iload 6, 2) := by decide +kernel
theorem dM_bound_127 : decode bM_bound 127 = .ok (.aload_n 0, 1) := by decide +kernel
theorem dM_bound_128 : decode bM_bound 128 = .ok (.getfield 45, 3) := by decide +kernel
theorem dM_bound_131 : decode bM_bound 131 = .ok (.if_icmp .ge 36, 3) := by decide +kernel
theorem dM_bound_134 : decode bM_bound 134 = .ok (.lload 4, 2) := by decide +kernel
theorem dM_bound_136 : decode bM_bound 136 = .ok (.aload_n 0, 1) := by decide +kernel
theorem dM_bound_137 : decode bM_bound 137 = .ok (.getfield 22, 3) := by decide +kernel
theorem dM_bound_140 : decode bM_bound 140 = .ok (.iload 6, 2) := by decide +kernel
theorem dM_bound_142 : decode bM_bound 142 = .ok (.baload, 1) := by decide +kernel
theorem dM_bound_143 : decode bM_bound 143 = .ok (.ifCond .eq 7, 3) := by decide +kernel
theorem dM_bound_146 : decode bM_bound 146 = .ok (.lconst 1, 1) := by decide +kernel
theorem dM_bound_147 : decode bM_bound 147 = .ok (.goto 11, 3) := by decide +kernel
theorem dM_bound_150 : decode bM_bound 150 = .ok (.aload_n 0, 1) := by decide +kernel
theorem dM_bound_151 : decode bM_bound 151 = .ok (.getfield 19, 3) := by decide +kernel
theorem dM_bound_154 : decode bM_bound 154 = .ok (.iload 6, 2) := by decide +kernel
theorem dM_bound_156 : decode bM_bound 156 = .ok (.iaload, 1) := by decide +kernel
theorem dM_bound_157 : decode bM_bound 157 = .ok (.i2l, 1) := by decide +kernel
theorem dM_bound_158 : decode bM_bound 158 = .ok (.lmul, 1) := by decide +kernel
theorem dM_bound_159 : decode bM_bound 159 = .ok (.lstore 4, 2) := by decide +kernel
theorem dM_bound_161 : decode bM_bound 161 = .ok (.iinc 6 1, 3) := by decide +kernel
theorem dM_bound_164 : decode bM_bound 164 = .ok (.goto (-39), 3) := by decide +kernel
theorem dM_bound_167 : decode bM_bound 167 = .ok (.lconst 0, 1) := by decide +kernel
theorem dM_bound_168 : decode bM_bound 168 = .ok (.lstore 6, 2) := by decide +kernel
theorem dM_bound_170 : decode bM_bound 170 = .ok (.iconst 0, 1) := by decide +kernel
theorem dM_bound_171 : decode bM_bound 171 = .ok (.istore 8, 2) := by decide +kernel
theorem dM_bound_173 : decode bM_bound 173 = .ok (.iload 8, 2) := by decide +kernel
theorem dM_bound_175 : decode bM_bound 175 = .ok (.aload_n 0, 1) := by decide +kernel
theorem dM_bound_176 : decode bM_bound 176 = .ok (.getfield 45, 3) := by decide +kernel
theorem dM_bound_179 : decode bM_bound 179 = .ok (.if_icmp .ge 48, 3) := by decide +kernel
theorem dM_bound_182 : decode bM_bound 182 = .ok (.lload 6, 2) := by decide +kernel
theorem dM_bound_184 : decode bM_bound 184 = .ok (.aload_n 0, 1) := by decide +kernel
theorem dM_bound_185 : decode bM_bound 185 = .ok (.getfield 22, 3) := by decide +kernel
theorem dM_bound_188 : decode bM_bound 188 = .ok (.iload 8, 2) := by decide +kernel
theorem dM_bound_190 : decode bM_bound 190 = .ok (.baload, 1) := by decide +kernel
theorem dM_bound_191 : decode bM_bound 191 = .ok (.ifCond .eq 7, 3) := by decide +kernel
theorem dM_bound_194 : decode bM_bound 194 = .ok (.lconst 0, 1) := by decide +kernel
theorem dM_bound_195 : decode bM_bound 195 = .ok (.goto 23, 3) := by decide +kernel
theorem dM_bound_198 : decode bM_bound 198 = .ok (.lload 4, 2) := by decide +kernel
theorem dM_bound_200 : decode bM_bound 200 = .ok (.aload_n 0, 1) := by decide +kernel
theorem dM_bound_201 : decode bM_bound 201 = .ok (.getfield 19, 3) := by decide +kernel
theorem dM_bound_204 : decode bM_bound 204 = .ok (.iload 8, 2) := by decide +kernel
theorem dM_bound_206 : decode bM_bound 206 = .ok (.iaload, 1) := by decide +kernel
theorem dM_bound_207 : decode bM_bound 207 = .ok (.i2l, 1) := by decide +kernel
theorem dM_bound_208 : decode bM_bound 208 = .ok (.ldiv, 1) := by decide +kernel
theorem dM_bound_209 : decode bM_bound 209 = .ok (.aload_n 0, 1) := by decide +kernel
theorem dM_bound_210 : decode bM_bound 210 = .ok (.getfield 16, 3) := by decide +kernel
theorem dM_bound_213 : decode bM_bound 213 = .ok (.iload 8, 2) := by decide +kernel
theorem dM_bound_215 : decode bM_bound 215 = .ok (.iaload, 1) := by decide +kernel
theorem dM_bound_216 : decode bM_bound 216 = .ok (.i2l, 1) := by decide +kernel
theorem dM_bound_217 : decode bM_bound 217 = .ok (.lmul, 1) := by decide +kernel
theorem dM_bound_218 : decode bM_bound 218 = .ok (.ladd, 1) := by decide +kernel
theorem dM_bound_219 : decode bM_bound 219 = .ok (.lstore 6, 2) := by decide +kernel
theorem dM_bound_221 : decode bM_bound 221 = .ok (.iinc 8 1, 3) := by decide +kernel
theorem dM_bound_224 : decode bM_bound 224 = .ok (.goto (-51), 3) := by decide +kernel
theorem dM_bound_227 : decode bM_bound 227 = .ok (.lload_n 2, 1) := by decide +kernel
theorem dM_bound_228 : decode bM_bound 228 = .ok (.lload 4, 2) := by decide +kernel
theorem dM_bound_230 : decode bM_bound 230 = .ok (.lmul, 1) := by decide +kernel
theorem dM_bound_231 : decode bM_bound 231 = .ok (.lload 6, 2) := by decide +kernel
theorem dM_bound_233 : decode bM_bound 233 = .ok (.ladd, 1) := by decide +kernel
theorem dM_bound_234 : decode bM_bound 234 = .ok (.lconst 1, 1) := by decide +kernel
theorem dM_bound_235 : decode bM_bound 235 = .ok (.lsub, 1) := by decide +kernel
theorem dM_bound_236 : decode bM_bound 236 = .ok (.lload 6, 2) := by decide +kernel
theorem dM_bound_238 : decode bM_bound 238 = .ok (.ldiv, 1) := by decide +kernel
theorem dM_bound_239 : decode bM_bound 239 = .ok (.l2i, 1) := by decide +kernel
theorem dM_bound_240 : decode bM_bound 240 = .ok (.istore 8, 2) := by decide +kernel
theorem dM_bound_242 : decode bM_bound 242 = .ok (.iload 8, 2) := by decide +kernel
theorem dM_bound_244 : decode bM_bound 244 = .ok (.iload_n 1, 1) := by decide +kernel
theorem dM_bound_245 : decode bM_bound 245 = .ok (.if_icmp .le 8, 3) := by decide +kernel
theorem dM_bound_248 : decode bM_bound 248 = .ok (.iload 8, 2) := by decide +kernel
theorem dM_bound_250 : decode bM_bound 250 = .ok (.goto 4, 3) := by decide +kernel
theorem dM_bound_253 : decode bM_bound 253 = .ok (.iload_n 1, 1) := by decide +kernel
theorem dM_bound_254 : decode bM_bound 254 = .ok (.ireturn, 1) := by decide +kernel
theorem dM_row_0 : decode bM_row 0 = .ok (.aload_n 0, 1) := by decide +kernel
theorem dM_row_1 : decode bM_row 1 = .ok (.getfield 65, 3) := by decide +kernel
theorem dM_row_4 : decode bM_row 4 = .ok (.ifCond .ne 9, 3) := by decide +kernel
theorem dM_row_7 : decode bM_row 7 = .ok (.aload_n 0, 1) := by decide +kernel
theorem dM_row_8 : decode bM_row 8 = .ok (.iconst 1, 1) := by decide +kernel
theorem dM_row_9 : decode bM_row 9 = .ok (.invokevirtual 58, 3) := by decide +kernel
theorem dM_row_12 : decode bM_row 12 = .ok (.ireturn, 1) := by decide +kernel
theorem dM_row_13 : decode bM_row 13 = .ok (.aload_n 0, 1) := by decide +kernel
theorem dM_row_14 : decode bM_row 14 = .ok (.invokevirtual 104, 3) := by decide +kernel
theorem dM_row_17 : decode bM_row 17 = .ok (.istore_n 3, 1) := by decide +kernel
theorem dM_row_18 : decode bM_row 18 = .ok (.iconst 0, 1) := by decide +kernel
theorem dM_row_19 : decode bM_row 19 = .ok (.istore 4, 2) := by decide +kernel
theorem dM_row_21 : decode bM_row 21 = .ok (.iconst (-1), 1) := by decide +kernel
theorem dM_row_22 : decode bM_row 22 = .ok (.istore 5, 2) := by decide +kernel
theorem dM_row_24 : decode bM_row 24 = .ok (.iconst 0, 1) := by decide +kernel
theorem dM_row_25 : decode bM_row 25 = .ok (.istore 6, 2) := by decide +kernel
theorem dM_row_27 : decode bM_row 27 = .ok (.iload 6, 2) := by decide +kernel
theorem dM_row_29 : decode bM_row 29 = .ok (.aload_n 0, 1) := by decide +kernel
theorem dM_row_30 : decode bM_row 30 = .ok (.getfield 62, 3) := by decide +kernel
theorem dM_row_33 : decode bM_row 33 = .ok (.if_icmp .ge 29, 3) := by decide +kernel
theorem dM_row_36 : decode bM_row 36 = .ok (.iload 4, 2) := by decide +kernel
theorem dM_row_38 : decode bM_row 38 = .ok (.aload_n 0, 1) := by decide +kernel
theorem dM_row_39 : decode bM_row 39 = .ok (.getfield 30, 3) := by decide +kernel
theorem dM_row_42 : decode bM_row 42 = .ok (.iload 6, 2) := by decide +kernel
theorem dM_row_44 : decode bM_row 44 = .ok (.iaload, 1) := by decide +kernel
theorem dM_row_45 : decode bM_row 45 = .ok (.ifCond .lt 7, 3) := by decide +kernel
theorem dM_row_48 : decode bM_row 48 = .ok (.iconst 1, 1) := by decide +kernel
theorem dM_row_49 : decode bM_row 49 = .ok (.goto 4, 3) := by decide +kernel
theorem dM_row_52 : decode bM_row 52 = .ok (.iconst 0, 1) := by decide +kernel
theorem dM_row_53 : decode bM_row 53 = .ok (.iadd, 1) := by decide +kernel
theorem dM_row_54 : decode bM_row 54 = .ok (.istore 4, 2) := by decide +kernel
theorem dM_row_56 : decode bM_row 56 = .ok (.iinc 6 1, 3) := by decide +kernel
theorem dM_row_59 : decode bM_row 59 = .ok (.goto (-32), 3) := by decide +kernel
theorem dM_row_62 : decode bM_row 62 = .ok (.iload_n 1, 1) := by decide +kernel
theorem dM_row_63 : decode bM_row 63 = .ok (.ifCond .lt 24, 3) := by decide +kernel
theorem dM_row_66 : decode bM_row 66 = .ok (.iload_n 1, 1) := by decide +kernel
theorem dM_row_67 : decode bM_row 67 = .ok (.iload 4, 2) := by decide +kernel
theorem dM_row_69 : decode bM_row 69 = .ok (.if_icmp .ge 18, 3) := by decide +kernel
theorem dM_row_72 : decode bM_row 72 = .ok (.iload_n 2, 1) := by decide +kernel
theorem dM_row_73 : decode bM_row 73 = .ok (.iconst 0, 1) := by decide +kernel
theorem dM_row_74 : decode bM_row 74 = .ok (.iconst 3, 1) := by decide +kernel
theorem dM_row_75 : decode bM_row 75 = .ok (.invokestatic 54, 3) := by decide +kernel
theorem dM_row_78 : decode bM_row 78 = .ok (.ifCond .eq 9, 3) := by decide +kernel
theorem dM_row_81 : decode bM_row 81 = .ok (.iload_n 3, 1) := by decide +kernel
theorem dM_row_82 : decode bM_row 82 = .ok (.ldc 84, 2) := by decide +kernel
theorem dM_row_84 : decode bM_row 84 = .ok (.if_icmp .ne 9, 3) := by decide +kernel
theorem dM_row_87 : decode bM_row 87 = .ok (.aload_n 0, 1) := by decide +kernel
theorem dM_row_88 : decode bM_row 88 = .ok (.iconst 2, 1) := by decide +kernel
theorem dM_row_89 : decode bM_row 89 = .ok (.invokevirtual 58, 3) := by decide +kernel
theorem dM_row_92 : decode bM_row 92 = .ok (.ireturn, 1) := by decide +kernel
theorem dM_row_93 : decode bM_row 93 = .ok (.aload_n 0, 1) := by decide +kernel
theorem dM_row_94 : decode bM_row 94 = .ok (.iconst 0, 1) := by decide +kernel
theorem dM_row_95 : decode bM_row 95 = .ok (.putfield 51, 3) := by decide +kernel
theorem dM_row_98 : decode bM_row 98 = .ok (.iconst 0, 1) := by decide +kernel
theorem dM_row_99 : decode bM_row 99 = .ok (.istore 6, 2) := by decide +kernel
theorem dM_row_101 : decode bM_row 101 = .ok (.iload 6, 2) := by decide +kernel
theorem dM_row_103 : decode bM_row 103 = .ok (.aload_n 0, 1) := by decide +kernel
theorem dM_row_104 : decode bM_row 104 = .ok (.getfield 62, 3) := by decide +kernel
theorem dM_row_107 : decode bM_row 107 = .ok (.if_icmp .ge 38, 3) := by decide +kernel
theorem dM_row_110 : decode bM_row 110 = .ok (.aload_n 0, 1) := by decide +kernel
theorem dM_row_111 : decode bM_row 111 = .ok (.getfield 30, 3) := by decide +kernel
theorem dM_row_114 : decode bM_row 114 = .ok (.iload 6, 2) := by decide +kernel
theorem dM_row_116 : decode bM_row 116 = .ok (.iaload, 1) := by decide +kernel
theorem dM_row_117 : decode bM_row 117 = .ok (.ifCond .lt 18, 3) := by decide +kernel
theorem dM_row_120 : decode bM_row 120 = .ok (.aload_n 0, 1) := by decide +kernel
theorem dM_row_121 : decode bM_row 121 = .ok (.iload 6, 2) := by decide +kernel
theorem dM_row_123 : decode bM_row 123 = .ok (.invokevirtual 107, 3) := by decide +kernel
theorem dM_row_126 : decode bM_row 126 = .ok (.iload_n 1, 1) := by decide +kernel
theorem dM_row_127 : decode bM_row 127 = .ok (.if_icmp .ne 8, 3) := by decide +kernel
theorem dM_row_130 : decode bM_row 130 = .ok (.iload 6, 2) := by decide +kernel
theorem dM_row_132 : decode bM_row 132 = .ok (.goto 5, 3) := by decide +kernel
theorem dM_row_135 : decode bM_row 135 = .ok (.iload 5, 2) := by decide +kernel
theorem dM_row_137 : decode bM_row 137 = .ok (.istore 5, 2) := by decide +kernel
theorem dM_row_139 : decode bM_row 139 = .ok (.iinc 6 1, 3) := by decide +kernel
theorem dM_row_142 : decode bM_row 142 = .ok (.goto (-41), 3) := by decide +kernel
theorem dM_row_145 : decode bM_row 145 = .ok (.aload_n 0, 1) := by decide +kernel
theorem dM_row_146 : decode bM_row 146 = .ok (.getfield 30, 3) := by decide +kernel
theorem dM_row_149 : decode bM_row 149 = .ok (.iload 5, 2) := by decide +kernel
theorem dM_row_151 : decode bM_row 151 = .ok (.iaload, 1) := by decide +kernel
theorem dM_row_152 : decode bM_row 152 = .ok (.istore 6, 2) := by decide +kernel
theorem dM_row_154 : decode bM_row 154 = .ok (.aload_n 0, 1) := by decide +kernel
theorem dM_row_155 : decode bM_row 155 = .ok (.getfield 36, 3) := by decide +kernel
theorem dM_row_158 : decode bM_row 158 = .ok (.bipush 8, 2) := by decide +kernel
theorem dM_row_160 : decode bM_row 160 = .ok (.iload 6, 2) := by decide +kernel
theorem dM_row_162 : decode bM_row 162 = .ok (.imul, 1) := by decide +kernel
theorem dM_row_163 : decode bM_row 163 = .ok (.iload 5, 2) := by decide +kernel
theorem dM_row_165 : decode bM_row 165 = .ok (.iadd, 1) := by decide +kernel
theorem dM_row_166 : decode bM_row 166 = .ok (.iaload, 1) := by decide +kernel
theorem dM_row_167 : decode bM_row 167 = .ok (.istore 7, 2) := by decide +kernel
theorem dM_row_169 : decode bM_row 169 = .ok (.iload_n 2, 1) := by decide +kernel
theorem dM_row_170 : decode bM_row 170 = .ok (.ifCond .ne 8, 3) := by decide +kernel
theorem dM_row_173 : decode bM_row 173 = .ok (.iload 7, 2) := by decide +kernel
theorem dM_row_175 : decode bM_row 175 = .ok (.goto 34, 3) := by decide +kernel
theorem dM_row_178 : decode bM_row 178 = .ok (.iload_n 2, 1) := by decide +kernel
theorem dM_row_179 : decode bM_row 179 = .ok (.iconst 1, 1) := by decide +kernel
theorem dM_row_180 : decode bM_row 180 = .ok (.if_icmp .ne 8, 3) := by decide +kernel
theorem dM_row_183 : decode bM_row 183 = .ok (.iload 6, 2) := by decide +kernel
theorem dM_row_185 : decode bM_row 185 = .ok (.goto 24, 3) := by decide +kernel
theorem dM_row_188 : decode bM_row 188 = .ok (.iload_n 2, 1) := by decide +kernel
theorem dM_row_189 : decode bM_row 189 = .ok (.iconst 2, 1) := by decide +kernel
theorem dM_row_190 : decode bM_row 190 = .ok (.if_icmp .ne 8, 3) := by decide +kernel
theorem dM_row_193 : decode bM_row 193 = .ok (.iload 5, 2) := by decide +kernel
theorem dM_row_195 : decode bM_row 195 = .ok (.goto 14, 3) := by decide +kernel
theorem dM_row_198 : decode bM_row 198 = .ok (.iload 7, 2) := by decide +kernel
theorem dM_row_200 : decode bM_row 200 = .ok (.aload_n 0, 1) := by decide +kernel
theorem dM_row_201 : decode bM_row 201 = .ok (.iload 6, 2) := by decide +kernel
theorem dM_row_203 : decode bM_row 203 = .ok (.iload 5, 2) := by decide +kernel
theorem dM_row_205 : decode bM_row 205 = .ok (.invokevirtual 76, 3) := by decide +kernel
theorem dM_row_208 : decode bM_row 208 = .ok (.iadd, 1) := by decide +kernel
theorem dM_row_209 : decode bM_row 209 = .ok (.ireturn, 1) := by decide +kernel
theorem dM_ahead_0 : decode bM_ahead 0 = .ok (.iconst 0, 1) := by decide +kernel
theorem dM_ahead_1 : decode bM_ahead 1 = .ok (.istore_n 2, 1) := by decide +kernel
theorem dM_ahead_2 : decode bM_ahead 2 = .ok (.aload_n 0, 1) := by decide +kernel
theorem dM_ahead_3 : decode bM_ahead 3 = .ok (.getfield 36, 3) := by decide +kernel
theorem dM_ahead_6 : decode bM_ahead 6 = .ok (.bipush 8, 2) := by decide +kernel
theorem dM_ahead_8 : decode bM_ahead 8 = .ok (.aload_n 0, 1) := by decide +kernel
theorem dM_ahead_9 : decode bM_ahead 9 = .ok (.getfield 30, 3) := by decide +kernel
theorem dM_ahead_12 : decode bM_ahead 12 = .ok (.iload_n 1, 1) := by decide +kernel
theorem dM_ahead_13 : decode bM_ahead 13 = .ok (.iaload, 1) := by decide +kernel
theorem dM_ahead_14 : decode bM_ahead 14 = .ok (.imul, 1) := by decide +kernel
theorem dM_ahead_15 : decode bM_ahead 15 = .ok (.iload_n 1, 1) := by decide +kernel
theorem dM_ahead_16 : decode bM_ahead 16 = .ok (.iadd, 1) := by decide +kernel
theorem dM_ahead_17 : decode bM_ahead 17 = .ok (.iaload, 1) := by decide +kernel
theorem dM_ahead_18 : decode bM_ahead 18 = .ok (.istore_n 3, 1) := by decide +kernel
theorem dM_ahead_19 : decode bM_ahead 19 = .ok (.iconst 0, 1) := by decide +kernel
theorem dM_ahead_20 : decode bM_ahead 20 = .ok (.istore 4, 2) := by decide +kernel
theorem dM_ahead_22 : decode bM_ahead 22 = .ok (.iload 4, 2) := by decide +kernel
theorem dM_ahead_24 : decode bM_ahead 24 = .ok (.aload_n 0, 1) := by decide +kernel
theorem dM_ahead_25 : decode bM_ahead 25 = .ok (.getfield 62, 3) := by decide +kernel
theorem dM_ahead_28 : decode bM_ahead 28 = .ok (.if_icmp .ge 94, 3) := by decide +kernel
theorem dM_ahead_31 : decode bM_ahead 31 = .ok (.aload_n 0, 1) := by decide +kernel
theorem dM_ahead_32 : decode bM_ahead 32 = .ok (.getfield 30, 3) := by decide +kernel
theorem dM_ahead_35 : decode bM_ahead 35 = .ok (.iload 4, 2) := by decide +kernel
theorem dM_ahead_37 : decode bM_ahead 37 = .ok (.iaload, 1) := by decide +kernel
theorem dM_ahead_38 : decode bM_ahead 38 = .ok (.ifCond .ge 8, 3) := by decide +kernel
theorem dM_ahead_41 : decode bM_ahead 41 = .ok (.ldc 84, 2) := by decide +kernel
theorem dM_ahead_43 : decode bM_ahead 43 = .ok (.goto 35, 3) := by decide +kernel
theorem dM_ahead_46 : decode bM_ahead 46 = .ok (.aload_n 0, 1) := by decide +kernel
theorem dM_ahead_47 : decode bM_ahead 47 = .ok (.getfield 36, 3) := by decide +kernel
theorem dM_ahead_50 : decode bM_ahead 50 = .ok (.bipush 8, 2) := by decide +kernel
theorem dM_ahead_52 : decode bM_ahead 52 = .ok (.aload_n 0, 1) := by decide +kernel
theorem dM_ahead_53 : decode bM_ahead 53 = .ok (.getfield 30, 3) := by decide +kernel
theorem dM_ahead_56 : decode bM_ahead 56 = .ok (.iload 4, 2) := by decide +kernel
theorem dM_ahead_58 : decode bM_ahead 58 = .ok (.iaload, 1) := by decide +kernel
theorem dM_ahead_59 : decode bM_ahead 59 = .ok (.ifCond .ge 7, 3) := by decide +kernel
theorem dM_ahead_62 : decode bM_ahead 62 = .ok (.iconst 0, 1) := by decide +kernel
theorem dM_ahead_63 : decode bM_ahead 63 = .ok (.goto 10, 3) := by decide +kernel
theorem dM_ahead_66 : decode bM_ahead 66 = .ok (.aload_n 0, 1) := by decide +kernel
theorem dM_ahead_67 : decode bM_ahead 67 = .ok (.getfield 30, 3) := by decide +kernel
theorem dM_ahead_70 : decode bM_ahead 70 = .ok (.iload 4, 2) := by decide +kernel
theorem dM_ahead_72 : decode bM_ahead 72 = .ok (.iaload, 1) := by decide +kernel
theorem dM_ahead_73 : decode bM_ahead 73 = .ok (.imul, 1) := by decide +kernel
theorem dM_ahead_74 : decode bM_ahead 74 = .ok (.iload 4, 2) := by decide +kernel
theorem dM_ahead_76 : decode bM_ahead 76 = .ok (.iadd, 1) := by decide +kernel
theorem dM_ahead_77 : decode bM_ahead 77 = .ok (.iaload, 1) := by decide +kernel
theorem dM_ahead_78 : decode bM_ahead 78 = .ok (.istore 5, 2) := by decide +kernel
theorem dM_ahead_80 : decode bM_ahead 80 = .ok (.iload_n 2, 1) := by decide +kernel
theorem dM_ahead_81 : decode bM_ahead 81 = .ok (.iload 5, 2) := by decide +kernel
theorem dM_ahead_83 : decode bM_ahead 83 = .ok (.iload_n 3, 1) := by decide +kernel
theorem dM_ahead_84 : decode bM_ahead 84 = .ok (.if_icmp .lt 25, 3) := by decide +kernel
theorem dM_ahead_87 : decode bM_ahead 87 = .ok (.iload 5, 2) := by decide +kernel
theorem dM_ahead_89 : decode bM_ahead 89 = .ok (.iload_n 3, 1) := by decide +kernel
theorem dM_ahead_90 : decode bM_ahead 90 = .ok (.if_icmp .ne 23, 3) := by decide +kernel
theorem dM_ahead_93 : decode bM_ahead 93 = .ok (.aload_n 0, 1) := by decide +kernel
theorem dM_ahead_94 : decode bM_ahead 94 = .ok (.getfield 30, 3) := by decide +kernel
theorem dM_ahead_97 : decode bM_ahead 97 = .ok (.iload 4, 2) := by decide +kernel
theorem dM_ahead_99 : decode bM_ahead 99 = .ok (.iaload, 1) := by decide +kernel
theorem dM_ahead_100 : decode bM_ahead 100 = .ok (.aload_n 0, 1) := by decide +kernel
theorem dM_ahead_101 : decode bM_ahead 101 = .ok (.getfield 30, 3) := by decide +kernel
theorem dM_ahead_104 : decode bM_ahead 104 = .ok (.iload_n 1, 1) := by decide +kernel
theorem dM_ahead_105 : decode bM_ahead 105 = .ok (.iaload, 1) := by decide +kernel
theorem dM_ahead_106 : decode bM_ahead 106 = .ok (.if_icmp .ge 7, 3) := by decide +kernel
theorem dM_ahead_109 : decode bM_ahead 109 = .ok (.iconst 1, 1) := by decide +kernel
theorem dM_ahead_110 : decode bM_ahead 110 = .ok (.goto 4, 3) := by decide +kernel
theorem dM_ahead_113 : decode bM_ahead 113 = .ok (.iconst 0, 1) := by decide +kernel
theorem dM_ahead_114 : decode bM_ahead 114 = .ok (.iadd, 1) := by decide +kernel
theorem dM_ahead_115 : decode bM_ahead 115 = .ok (.istore_n 2, 1) := by decide +kernel
theorem dM_ahead_116 : decode bM_ahead 116 = .ok (.iinc 4 1, 3) := by decide +kernel
theorem dM_ahead_119 : decode bM_ahead 119 = .ok (.goto (-97), 3) := by decide +kernel
theorem dM_ahead_122 : decode bM_ahead 122 = .ok (.iload_n 2, 1) := by decide +kernel
theorem dM_ahead_123 : decode bM_ahead 123 = .ok (.ireturn, 1) := by decide +kernel
theorem dM_look_0 : decode bM_look 0 = .ok (.iload_n 1, 1) := by decide +kernel
theorem dM_look_1 : decode bM_look 1 = .ok (.ifCond .lt 20, 3) := by decide +kernel
theorem dM_look_4 : decode bM_look 4 = .ok (.iload_n 1, 1) := by decide +kernel
theorem dM_look_5 : decode bM_look 5 = .ok (.aload_n 0, 1) := by decide +kernel
theorem dM_look_6 : decode bM_look 6 = .ok (.getfield 62, 3) := by decide +kernel
theorem dM_look_9 : decode bM_look 9 = .ok (.if_icmp .ge 12, 3) := by decide +kernel
theorem dM_look_12 : decode bM_look 12 = .ok (.iload_n 2, 1) := by decide +kernel
theorem dM_look_13 : decode bM_look 13 = .ok (.iconst 0, 1) := by decide +kernel
theorem dM_look_14 : decode bM_look 14 = .ok (.iconst 2, 1) := by decide +kernel
theorem dM_look_15 : decode bM_look 15 = .ok (.invokestatic 54, 3) := by decide +kernel
theorem dM_look_18 : decode bM_look 18 = .ok (.ifCond .ne 9, 3) := by decide +kernel
theorem dM_look_21 : decode bM_look 21 = .ok (.aload_n 0, 1) := by decide +kernel
theorem dM_look_22 : decode bM_look 22 = .ok (.iconst 1, 1) := by decide +kernel
theorem dM_look_23 : decode bM_look 23 = .ok (.invokevirtual 58, 3) := by decide +kernel
theorem dM_look_26 : decode bM_look 26 = .ok (.ireturn, 1) := by decide +kernel
theorem dM_look_27 : decode bM_look 27 = .ok (.aload_n 0, 1) := by decide +kernel
theorem dM_look_28 : decode bM_look 28 = .ok (.iconst 0, 1) := by decide +kernel
theorem dM_look_29 : decode bM_look 29 = .ok (.putfield 51, 3) := by decide +kernel
theorem dM_look_32 : decode bM_look 32 = .ok (.iload_n 2, 1) := by decide +kernel
theorem dM_look_33 : decode bM_look 33 = .ok (.ifCond .ne 12, 3) := by decide +kernel
theorem dM_look_36 : decode bM_look 36 = .ok (.aload_n 0, 1) := by decide +kernel
theorem dM_look_37 : decode bM_look 37 = .ok (.getfield 7, 3) := by decide +kernel
theorem dM_look_40 : decode bM_look 40 = .ok (.iload_n 1, 1) := by decide +kernel
theorem dM_look_41 : decode bM_look 41 = .ok (.iaload, 1) := by decide +kernel
theorem dM_look_42 : decode bM_look 42 = .ok (.goto 34, 3) := by decide +kernel
theorem dM_look_45 : decode bM_look 45 = .ok (.iload_n 2, 1) := by decide +kernel
theorem dM_look_46 : decode bM_look 46 = .ok (.iconst 1, 1) := by decide +kernel
theorem dM_look_47 : decode bM_look 47 = .ok (.if_icmp .ne 12, 3) := by decide +kernel
theorem dM_look_50 : decode bM_look 50 = .ok (.aload_n 0, 1) := by decide +kernel
theorem dM_look_51 : decode bM_look 51 = .ok (.getfield 13, 3) := by decide +kernel
theorem dM_look_54 : decode bM_look 54 = .ok (.iload_n 1, 1) := by decide +kernel
theorem dM_look_55 : decode bM_look 55 = .ok (.iaload, 1) := by decide +kernel
theorem dM_look_56 : decode bM_look 56 = .ok (.goto 20, 3) := by decide +kernel
theorem dM_look_59 : decode bM_look 59 = .ok (.aload_n 0, 1) := by decide +kernel
theorem dM_look_60 : decode bM_look 60 = .ok (.getfield 65, 3) := by decide +kernel
theorem dM_look_63 : decode bM_look 63 = .ok (.ifCond .eq 12, 3) := by decide +kernel
theorem dM_look_66 : decode bM_look 66 = .ok (.aload_n 0, 1) := by decide +kernel
theorem dM_look_67 : decode bM_look 67 = .ok (.getfield 33, 3) := by decide +kernel
theorem dM_look_70 : decode bM_look 70 = .ok (.iload_n 1, 1) := by decide +kernel
theorem dM_look_71 : decode bM_look 71 = .ok (.iaload, 1) := by decide +kernel
theorem dM_look_72 : decode bM_look 72 = .ok (.goto 4, 3) := by decide +kernel
theorem dM_look_75 : decode bM_look 75 = .ok (.iconst (-1), 1) := by decide +kernel
theorem dM_look_76 : decode bM_look 76 = .ok (.ireturn, 1) := by decide +kernel
theorem dM_count_0 : decode bM_count 0 = .ok (.aload_n 0, 1) := by decide +kernel
theorem dM_count_1 : decode bM_count 1 = .ok (.iconst 0, 1) := by decide +kernel
theorem dM_count_2 : decode bM_count 2 = .ok (.putfield 51, 3) := by decide +kernel
theorem dM_count_5 : decode bM_count 5 = .ok (.iconst 0, 1) := by decide +kernel
theorem dM_count_6 : decode bM_count 6 = .ok (.istore_n 2, 1) := by decide +kernel
theorem dM_count_7 : decode bM_count 7 = .ok (.iconst 0, 1) := by decide +kernel
theorem dM_count_8 : decode bM_count 8 = .ok (.istore_n 3, 1) := by decide +kernel
theorem dM_count_9 : decode bM_count 9 = .ok (.iconst 0, 1) := by decide +kernel
theorem dM_count_10 : decode bM_count 10 = .ok (.istore 4, 2) := by decide +kernel
theorem dM_count_12 : decode bM_count 12 = .ok (.iload 4, 2) := by decide +kernel
theorem dM_count_14 : decode bM_count 14 = .ok (.aload_n 0, 1) := by decide +kernel
theorem dM_count_15 : decode bM_count 15 = .ok (.getfield 62, 3) := by decide +kernel
theorem dM_count_18 : decode bM_count 18 = .ok (.if_icmp .ge 43, 3) := by decide +kernel
theorem dM_count_21 : decode bM_count 21 = .ok (.iload_n 2, 1) := by decide +kernel
theorem dM_count_22 : decode bM_count 22 = .ok (.aload_n 0, 1) := by decide +kernel
theorem dM_count_23 : decode bM_count 23 = .ok (.iload 4, 2) := by decide +kernel
theorem dM_count_25 : decode bM_count 25 = .ok (.invokevirtual 73, 3) := by decide +kernel
theorem dM_count_28 : decode bM_count 28 = .ok (.iadd, 1) := by decide +kernel
theorem dM_count_29 : decode bM_count 29 = .ok (.istore_n 2, 1) := by decide +kernel
theorem dM_count_30 : decode bM_count 30 = .ok (.iload_n 3, 1) := by decide +kernel
theorem dM_count_31 : decode bM_count 31 = .ok (.aload_n 0, 1) := by decide +kernel
theorem dM_count_32 : decode bM_count 32 = .ok (.getfield 65, 3) := by decide +kernel
theorem dM_count_35 : decode bM_count 35 = .ok (.ifCond .eq 17, 3) := by decide +kernel
theorem dM_count_38 : decode bM_count 38 = .ok (.aload_n 0, 1) := by decide +kernel
theorem dM_count_39 : decode bM_count 39 = .ok (.getfield 33, 3) := by decide +kernel
theorem dM_count_42 : decode bM_count 42 = .ok (.iload 4, 2) := by decide +kernel
theorem dM_count_44 : decode bM_count 44 = .ok (.iaload, 1) := by decide +kernel
theorem dM_count_45 : decode bM_count 45 = .ok (.ifCond .lt 7, 3) := by decide +kernel
theorem dM_count_48 : decode bM_count 48 = .ok (.iconst 1, 1) := by decide +kernel
theorem dM_count_49 : decode bM_count 49 = .ok (.goto 4, 3) := by decide +kernel
theorem dM_count_52 : decode bM_count 52 = .ok (.iconst 0, 1) := by decide +kernel
theorem dM_count_53 : decode bM_count 53 = .ok (.iadd, 1) := by decide +kernel
theorem dM_count_54 : decode bM_count 54 = .ok (.istore_n 3, 1) := by decide +kernel
theorem dM_count_55 : decode bM_count 55 = .ok (.iinc 4 1, 3) := by decide +kernel
theorem dM_count_58 : decode bM_count 58 = .ok (.goto (-46), 3) := by decide +kernel
theorem dM_count_61 : decode bM_count 61 = .ok (.iload_n 1, 1) := by decide +kernel
theorem dM_count_62 : decode bM_count 62 = .ok (.tableswitch 105 0 5 #[38, 43, 48, 61, 90, 103], 38) := by decide +kernel
theorem dM_count_100 : decode bM_count 100 = .ok (.aload_n 0, 1) := by decide +kernel
theorem dM_count_101 : decode bM_count 101 = .ok (.getfield 62, 3) := by decide +kernel
theorem dM_count_104 : decode bM_count 104 = .ok (.ireturn, 1) := by decide +kernel
theorem dM_count_105 : decode bM_count 105 = .ok (.aload_n 0, 1) := by decide +kernel
theorem dM_count_106 : decode bM_count 106 = .ok (.invokevirtual 98, 3) := by decide +kernel
theorem dM_count_109 : decode bM_count 109 = .ok (.ireturn, 1) := by decide +kernel
theorem dM_count_110 : decode bM_count 110 = .ok (.aload_n 0, 1) := by decide +kernel
theorem dM_count_111 : decode bM_count 111 = .ok (.getfield 65, 3) := by decide +kernel
theorem dM_count_114 : decode bM_count 114 = .ok (.ifCond .eq 7, 3) := by decide +kernel
theorem dM_count_117 : decode bM_count 117 = .ok (.iconst 1, 1) := by decide +kernel
theorem dM_count_118 : decode bM_count 118 = .ok (.goto 4, 3) := by decide +kernel
theorem dM_count_121 : decode bM_count 121 = .ok (.iconst 0, 1) := by decide +kernel
theorem dM_count_122 : decode bM_count 122 = .ok (.ireturn, 1) := by decide +kernel
theorem dM_count_123 : decode bM_count 123 = .ok (.aload_n 0, 1) := by decide +kernel
theorem dM_count_124 : decode bM_count 124 = .ok (.getfield 65, 3) := by decide +kernel
theorem dM_count_127 : decode bM_count 127 = .ok (.ifCond .ne 7, 3) := by decide +kernel
theorem dM_count_130 : decode bM_count 130 = .ok (.iconst (-1), 1) := by decide +kernel
theorem dM_count_131 : decode bM_count 131 = .ok (.goto 20, 3) := by decide +kernel
theorem dM_count_134 : decode bM_count 134 = .ok (.aload_n 0, 1) := by decide +kernel
theorem dM_count_135 : decode bM_count 135 = .ok (.invokevirtual 104, 3) := by decide +kernel
theorem dM_count_138 : decode bM_count 138 = .ok (.ldc 84, 2) := by decide +kernel
theorem dM_count_140 : decode bM_count 140 = .ok (.if_icmp .ge 10, 3) := by decide +kernel
theorem dM_count_143 : decode bM_count 143 = .ok (.aload_n 0, 1) := by decide +kernel
theorem dM_count_144 : decode bM_count 144 = .ok (.invokevirtual 92, 3) := by decide +kernel
theorem dM_count_147 : decode bM_count 147 = .ok (.goto 4, 3) := by decide +kernel
theorem dM_count_150 : decode bM_count 150 = .ok (.iconst 0, 1) := by decide +kernel
theorem dM_count_151 : decode bM_count 151 = .ok (.ireturn, 1) := by decide +kernel
theorem dM_count_152 : decode bM_count 152 = .ok (.aload_n 0, 1) := by decide +kernel
theorem dM_count_153 : decode bM_count 153 = .ok (.getfield 65, 3) := by decide +kernel
theorem dM_count_156 : decode bM_count 156 = .ok (.ifCond .eq 7, 3) := by decide +kernel
theorem dM_count_159 : decode bM_count 159 = .ok (.iload_n 3, 1) := by decide +kernel
theorem dM_count_160 : decode bM_count 160 = .ok (.goto 4, 3) := by decide +kernel
theorem dM_count_163 : decode bM_count 163 = .ok (.iconst (-1), 1) := by decide +kernel
theorem dM_count_164 : decode bM_count 164 = .ok (.ireturn, 1) := by decide +kernel
theorem dM_count_165 : decode bM_count 165 = .ok (.iload_n 2, 1) := by decide +kernel
theorem dM_count_166 : decode bM_count 166 = .ok (.ireturn, 1) := by decide +kernel
theorem dM_count_167 : decode bM_count 167 = .ok (.iconst (-1), 1) := by decide +kernel
theorem dM_count_168 : decode bM_count 168 = .ok (.ireturn, 1) := by decide +kernel
end
section
theorem dL_cell_0 : decode bL_cell 0 = .ok (.iload_n 1, 1) := by decide +kernel
theorem dL_cell_1 : decode bL_cell 1 = .ok (.aload_n 0, 1) := by decide +kernel
theorem dL_cell_2 : decode bL_cell 2 = .ok (.arraylength, 1) := by decide +kernel
theorem dL_cell_3 : decode bL_cell 3 = .ok (.if_icmp .ge 9, 3) := by decide +kernel
theorem dL_cell_6 : decode bL_cell 6 = .ok (.aload_n 0, 1) := by decide +kernel
theorem dL_cell_7 : decode bL_cell 7 = .ok (.iload_n 1, 1) := by decide +kernel
theorem dL_cell_8 : decode bL_cell 8 = .ok (.iaload, 1) := by decide +kernel
theorem dL_cell_9 : decode bL_cell 9 = .ok (.goto 4, 3) := by decide +kernel
theorem dL_cell_12 : decode bL_cell 12 = .ok (.iconst 0, 1) := by decide +kernel
theorem dL_cell_13 : decode bL_cell 13 = .ok (.ireturn, 1) := by decide +kernel
theorem dL_bay_0 : decode bL_bay 0 = .ok (.aload_n 3, 1) := by decide +kernel
theorem dL_bay_1 : decode bL_bay 1 = .ok (.iconst 0, 1) := by decide +kernel
theorem dL_bay_2 : decode bL_bay 2 = .ok (.aload_n 0, 1) := by decide +kernel
theorem dL_bay_3 : decode bL_bay 3 = .ok (.iload_n 1, 1) := by decide +kernel
theorem dL_bay_4 : decode bL_bay 4 = .ok (.iload_n 2, 1) := by decide +kernel
theorem dL_bay_5 : decode bL_bay 5 = .ok (.invokevirtual 7, 3) := by decide +kernel
theorem dL_bay_8 : decode bL_bay 8 = .ok (.i2l, 1) := by decide +kernel
theorem dL_bay_9 : decode bL_bay 9 = .ok (.lastore, 1) := by decide +kernel
theorem dL_bay_10 : decode bL_bay 10 = .ok (.goto 11, 3) := by decide +kernel
theorem dL_bay_13 : decode bL_bay 13 = .ok (.astore 4, 2) := by decide +kernel
theorem dL_bay_15 : decode bL_bay 15 = .ok (.iconst 1, 1) := by decide +kernel
theorem dL_bay_16 : decode bL_bay 16 = .ok (.ireturn, 1) := by decide +kernel
theorem dL_bay_17 : decode bL_bay 17 = .ok (.astore 4, 2) := by decide +kernel
theorem dL_bay_19 : decode bL_bay 19 = .ok (.iconst 2, 1) := by decide +kernel
theorem dL_bay_20 : decode bL_bay 20 = .ok (.ireturn, 1) := by decide +kernel
theorem dL_bay_21 : decode bL_bay 21 = .ok (.iconst 0, 1) := by decide +kernel
theorem dL_bay_22 : decode bL_bay 22 = .ok (.ireturn, 1) := by decide +kernel
theorem dL_rate_0 : decode bL_rate 0 = .ok (.aload 4, 2) := by decide +kernel
theorem dL_rate_2 : decode bL_rate 2 = .ok (.iconst 0, 1) := by decide +kernel
theorem dL_rate_3 : decode bL_rate 3 = .ok (.aload_n 0, 1) := by decide +kernel
theorem dL_rate_4 : decode bL_rate 4 = .ok (.iload_n 1, 1) := by decide +kernel
theorem dL_rate_5 : decode bL_rate 5 = .ok (.iload_n 2, 1) := by decide +kernel
theorem dL_rate_6 : decode bL_rate 6 = .ok (.iload_n 3, 1) := by decide +kernel
theorem dL_rate_7 : decode bL_rate 7 = .ok (.invokevirtual 17, 3) := by decide +kernel
theorem dL_rate_10 : decode bL_rate 10 = .ok (.ifCond .eq 7, 3) := by decide +kernel
theorem dL_rate_13 : decode bL_rate 13 = .ok (.lconst 1, 1) := by decide +kernel
theorem dL_rate_14 : decode bL_rate 14 = .ok (.goto 4, 3) := by decide +kernel
theorem dL_rate_17 : decode bL_rate 17 = .ok (.lconst 0, 1) := by decide +kernel
theorem dL_rate_18 : decode bL_rate 18 = .ok (.lastore, 1) := by decide +kernel
theorem dL_rate_19 : decode bL_rate 19 = .ok (.goto 11, 3) := by decide +kernel
theorem dL_rate_22 : decode bL_rate 22 = .ok (.astore 5, 2) := by decide +kernel
theorem dL_rate_24 : decode bL_rate 24 = .ok (.iconst 1, 1) := by decide +kernel
theorem dL_rate_25 : decode bL_rate 25 = .ok (.ireturn, 1) := by decide +kernel
theorem dL_rate_26 : decode bL_rate 26 = .ok (.astore 5, 2) := by decide +kernel
theorem dL_rate_28 : decode bL_rate 28 = .ok (.iconst 2, 1) := by decide +kernel
theorem dL_rate_29 : decode bL_rate 29 = .ok (.ireturn, 1) := by decide +kernel
theorem dL_rate_30 : decode bL_rate 30 = .ok (.iconst 0, 1) := by decide +kernel
theorem dL_rate_31 : decode bL_rate 31 = .ok (.ireturn, 1) := by decide +kernel
theorem dL_works_0 : decode bL_works 0 = .ok (.aload_n 3, 1) := by decide +kernel
theorem dL_works_1 : decode bL_works 1 = .ok (.iconst 0, 1) := by decide +kernel
theorem dL_works_2 : decode bL_works 2 = .ok (.aload_n 0, 1) := by decide +kernel
theorem dL_works_3 : decode bL_works 3 = .ok (.iload_n 1, 1) := by decide +kernel
theorem dL_works_4 : decode bL_works 4 = .ok (.iload_n 2, 1) := by decide +kernel
theorem dL_works_5 : decode bL_works 5 = .ok (.invokevirtual 23, 3) := by decide +kernel
theorem dL_works_8 : decode bL_works 8 = .ok (.i2l, 1) := by decide +kernel
theorem dL_works_9 : decode bL_works 9 = .ok (.lastore, 1) := by decide +kernel
theorem dL_works_10 : decode bL_works 10 = .ok (.goto 11, 3) := by decide +kernel
theorem dL_works_13 : decode bL_works 13 = .ok (.astore 4, 2) := by decide +kernel
theorem dL_works_15 : decode bL_works 15 = .ok (.iconst 1, 1) := by decide +kernel
theorem dL_works_16 : decode bL_works 16 = .ok (.ireturn, 1) := by decide +kernel
theorem dL_works_17 : decode bL_works 17 = .ok (.astore 4, 2) := by decide +kernel
theorem dL_works_19 : decode bL_works 19 = .ok (.iconst 2, 1) := by decide +kernel
theorem dL_works_20 : decode bL_works 20 = .ok (.ireturn, 1) := by decide +kernel
theorem dL_works_21 : decode bL_works 21 = .ok (.iconst 0, 1) := by decide +kernel
theorem dL_works_22 : decode bL_works 22 = .ok (.ireturn, 1) := by decide +kernel
theorem dL_where_0 : decode bL_where 0 = .ok (.aload_n 3, 1) := by decide +kernel
theorem dL_where_1 : decode bL_where 1 = .ok (.iconst 0, 1) := by decide +kernel
theorem dL_where_2 : decode bL_where 2 = .ok (.aload_n 0, 1) := by decide +kernel
theorem dL_where_3 : decode bL_where 3 = .ok (.iload_n 1, 1) := by decide +kernel
theorem dL_where_4 : decode bL_where 4 = .ok (.iload_n 2, 1) := by decide +kernel
theorem dL_where_5 : decode bL_where 5 = .ok (.invokevirtual 28, 3) := by decide +kernel
theorem dL_where_8 : decode bL_where 8 = .ok (.i2l, 1) := by decide +kernel
theorem dL_where_9 : decode bL_where 9 = .ok (.lastore, 1) := by decide +kernel
theorem dL_where_10 : decode bL_where 10 = .ok (.goto 11, 3) := by decide +kernel
theorem dL_where_13 : decode bL_where 13 = .ok (.astore 4, 2) := by decide +kernel
theorem dL_where_15 : decode bL_where 15 = .ok (.iconst 1, 1) := by decide +kernel
theorem dL_where_16 : decode bL_where 16 = .ok (.ireturn, 1) := by decide +kernel
theorem dL_where_17 : decode bL_where 17 = .ok (.astore 4, 2) := by decide +kernel
theorem dL_where_19 : decode bL_where 19 = .ok (.iconst 2, 1) := by decide +kernel
theorem dL_where_20 : decode bL_where 20 = .ok (.ireturn, 1) := by decide +kernel
theorem dL_where_21 : decode bL_where 21 = .ok (.iconst 0, 1) := by decide +kernel
theorem dL_where_22 : decode bL_where 22 = .ok (.ireturn, 1) := by decide +kernel
theorem dL_fails_0 : decode bL_fails 0 = .ok (.aload_n 3, 1) := by decide +kernel
theorem dL_fails_1 : decode bL_fails 1 = .ok (.iconst 0, 1) := by decide +kernel
theorem dL_fails_2 : decode bL_fails 2 = .ok (.aload_n 0, 1) := by decide +kernel
theorem dL_fails_3 : decode bL_fails 3 = .ok (.iload_n 1, 1) := by decide +kernel
theorem dL_fails_4 : decode bL_fails 4 = .ok (.iload_n 2, 1) := by decide +kernel
theorem dL_fails_5 : decode bL_fails 5 = .ok (.invokevirtual 31, 3) := by decide +kernel
theorem dL_fails_8 : decode bL_fails 8 = .ok (.i2l, 1) := by decide +kernel
theorem dL_fails_9 : decode bL_fails 9 = .ok (.lastore, 1) := by decide +kernel
theorem dL_fails_10 : decode bL_fails 10 = .ok (.goto 15, 3) := by decide +kernel
theorem dL_fails_13 : decode bL_fails 13 = .ok (.astore 4, 2) := by decide +kernel
theorem dL_fails_15 : decode bL_fails 15 = .ok (.iconst 1, 1) := by decide +kernel
theorem dL_fails_16 : decode bL_fails 16 = .ok (.ireturn, 1) := by decide +kernel
theorem dL_fails_17 : decode bL_fails 17 = .ok (.astore 4, 2) := by decide +kernel
theorem dL_fails_19 : decode bL_fails 19 = .ok (.iconst 2, 1) := by decide +kernel
theorem dL_fails_20 : decode bL_fails 20 = .ok (.ireturn, 1) := by decide +kernel
theorem dL_fails_21 : decode bL_fails 21 = .ok (.astore 4, 2) := by decide +kernel
theorem dL_fails_23 : decode bL_fails 23 = .ok (.iconst 3, 1) := by decide +kernel
theorem dL_fails_24 : decode bL_fails 24 = .ok (.ireturn, 1) := by decide +kernel
theorem dL_fails_25 : decode bL_fails 25 = .ok (.iconst 0, 1) := by decide +kernel
theorem dL_fails_26 : decode bL_fails 26 = .ok (.ireturn, 1) := by decide +kernel
theorem dL_row_0 : decode bL_row 0 = .ok (.aload_n 3, 1) := by decide +kernel
theorem dL_row_1 : decode bL_row 1 = .ok (.iconst 0, 1) := by decide +kernel
theorem dL_row_2 : decode bL_row 2 = .ok (.aload_n 0, 1) := by decide +kernel
theorem dL_row_3 : decode bL_row 3 = .ok (.iload_n 1, 1) := by decide +kernel
theorem dL_row_4 : decode bL_row 4 = .ok (.iload_n 2, 1) := by decide +kernel
theorem dL_row_5 : decode bL_row 5 = .ok (.invokevirtual 34, 3) := by decide +kernel
theorem dL_row_8 : decode bL_row 8 = .ok (.i2l, 1) := by decide +kernel
theorem dL_row_9 : decode bL_row 9 = .ok (.lastore, 1) := by decide +kernel
theorem dL_row_10 : decode bL_row 10 = .ok (.goto 11, 3) := by decide +kernel
theorem dL_row_13 : decode bL_row 13 = .ok (.astore 4, 2) := by decide +kernel
theorem dL_row_15 : decode bL_row 15 = .ok (.iconst 1, 1) := by decide +kernel
theorem dL_row_16 : decode bL_row 16 = .ok (.ireturn, 1) := by decide +kernel
theorem dL_row_17 : decode bL_row 17 = .ok (.astore 4, 2) := by decide +kernel
theorem dL_row_19 : decode bL_row 19 = .ok (.iconst 2, 1) := by decide +kernel
theorem dL_row_20 : decode bL_row 20 = .ok (.ireturn, 1) := by decide +kernel
theorem dL_row_21 : decode bL_row 21 = .ok (.iconst 0, 1) := by decide +kernel
theorem dL_row_22 : decode bL_row 22 = .ok (.ireturn, 1) := by decide +kernel
theorem dL_look_0 : decode bL_look 0 = .ok (.aload_n 3, 1) := by decide +kernel
theorem dL_look_1 : decode bL_look 1 = .ok (.iconst 0, 1) := by decide +kernel
theorem dL_look_2 : decode bL_look 2 = .ok (.aload_n 0, 1) := by decide +kernel
theorem dL_look_3 : decode bL_look 3 = .ok (.iload_n 1, 1) := by decide +kernel
theorem dL_look_4 : decode bL_look 4 = .ok (.iload_n 2, 1) := by decide +kernel
theorem dL_look_5 : decode bL_look 5 = .ok (.invokevirtual 37, 3) := by decide +kernel
theorem dL_look_8 : decode bL_look 8 = .ok (.i2l, 1) := by decide +kernel
theorem dL_look_9 : decode bL_look 9 = .ok (.lastore, 1) := by decide +kernel
theorem dL_look_10 : decode bL_look 10 = .ok (.goto 7, 3) := by decide +kernel
theorem dL_look_13 : decode bL_look 13 = .ok (.astore 4, 2) := by decide +kernel
theorem dL_look_15 : decode bL_look 15 = .ok (.iconst 1, 1) := by decide +kernel
theorem dL_look_16 : decode bL_look 16 = .ok (.ireturn, 1) := by decide +kernel
theorem dL_look_17 : decode bL_look 17 = .ok (.iconst 0, 1) := by decide +kernel
theorem dL_look_18 : decode bL_look 18 = .ok (.ireturn, 1) := by decide +kernel
theorem dL_law_0 : decode code 0 = .ok (.new 8, 3) := by decide +kernel
theorem dL_law_3 : decode code 3 = .ok (.dup, 1) := by decide +kernel
theorem dL_law_4 : decode code 4 = .ok (.aload_n 0, 1) := by decide +kernel
theorem dL_law_5 : decode code 5 = .ok (.iconst 0, 1) := by decide +kernel
theorem dL_law_6 : decode code 6 = .ok (.invokestatic 40, 3) := by decide +kernel
theorem dL_law_9 : decode code 9 = .ok (.aload_n 0, 1) := by decide +kernel
theorem dL_law_10 : decode code 10 = .ok (.iconst 1, 1) := by decide +kernel
theorem dL_law_11 : decode code 11 = .ok (.invokestatic 40, 3) := by decide +kernel
theorem dL_law_14 : decode code 14 = .ok (.invokespecial 46, 3) := by decide +kernel
theorem dL_law_17 : decode code 17 = .ok (.astore_n 1, 1) := by decide +kernel
theorem dL_law_18 : decode code 18 = .ok (.new 49, 3) := by decide +kernel
theorem dL_law_21 : decode code 21 = .ok (.dup, 1) := by decide +kernel
theorem dL_law_22 : decode code 22 = .ok (.aload_n 0, 1) := by decide +kernel
theorem dL_law_23 : decode code 23 = .ok (.iconst 0, 1) := by decide +kernel
theorem dL_law_24 : decode code 24 = .ok (.invokestatic 40, 3) := by decide +kernel
theorem dL_law_27 : decode code 27 = .ok (.aload_n 0, 1) := by decide +kernel
theorem dL_law_28 : decode code 28 = .ok (.iconst 1, 1) := by decide +kernel
theorem dL_law_29 : decode code 29 = .ok (.invokestatic 40, 3) := by decide +kernel
theorem dL_law_32 : decode code 32 = .ok (.invokespecial 51, 3) := by decide +kernel
theorem dL_law_35 : decode code 35 = .ok (.astore_n 2, 1) := by decide +kernel
theorem dL_law_36 : decode code 36 = .ok (.iconst 1, 1) := by decide +kernel
theorem dL_law_37 : decode code 37 = .ok (.newarray .long, 2) := by decide +kernel
theorem dL_law_39 : decode code 39 = .ok (.astore_n 3, 1) := by decide +kernel
theorem dL_law_40 : decode code 40 = .ok (.iconst 2, 1) := by decide +kernel
theorem dL_law_41 : decode code 41 = .ok (.istore 4, 2) := by decide +kernel
theorem dL_law_43 : decode code 43 = .ok (.iload 4, 2) := by decide +kernel
theorem dL_law_45 : decode code 45 = .ok (.aload_n 0, 1) := by decide +kernel
theorem dL_law_46 : decode code 46 = .ok (.arraylength, 1) := by decide +kernel
theorem dL_law_47 : decode code 47 = .ok (.iconst 4, 1) := by decide +kernel
theorem dL_law_48 : decode code 48 = .ok (.isub, 1) := by decide +kernel
theorem dL_law_49 : decode code 49 = .ok (.if_icmp .gt 644, 3) := by decide +kernel
theorem dL_law_52 : decode code 52 = .ok (.aload_n 0, 1) := by decide +kernel
theorem dL_law_53 : decode code 53 = .ok (.iload 4, 2) := by decide +kernel
theorem dL_law_55 : decode code 55 = .ok (.iaload, 1) := by decide +kernel
theorem dL_law_56 : decode code 56 = .ok (.bipush 15, 2) := by decide +kernel
theorem dL_law_58 : decode code 58 = .ok (.iand, 1) := by decide +kernel
theorem dL_law_59 : decode code 59 = .ok (.tableswitch 628 0 10 #[57, 125, 212, 237, 250, 318, 386, 454, 467, 535, 603], 57) := by decide +kernel
theorem dL_law_116 : decode code 116 = .ok (.aload_n 1, 1) := by decide +kernel
theorem dL_law_117 : decode code 117 = .ok (.aload_n 0, 1) := by decide +kernel
theorem dL_law_118 : decode code 118 = .ok (.iload 4, 2) := by decide +kernel
theorem dL_law_120 : decode code 120 = .ok (.iconst 1, 1) := by decide +kernel
theorem dL_law_121 : decode code 121 = .ok (.iadd, 1) := by decide +kernel
theorem dL_law_122 : decode code 122 = .ok (.iaload, 1) := by decide +kernel
theorem dL_law_123 : decode code 123 = .ok (.aload_n 0, 1) := by decide +kernel
theorem dL_law_124 : decode code 124 = .ok (.iload 4, 2) := by decide +kernel
theorem dL_law_126 : decode code 126 = .ok (.iconst 2, 1) := by decide +kernel
theorem dL_law_127 : decode code 127 = .ok (.iadd, 1) := by decide +kernel
theorem dL_law_128 : decode code 128 = .ok (.iaload, 1) := by decide +kernel
theorem dL_law_129 : decode code 129 = .ok (.aload_n 3, 1) := by decide +kernel
theorem dL_law_130 : decode code 130 = .ok (.invokestatic 52, 3) := by decide +kernel
theorem dL_law_133 : decode code 133 = .ok (.istore 5, 2) := by decide +kernel
theorem dL_law_135 : decode code 135 = .ok (.aload_n 2, 1) := by decide +kernel
theorem dL_law_136 : decode code 136 = .ok (.aload_n 0, 1) := by decide +kernel
theorem dL_law_137 : decode code 137 = .ok (.iload 4, 2) := by decide +kernel
theorem dL_law_139 : decode code 139 = .ok (.iconst 1, 1) := by decide +kernel
theorem dL_law_140 : decode code 140 = .ok (.iadd, 1) := by decide +kernel
theorem dL_law_141 : decode code 141 = .ok (.iaload, 1) := by decide +kernel
theorem dL_law_142 : decode code 142 = .ok (.aload_n 0, 1) := by decide +kernel
theorem dL_law_143 : decode code 143 = .ok (.iload 4, 2) := by decide +kernel
theorem dL_law_145 : decode code 145 = .ok (.iconst 2, 1) := by decide +kernel
theorem dL_law_146 : decode code 146 = .ok (.iadd, 1) := by decide +kernel
theorem dL_law_147 : decode code 147 = .ok (.iaload, 1) := by decide +kernel
theorem dL_law_148 : decode code 148 = .ok (.invokevirtual 55, 3) := by decide +kernel
theorem dL_law_151 : decode code 151 = .ok (.istore 6, 2) := by decide +kernel
theorem dL_law_153 : decode code 153 = .ok (.aload_n 2, 1) := by decide +kernel
theorem dL_law_154 : decode code 154 = .ok (.invokevirtual 56, 3) := by decide +kernel
theorem dL_law_157 : decode code 157 = .ok (.iload 5, 2) := by decide +kernel
theorem dL_law_159 : decode code 159 = .ok (.if_icmp .eq 5, 3) := by decide +kernel
theorem dL_law_162 : decode code 162 = .ok (.iconst 0, 1) := by decide +kernel
theorem dL_law_163 : decode code 163 = .ok (.ireturn, 1) := by decide +kernel
theorem dL_law_164 : decode code 164 = .ok (.iload 5, 2) := by decide +kernel
theorem dL_law_166 : decode code 166 = .ok (.ifCond .ne 15, 3) := by decide +kernel
theorem dL_law_169 : decode code 169 = .ok (.aload_n 3, 1) := by decide +kernel
theorem dL_law_170 : decode code 170 = .ok (.iconst 0, 1) := by decide +kernel
theorem dL_law_171 : decode code 171 = .ok (.laload, 1) := by decide +kernel
theorem dL_law_172 : decode code 172 = .ok (.iload 6, 2) := by decide +kernel
theorem dL_law_174 : decode code 174 = .ok (.i2l, 1) := by decide +kernel
theorem dL_law_175 : decode code 175 = .ok (.lcmp, 1) := by decide +kernel
theorem dL_law_176 : decode code 176 = .ok (.ifCond .eq 5, 3) := by decide +kernel
theorem dL_law_179 : decode code 179 = .ok (.iconst 0, 1) := by decide +kernel
theorem dL_law_180 : decode code 180 = .ok (.ireturn, 1) := by decide +kernel
theorem dL_law_181 : decode code 181 = .ok (.goto 506, 3) := by decide +kernel
theorem dL_law_184 : decode code 184 = .ok (.aload_n 1, 1) := by decide +kernel
theorem dL_law_185 : decode code 185 = .ok (.aload_n 0, 1) := by decide +kernel
theorem dL_law_186 : decode code 186 = .ok (.iload 4, 2) := by decide +kernel
theorem dL_law_188 : decode code 188 = .ok (.iconst 1, 1) := by decide +kernel
theorem dL_law_189 : decode code 189 = .ok (.iadd, 1) := by decide +kernel
theorem dL_law_190 : decode code 190 = .ok (.iaload, 1) := by decide +kernel
theorem dL_law_191 : decode code 191 = .ok (.aload_n 0, 1) := by decide +kernel
theorem dL_law_192 : decode code 192 = .ok (.iload 4, 2) := by decide +kernel
theorem dL_law_194 : decode code 194 = .ok (.iconst 2, 1) := by decide +kernel
theorem dL_law_195 : decode code 195 = .ok (.iadd, 1) := by decide +kernel
theorem dL_law_196 : decode code 196 = .ok (.iaload, 1) := by decide +kernel
theorem dL_law_197 : decode code 197 = .ok (.aload_n 0, 1) := by decide +kernel
theorem dL_law_198 : decode code 198 = .ok (.iload 4, 2) := by decide +kernel
theorem dL_law_200 : decode code 200 = .ok (.iconst 3, 1) := by decide +kernel
theorem dL_law_201 : decode code 201 = .ok (.iadd, 1) := by decide +kernel
theorem dL_law_202 : decode code 202 = .ok (.iaload, 1) := by decide +kernel
theorem dL_law_203 : decode code 203 = .ok (.aload_n 3, 1) := by decide +kernel
theorem dL_law_204 : decode code 204 = .ok (.invokestatic 60, 3) := by decide +kernel
theorem dL_law_207 : decode code 207 = .ok (.istore 5, 2) := by decide +kernel
theorem dL_law_209 : decode code 209 = .ok (.aload_n 2, 1) := by decide +kernel
theorem dL_law_210 : decode code 210 = .ok (.aload_n 0, 1) := by decide +kernel
theorem dL_law_211 : decode code 211 = .ok (.iload 4, 2) := by decide +kernel
theorem dL_law_213 : decode code 213 = .ok (.iconst 1, 1) := by decide +kernel
theorem dL_law_214 : decode code 214 = .ok (.iadd, 1) := by decide +kernel
theorem dL_law_215 : decode code 215 = .ok (.iaload, 1) := by decide +kernel
theorem dL_law_216 : decode code 216 = .ok (.aload_n 0, 1) := by decide +kernel
theorem dL_law_217 : decode code 217 = .ok (.iload 4, 2) := by decide +kernel
theorem dL_law_219 : decode code 219 = .ok (.iconst 2, 1) := by decide +kernel
theorem dL_law_220 : decode code 220 = .ok (.iadd, 1) := by decide +kernel
theorem dL_law_221 : decode code 221 = .ok (.iaload, 1) := by decide +kernel
theorem dL_law_222 : decode code 222 = .ok (.aload_n 0, 1) := by decide +kernel
theorem dL_law_223 : decode code 223 = .ok (.iload 4, 2) := by decide +kernel
theorem dL_law_225 : decode code 225 = .ok (.iconst 3, 1) := by decide +kernel
theorem dL_law_226 : decode code 226 = .ok (.iadd, 1) := by decide +kernel
theorem dL_law_227 : decode code 227 = .ok (.iaload, 1) := by decide +kernel
theorem dL_law_228 : decode code 228 = .ok (.invokevirtual 63, 3) := by decide +kernel
theorem dL_law_231 : decode code 231 = .ok (.istore 6, 2) := by decide +kernel
theorem dL_law_233 : decode code 233 = .ok (.aload_n 2, 1) := by decide +kernel
theorem dL_law_234 : decode code 234 = .ok (.invokevirtual 56, 3) := by decide +kernel
theorem dL_law_237 : decode code 237 = .ok (.iload 5, 2) := by decide +kernel
theorem dL_law_239 : decode code 239 = .ok (.if_icmp .eq 5, 3) := by decide +kernel
theorem dL_law_242 : decode code 242 = .ok (.iconst 0, 1) := by decide +kernel
theorem dL_law_243 : decode code 243 = .ok (.ireturn, 1) := by decide +kernel
theorem dL_law_244 : decode code 244 = .ok (.iload 5, 2) := by decide +kernel
theorem dL_law_246 : decode code 246 = .ok (.ifCond .ne 22, 3) := by decide +kernel
theorem dL_law_249 : decode code 249 = .ok (.aload_n 3, 1) := by decide +kernel
theorem dL_law_250 : decode code 250 = .ok (.iconst 0, 1) := by decide +kernel
theorem dL_law_251 : decode code 251 = .ok (.laload, 1) := by decide +kernel
theorem dL_law_252 : decode code 252 = .ok (.iload 6, 2) := by decide +kernel
theorem dL_law_254 : decode code 254 = .ok (.ifCond .eq 7, 3) := by decide +kernel
theorem dL_law_257 : decode code 257 = .ok (.lconst 1, 1) := by decide +kernel
theorem dL_law_258 : decode code 258 = .ok (.goto 4, 3) := by decide +kernel
theorem dL_law_261 : decode code 261 = .ok (.lconst 0, 1) := by decide +kernel
theorem dL_law_262 : decode code 262 = .ok (.lcmp, 1) := by decide +kernel
theorem dL_law_263 : decode code 263 = .ok (.ifCond .eq 5, 3) := by decide +kernel
theorem dL_law_266 : decode code 266 = .ok (.iconst 0, 1) := by decide +kernel
theorem dL_law_267 : decode code 267 = .ok (.ireturn, 1) := by decide +kernel
theorem dL_law_268 : decode code 268 = .ok (.goto 419, 3) := by decide +kernel
theorem dL_law_271 : decode code 271 = .ok (.aload_n 1, 1) := by decide +kernel
theorem dL_law_272 : decode code 272 = .ok (.aload_n 0, 1) := by decide +kernel
theorem dL_law_273 : decode code 273 = .ok (.iload 4, 2) := by decide +kernel
theorem dL_law_275 : decode code 275 = .ok (.iconst 1, 1) := by decide +kernel
theorem dL_law_276 : decode code 276 = .ok (.iadd, 1) := by decide +kernel
theorem dL_law_277 : decode code 277 = .ok (.iaload, 1) := by decide +kernel
theorem dL_law_278 : decode code 278 = .ok (.invokevirtual 64, 3) := by decide +kernel
theorem dL_law_281 : decode code 281 = .ok (.aload_n 2, 1) := by decide +kernel
theorem dL_law_282 : decode code 282 = .ok (.aload_n 0, 1) := by decide +kernel
theorem dL_law_283 : decode code 283 = .ok (.iload 4, 2) := by decide +kernel
theorem dL_law_285 : decode code 285 = .ok (.iconst 1, 1) := by decide +kernel
theorem dL_law_286 : decode code 286 = .ok (.iadd, 1) := by decide +kernel
theorem dL_law_287 : decode code 287 = .ok (.iaload, 1) := by decide +kernel
theorem dL_law_288 : decode code 288 = .ok (.invokevirtual 68, 3) := by decide +kernel
theorem dL_law_291 : decode code 291 = .ok (.if_icmp .eq 396, 3) := by decide +kernel
theorem dL_law_294 : decode code 294 = .ok (.iconst 0, 1) := by decide +kernel
theorem dL_law_295 : decode code 295 = .ok (.ireturn, 1) := by decide +kernel
theorem dL_law_296 : decode code 296 = .ok (.aload_n 1, 1) := by decide +kernel
theorem dL_law_297 : decode code 297 = .ok (.invokevirtual 69, 3) := by decide +kernel
theorem dL_law_300 : decode code 300 = .ok (.aload_n 2, 1) := by decide +kernel
theorem dL_law_301 : decode code 301 = .ok (.invokevirtual 72, 3) := by decide +kernel
theorem dL_law_304 : decode code 304 = .ok (.if_icmp .eq 383, 3) := by decide +kernel
theorem dL_law_307 : decode code 307 = .ok (.iconst 0, 1) := by decide +kernel
theorem dL_law_308 : decode code 308 = .ok (.ireturn, 1) := by decide +kernel
theorem dL_law_309 : decode code 309 = .ok (.aload_n 1, 1) := by decide +kernel
theorem dL_law_310 : decode code 310 = .ok (.aload_n 0, 1) := by decide +kernel
theorem dL_law_311 : decode code 311 = .ok (.iload 4, 2) := by decide +kernel
theorem dL_law_313 : decode code 313 = .ok (.iconst 1, 1) := by decide +kernel
theorem dL_law_314 : decode code 314 = .ok (.iadd, 1) := by decide +kernel
theorem dL_law_315 : decode code 315 = .ok (.iaload, 1) := by decide +kernel
theorem dL_law_316 : decode code 316 = .ok (.aload_n 0, 1) := by decide +kernel
theorem dL_law_317 : decode code 317 = .ok (.iload 4, 2) := by decide +kernel
theorem dL_law_319 : decode code 319 = .ok (.iconst 2, 1) := by decide +kernel
theorem dL_law_320 : decode code 320 = .ok (.iadd, 1) := by decide +kernel
theorem dL_law_321 : decode code 321 = .ok (.iaload, 1) := by decide +kernel
theorem dL_law_322 : decode code 322 = .ok (.aload_n 3, 1) := by decide +kernel
theorem dL_law_323 : decode code 323 = .ok (.invokestatic 73, 3) := by decide +kernel
theorem dL_law_326 : decode code 326 = .ok (.istore 5, 2) := by decide +kernel
theorem dL_law_328 : decode code 328 = .ok (.aload_n 2, 1) := by decide +kernel
theorem dL_law_329 : decode code 329 = .ok (.aload_n 0, 1) := by decide +kernel
theorem dL_law_330 : decode code 330 = .ok (.iload 4, 2) := by decide +kernel
theorem dL_law_332 : decode code 332 = .ok (.iconst 1, 1) := by decide +kernel
theorem dL_law_333 : decode code 333 = .ok (.iadd, 1) := by decide +kernel
theorem dL_law_334 : decode code 334 = .ok (.iaload, 1) := by decide +kernel
theorem dL_law_335 : decode code 335 = .ok (.aload_n 0, 1) := by decide +kernel
theorem dL_law_336 : decode code 336 = .ok (.iload 4, 2) := by decide +kernel
theorem dL_law_338 : decode code 338 = .ok (.iconst 2, 1) := by decide +kernel
theorem dL_law_339 : decode code 339 = .ok (.iadd, 1) := by decide +kernel
theorem dL_law_340 : decode code 340 = .ok (.iaload, 1) := by decide +kernel
theorem dL_law_341 : decode code 341 = .ok (.invokevirtual 75, 3) := by decide +kernel
theorem dL_law_344 : decode code 344 = .ok (.istore 6, 2) := by decide +kernel
theorem dL_law_346 : decode code 346 = .ok (.aload_n 2, 1) := by decide +kernel
theorem dL_law_347 : decode code 347 = .ok (.invokevirtual 56, 3) := by decide +kernel
theorem dL_law_350 : decode code 350 = .ok (.iload 5, 2) := by decide +kernel
theorem dL_law_352 : decode code 352 = .ok (.if_icmp .eq 5, 3) := by decide +kernel
theorem dL_law_355 : decode code 355 = .ok (.iconst 0, 1) := by decide +kernel
theorem dL_law_356 : decode code 356 = .ok (.ireturn, 1) := by decide +kernel
theorem dL_law_357 : decode code 357 = .ok (.iload 5, 2) := by decide +kernel
theorem dL_law_359 : decode code 359 = .ok (.ifCond .ne 15, 3) := by decide +kernel
theorem dL_law_362 : decode code 362 = .ok (.aload_n 3, 1) := by decide +kernel
theorem dL_law_363 : decode code 363 = .ok (.iconst 0, 1) := by decide +kernel
theorem dL_law_364 : decode code 364 = .ok (.laload, 1) := by decide +kernel
theorem dL_law_365 : decode code 365 = .ok (.iload 6, 2) := by decide +kernel
theorem dL_law_367 : decode code 367 = .ok (.i2l, 1) := by decide +kernel
theorem dL_law_368 : decode code 368 = .ok (.lcmp, 1) := by decide +kernel
theorem dL_law_369 : decode code 369 = .ok (.ifCond .eq 5, 3) := by decide +kernel
theorem dL_law_372 : decode code 372 = .ok (.iconst 0, 1) := by decide +kernel
theorem dL_law_373 : decode code 373 = .ok (.ireturn, 1) := by decide +kernel
theorem dL_law_374 : decode code 374 = .ok (.goto 313, 3) := by decide +kernel
theorem dL_law_377 : decode code 377 = .ok (.aload_n 1, 1) := by decide +kernel
theorem dL_law_378 : decode code 378 = .ok (.aload_n 0, 1) := by decide +kernel
theorem dL_law_379 : decode code 379 = .ok (.iload 4, 2) := by decide +kernel
theorem dL_law_381 : decode code 381 = .ok (.iconst 1, 1) := by decide +kernel
theorem dL_law_382 : decode code 382 = .ok (.iadd, 1) := by decide +kernel
theorem dL_law_383 : decode code 383 = .ok (.iaload, 1) := by decide +kernel
theorem dL_law_384 : decode code 384 = .ok (.aload_n 0, 1) := by decide +kernel
theorem dL_law_385 : decode code 385 = .ok (.iload 4, 2) := by decide +kernel
theorem dL_law_387 : decode code 387 = .ok (.iconst 2, 1) := by decide +kernel
theorem dL_law_388 : decode code 388 = .ok (.iadd, 1) := by decide +kernel
theorem dL_law_389 : decode code 389 = .ok (.iaload, 1) := by decide +kernel
theorem dL_law_390 : decode code 390 = .ok (.aload_n 3, 1) := by decide +kernel
theorem dL_law_391 : decode code 391 = .ok (.invokestatic 76, 3) := by decide +kernel
theorem dL_law_394 : decode code 394 = .ok (.istore 5, 2) := by decide +kernel
theorem dL_law_396 : decode code 396 = .ok (.aload_n 2, 1) := by decide +kernel
theorem dL_law_397 : decode code 397 = .ok (.aload_n 0, 1) := by decide +kernel
theorem dL_law_398 : decode code 398 = .ok (.iload 4, 2) := by decide +kernel
theorem dL_law_400 : decode code 400 = .ok (.iconst 1, 1) := by decide +kernel
theorem dL_law_401 : decode code 401 = .ok (.iadd, 1) := by decide +kernel
theorem dL_law_402 : decode code 402 = .ok (.iaload, 1) := by decide +kernel
theorem dL_law_403 : decode code 403 = .ok (.aload_n 0, 1) := by decide +kernel
theorem dL_law_404 : decode code 404 = .ok (.iload 4, 2) := by decide +kernel
theorem dL_law_406 : decode code 406 = .ok (.iconst 2, 1) := by decide +kernel
theorem dL_law_407 : decode code 407 = .ok (.iadd, 1) := by decide +kernel
theorem dL_law_408 : decode code 408 = .ok (.iaload, 1) := by decide +kernel
theorem dL_law_409 : decode code 409 = .ok (.invokevirtual 78, 3) := by decide +kernel
theorem dL_law_412 : decode code 412 = .ok (.istore 6, 2) := by decide +kernel
theorem dL_law_414 : decode code 414 = .ok (.aload_n 2, 1) := by decide +kernel
theorem dL_law_415 : decode code 415 = .ok (.invokevirtual 56, 3) := by decide +kernel
theorem dL_law_418 : decode code 418 = .ok (.iload 5, 2) := by decide +kernel
theorem dL_law_420 : decode code 420 = .ok (.if_icmp .eq 5, 3) := by decide +kernel
theorem dL_law_423 : decode code 423 = .ok (.iconst 0, 1) := by decide +kernel
theorem dL_law_424 : decode code 424 = .ok (.ireturn, 1) := by decide +kernel
theorem dL_law_425 : decode code 425 = .ok (.iload 5, 2) := by decide +kernel
theorem dL_law_427 : decode code 427 = .ok (.ifCond .ne 15, 3) := by decide +kernel
theorem dL_law_430 : decode code 430 = .ok (.aload_n 3, 1) := by decide +kernel
theorem dL_law_431 : decode code 431 = .ok (.iconst 0, 1) := by decide +kernel
theorem dL_law_432 : decode code 432 = .ok (.laload, 1) := by decide +kernel
theorem dL_law_433 : decode code 433 = .ok (.iload 6, 2) := by decide +kernel
theorem dL_law_435 : decode code 435 = .ok (.i2l, 1) := by decide +kernel
theorem dL_law_436 : decode code 436 = .ok (.lcmp, 1) := by decide +kernel
theorem dL_law_437 : decode code 437 = .ok (.ifCond .eq 5, 3) := by decide +kernel
theorem dL_law_440 : decode code 440 = .ok (.iconst 0, 1) := by decide +kernel
theorem dL_law_441 : decode code 441 = .ok (.ireturn, 1) := by decide +kernel
theorem dL_law_442 : decode code 442 = .ok (.goto 245, 3) := by decide +kernel
theorem dL_law_445 : decode code 445 = .ok (.aload_n 1, 1) := by decide +kernel
theorem dL_law_446 : decode code 446 = .ok (.aload_n 0, 1) := by decide +kernel
theorem dL_law_447 : decode code 447 = .ok (.iload 4, 2) := by decide +kernel
theorem dL_law_449 : decode code 449 = .ok (.iconst 1, 1) := by decide +kernel
theorem dL_law_450 : decode code 450 = .ok (.iadd, 1) := by decide +kernel
theorem dL_law_451 : decode code 451 = .ok (.iaload, 1) := by decide +kernel
theorem dL_law_452 : decode code 452 = .ok (.aload_n 0, 1) := by decide +kernel
theorem dL_law_453 : decode code 453 = .ok (.iload 4, 2) := by decide +kernel
theorem dL_law_455 : decode code 455 = .ok (.iconst 2, 1) := by decide +kernel
theorem dL_law_456 : decode code 456 = .ok (.iadd, 1) := by decide +kernel
theorem dL_law_457 : decode code 457 = .ok (.iaload, 1) := by decide +kernel
theorem dL_law_458 : decode code 458 = .ok (.aload_n 3, 1) := by decide +kernel
theorem dL_law_459 : decode code 459 = .ok (.invokestatic 79, 3) := by decide +kernel
theorem dL_law_462 : decode code 462 = .ok (.istore 5, 2) := by decide +kernel
theorem dL_law_464 : decode code 464 = .ok (.aload_n 2, 1) := by decide +kernel
theorem dL_law_465 : decode code 465 = .ok (.aload_n 0, 1) := by decide +kernel
theorem dL_law_466 : decode code 466 = .ok (.iload 4, 2) := by decide +kernel
theorem dL_law_468 : decode code 468 = .ok (.iconst 1, 1) := by decide +kernel
theorem dL_law_469 : decode code 469 = .ok (.iadd, 1) := by decide +kernel
theorem dL_law_470 : decode code 470 = .ok (.iaload, 1) := by decide +kernel
theorem dL_law_471 : decode code 471 = .ok (.aload_n 0, 1) := by decide +kernel
theorem dL_law_472 : decode code 472 = .ok (.iload 4, 2) := by decide +kernel
theorem dL_law_474 : decode code 474 = .ok (.iconst 2, 1) := by decide +kernel
theorem dL_law_475 : decode code 475 = .ok (.iadd, 1) := by decide +kernel
theorem dL_law_476 : decode code 476 = .ok (.iaload, 1) := by decide +kernel
theorem dL_law_477 : decode code 477 = .ok (.invokevirtual 81, 3) := by decide +kernel
theorem dL_law_480 : decode code 480 = .ok (.istore 6, 2) := by decide +kernel
theorem dL_law_482 : decode code 482 = .ok (.aload_n 2, 1) := by decide +kernel
theorem dL_law_483 : decode code 483 = .ok (.invokevirtual 56, 3) := by decide +kernel
theorem dL_law_486 : decode code 486 = .ok (.iload 5, 2) := by decide +kernel
theorem dL_law_488 : decode code 488 = .ok (.if_icmp .eq 5, 3) := by decide +kernel
theorem dL_law_491 : decode code 491 = .ok (.iconst 0, 1) := by decide +kernel
theorem dL_law_492 : decode code 492 = .ok (.ireturn, 1) := by decide +kernel
theorem dL_law_493 : decode code 493 = .ok (.iload 5, 2) := by decide +kernel
theorem dL_law_495 : decode code 495 = .ok (.ifCond .ne 15, 3) := by decide +kernel
theorem dL_law_498 : decode code 498 = .ok (.aload_n 3, 1) := by decide +kernel
theorem dL_law_499 : decode code 499 = .ok (.iconst 0, 1) := by decide +kernel
theorem dL_law_500 : decode code 500 = .ok (.laload, 1) := by decide +kernel
theorem dL_law_501 : decode code 501 = .ok (.iload 6, 2) := by decide +kernel
theorem dL_law_503 : decode code 503 = .ok (.i2l, 1) := by decide +kernel
theorem dL_law_504 : decode code 504 = .ok (.lcmp, 1) := by decide +kernel
theorem dL_law_505 : decode code 505 = .ok (.ifCond .eq 5, 3) := by decide +kernel
theorem dL_law_508 : decode code 508 = .ok (.iconst 0, 1) := by decide +kernel
theorem dL_law_509 : decode code 509 = .ok (.ireturn, 1) := by decide +kernel
theorem dL_law_510 : decode code 510 = .ok (.goto 177, 3) := by decide +kernel
theorem dL_law_513 : decode code 513 = .ok (.aload_n 1, 1) := by decide +kernel
theorem dL_law_514 : decode code 514 = .ok (.invokevirtual 82, 3) := by decide +kernel
theorem dL_law_517 : decode code 517 = .ok (.aload_n 2, 1) := by decide +kernel
theorem dL_law_518 : decode code 518 = .ok (.invokevirtual 85, 3) := by decide +kernel
theorem dL_law_521 : decode code 521 = .ok (.if_icmp .eq 166, 3) := by decide +kernel
theorem dL_law_524 : decode code 524 = .ok (.iconst 0, 1) := by decide +kernel
theorem dL_law_525 : decode code 525 = .ok (.ireturn, 1) := by decide +kernel
theorem dL_law_526 : decode code 526 = .ok (.aload_n 1, 1) := by decide +kernel
theorem dL_law_527 : decode code 527 = .ok (.aload_n 0, 1) := by decide +kernel
theorem dL_law_528 : decode code 528 = .ok (.iload 4, 2) := by decide +kernel
theorem dL_law_530 : decode code 530 = .ok (.iconst 1, 1) := by decide +kernel
theorem dL_law_531 : decode code 531 = .ok (.iadd, 1) := by decide +kernel
theorem dL_law_532 : decode code 532 = .ok (.iaload, 1) := by decide +kernel
theorem dL_law_533 : decode code 533 = .ok (.aload_n 0, 1) := by decide +kernel
theorem dL_law_534 : decode code 534 = .ok (.iload 4, 2) := by decide +kernel
theorem dL_law_536 : decode code 536 = .ok (.iconst 2, 1) := by decide +kernel
theorem dL_law_537 : decode code 537 = .ok (.iadd, 1) := by decide +kernel
theorem dL_law_538 : decode code 538 = .ok (.iaload, 1) := by decide +kernel
theorem dL_law_539 : decode code 539 = .ok (.aload_n 3, 1) := by decide +kernel
theorem dL_law_540 : decode code 540 = .ok (.invokestatic 86, 3) := by decide +kernel
theorem dL_law_543 : decode code 543 = .ok (.istore 5, 2) := by decide +kernel
theorem dL_law_545 : decode code 545 = .ok (.aload_n 2, 1) := by decide +kernel
theorem dL_law_546 : decode code 546 = .ok (.aload_n 0, 1) := by decide +kernel
theorem dL_law_547 : decode code 547 = .ok (.iload 4, 2) := by decide +kernel
theorem dL_law_549 : decode code 549 = .ok (.iconst 1, 1) := by decide +kernel
theorem dL_law_550 : decode code 550 = .ok (.iadd, 1) := by decide +kernel
theorem dL_law_551 : decode code 551 = .ok (.iaload, 1) := by decide +kernel
theorem dL_law_552 : decode code 552 = .ok (.aload_n 0, 1) := by decide +kernel
theorem dL_law_553 : decode code 553 = .ok (.iload 4, 2) := by decide +kernel
theorem dL_law_555 : decode code 555 = .ok (.iconst 2, 1) := by decide +kernel
theorem dL_law_556 : decode code 556 = .ok (.iadd, 1) := by decide +kernel
theorem dL_law_557 : decode code 557 = .ok (.iaload, 1) := by decide +kernel
theorem dL_law_558 : decode code 558 = .ok (.invokevirtual 88, 3) := by decide +kernel
theorem dL_law_561 : decode code 561 = .ok (.istore 6, 2) := by decide +kernel
theorem dL_law_563 : decode code 563 = .ok (.aload_n 2, 1) := by decide +kernel
theorem dL_law_564 : decode code 564 = .ok (.invokevirtual 56, 3) := by decide +kernel
theorem dL_law_567 : decode code 567 = .ok (.iload 5, 2) := by decide +kernel
theorem dL_law_569 : decode code 569 = .ok (.if_icmp .eq 5, 3) := by decide +kernel
theorem dL_law_572 : decode code 572 = .ok (.iconst 0, 1) := by decide +kernel
theorem dL_law_573 : decode code 573 = .ok (.ireturn, 1) := by decide +kernel
theorem dL_law_574 : decode code 574 = .ok (.iload 5, 2) := by decide +kernel
theorem dL_law_576 : decode code 576 = .ok (.ifCond .ne 15, 3) := by decide +kernel
theorem dL_law_579 : decode code 579 = .ok (.aload_n 3, 1) := by decide +kernel
theorem dL_law_580 : decode code 580 = .ok (.iconst 0, 1) := by decide +kernel
theorem dL_law_581 : decode code 581 = .ok (.laload, 1) := by decide +kernel
theorem dL_law_582 : decode code 582 = .ok (.iload 6, 2) := by decide +kernel
theorem dL_law_584 : decode code 584 = .ok (.i2l, 1) := by decide +kernel
theorem dL_law_585 : decode code 585 = .ok (.lcmp, 1) := by decide +kernel
theorem dL_law_586 : decode code 586 = .ok (.ifCond .eq 5, 3) := by decide +kernel
theorem dL_law_589 : decode code 589 = .ok (.iconst 0, 1) := by decide +kernel
theorem dL_law_590 : decode code 590 = .ok (.ireturn, 1) := by decide +kernel
theorem dL_law_591 : decode code 591 = .ok (.goto 96, 3) := by decide +kernel
theorem dL_law_594 : decode code 594 = .ok (.aload_n 1, 1) := by decide +kernel
theorem dL_law_595 : decode code 595 = .ok (.aload_n 0, 1) := by decide +kernel
theorem dL_law_596 : decode code 596 = .ok (.iload 4, 2) := by decide +kernel
theorem dL_law_598 : decode code 598 = .ok (.iconst 1, 1) := by decide +kernel
theorem dL_law_599 : decode code 599 = .ok (.iadd, 1) := by decide +kernel
theorem dL_law_600 : decode code 600 = .ok (.iaload, 1) := by decide +kernel
theorem dL_law_601 : decode code 601 = .ok (.aload_n 0, 1) := by decide +kernel
theorem dL_law_602 : decode code 602 = .ok (.iload 4, 2) := by decide +kernel
theorem dL_law_604 : decode code 604 = .ok (.iconst 2, 1) := by decide +kernel
theorem dL_law_605 : decode code 605 = .ok (.iadd, 1) := by decide +kernel
theorem dL_law_606 : decode code 606 = .ok (.iaload, 1) := by decide +kernel
theorem dL_law_607 : decode code 607 = .ok (.aload_n 3, 1) := by decide +kernel
theorem dL_law_608 : decode code 608 = .ok (.invokestatic 89, 3) := by decide +kernel
theorem dL_law_611 : decode code 611 = .ok (.istore 5, 2) := by decide +kernel
theorem dL_law_613 : decode code 613 = .ok (.aload_n 2, 1) := by decide +kernel
theorem dL_law_614 : decode code 614 = .ok (.aload_n 0, 1) := by decide +kernel
theorem dL_law_615 : decode code 615 = .ok (.iload 4, 2) := by decide +kernel
theorem dL_law_617 : decode code 617 = .ok (.iconst 1, 1) := by decide +kernel
theorem dL_law_618 : decode code 618 = .ok (.iadd, 1) := by decide +kernel
theorem dL_law_619 : decode code 619 = .ok (.iaload, 1) := by decide +kernel
theorem dL_law_620 : decode code 620 = .ok (.aload_n 0, 1) := by decide +kernel
theorem dL_law_621 : decode code 621 = .ok (.iload 4, 2) := by decide +kernel
theorem dL_law_623 : decode code 623 = .ok (.iconst 2, 1) := by decide +kernel
theorem dL_law_624 : decode code 624 = .ok (.iadd, 1) := by decide +kernel
theorem dL_law_625 : decode code 625 = .ok (.iaload, 1) := by decide +kernel
theorem dL_law_626 : decode code 626 = .ok (.invokevirtual 91, 3) := by decide +kernel
theorem dL_law_629 : decode code 629 = .ok (.istore 6, 2) := by decide +kernel
theorem dL_law_631 : decode code 631 = .ok (.aload_n 2, 1) := by decide +kernel
theorem dL_law_632 : decode code 632 = .ok (.invokevirtual 56, 3) := by decide +kernel
theorem dL_law_635 : decode code 635 = .ok (.iload 5, 2) := by decide +kernel
theorem dL_law_637 : decode code 637 = .ok (.if_icmp .eq 5, 3) := by decide +kernel
theorem dL_law_640 : decode code 640 = .ok (.iconst 0, 1) := by decide +kernel
theorem dL_law_641 : decode code 641 = .ok (.ireturn, 1) := by decide +kernel
theorem dL_law_642 : decode code 642 = .ok (.iload 5, 2) := by decide +kernel
theorem dL_law_644 : decode code 644 = .ok (.ifCond .ne 15, 3) := by decide +kernel
theorem dL_law_647 : decode code 647 = .ok (.aload_n 3, 1) := by decide +kernel
theorem dL_law_648 : decode code 648 = .ok (.iconst 0, 1) := by decide +kernel
theorem dL_law_649 : decode code 649 = .ok (.laload, 1) := by decide +kernel
theorem dL_law_650 : decode code 650 = .ok (.iload 6, 2) := by decide +kernel
theorem dL_law_652 : decode code 652 = .ok (.i2l, 1) := by decide +kernel
theorem dL_law_653 : decode code 653 = .ok (.lcmp, 1) := by decide +kernel
theorem dL_law_654 : decode code 654 = .ok (.ifCond .eq 5, 3) := by decide +kernel
theorem dL_law_657 : decode code 657 = .ok (.iconst 0, 1) := by decide +kernel
theorem dL_law_658 : decode code 658 = .ok (.ireturn, 1) := by decide +kernel
theorem dL_law_659 : decode code 659 = .ok (.goto 28, 3) := by decide +kernel
theorem dL_law_662 : decode code 662 = .ok (.aload_n 1, 1) := by decide +kernel
theorem dL_law_663 : decode code 663 = .ok (.aload_n 0, 1) := by decide +kernel
theorem dL_law_664 : decode code 664 = .ok (.iload 4, 2) := by decide +kernel
theorem dL_law_666 : decode code 666 = .ok (.iconst 1, 1) := by decide +kernel
theorem dL_law_667 : decode code 667 = .ok (.iadd, 1) := by decide +kernel
theorem dL_law_668 : decode code 668 = .ok (.iaload, 1) := by decide +kernel
theorem dL_law_669 : decode code 669 = .ok (.invokevirtual 92, 3) := by decide +kernel
theorem dL_law_672 : decode code 672 = .ok (.aload_n 2, 1) := by decide +kernel
theorem dL_law_673 : decode code 673 = .ok (.aload_n 0, 1) := by decide +kernel
theorem dL_law_674 : decode code 674 = .ok (.iload 4, 2) := by decide +kernel
theorem dL_law_676 : decode code 676 = .ok (.iconst 1, 1) := by decide +kernel
theorem dL_law_677 : decode code 677 = .ok (.iadd, 1) := by decide +kernel
theorem dL_law_678 : decode code 678 = .ok (.iaload, 1) := by decide +kernel
theorem dL_law_679 : decode code 679 = .ok (.invokevirtual 96, 3) := by decide +kernel
theorem dL_law_682 : decode code 682 = .ok (.if_icmp .eq 5, 3) := by decide +kernel
theorem dL_law_685 : decode code 685 = .ok (.iconst 0, 1) := by decide +kernel
theorem dL_law_686 : decode code 686 = .ok (.ireturn, 1) := by decide +kernel
theorem dL_law_687 : decode code 687 = .ok (.iinc 4 4, 3) := by decide +kernel
theorem dL_law_690 : decode code 690 = .ok (.goto (-647), 3) := by decide +kernel
theorem dL_law_693 : decode code 693 = .ok (.iconst 1, 1) := by decide +kernel
theorem dL_law_694 : decode code 694 = .ok (.ireturn, 1) := by decide +kernel
end
section
/-! THE WORLDS. Class: places 0 CranePlan, 1 Bays, 2 Cranes, 3 Timetable, 4 Search, then arrays (5 hatch, 6 work, 7 moves, 8 minutes, 9 out, 10 craneOf, 11 begin, 12 end, 13 first, 14 last, 15 came, 16..19 its rows, 20 bayOfRow, 21 busy, 22 able, 23 choice, 24 best). Reference: 0 the object, 1 hatch, 2 work, 3 moves, 4 minutes, 5 out, 6 tried, 7 best, 8 come, 9 first, 10 last. -/
def bI (P : Prop) [Decidable P] : Int32 := if P then 1 else 0
theorem bI_t {P : Prop} [Decidable P] (h : P) : bI P = 1 := if_pos h
theorem bI_f {P : Prop} [Decidable P] (h : ¬ P) : bI P = 0 := if_neg h
theorem bI_eq0 {P : Prop} [Decidable P] : bI P = 0 ↔ ¬ P := by
  by_cases h : P
  · rw [bI_t h]; exact ⟨fun q => absurd q (by decide), fun q => absurd h q⟩
  · rw [bI_f h]; exact ⟨fun _ => h, fun _ => rfl⟩
theorem bI_ne0 {P : Prop} [Decidable P] : ¬ bI P = 0 ↔ P := by rw [bI_eq0]; exact Decidable.not_not
theorem bI_nar {P : Prop} [Decidable P] : narrow .boolean (.int (bI P)) = .int (bI P) := by
  by_cases h : P
  · rw [bI_t h]; rfl
  · rw [bI_f h]; rfl
theorem bI_congr {P Q : Prop} [Decidable P] [Decidable Q] (h : P ↔ Q) : bI P = bI Q := by
  by_cases q : Q
  · rw [bI_t q, bI_t (h.mpr q)]
  · rw [bI_f q, bI_f (fun z => q (h.mp z))]
abbrev tyC (cI cZ cJ : ClassId) : List (ClassId × FieldType) := [(cI, .int), (cZ, .boolean), (cJ, .array .int)]
def wC (ad : Nat → Nat) (cI cZ cJ : ClassId) (σ : xSg) : va_W := [(ad 0, .inr (4, [.ref (ad 1), .ref (ad 2), .ref (ad 3), .ref (ad 4), .int (σ 0 4)])),
  (ad 1, .inr (0, [.ref (ad 5), .ref (ad 6), .int (σ 1 2)])),
  (ad 2, .inr (1, [.int (σ 2 0), .int (σ 2 1), .ref (ad 7), .ref (ad 8), .ref (ad 9), .int (σ 2 5)])),
  (ad 3, .inr (3, [.ref (ad 1), .ref (ad 2), .ref (ad 10), .ref (ad 11), .ref (ad 12), .ref (ad 13), .ref (ad 14), .ref (ad 15), .ref (ad 20), .int (σ 3 9), .int (σ 3 10), .int (σ 3 11)])),
  (ad 4, .inr (2, [.ref (ad 1), .ref (ad 2), .ref (ad 3), .ref (ad 21), .ref (ad 22), .ref (ad 23), .ref (ad 24), .int (σ 4 7), .int (σ 4 8)])),
  (ad 5, .inl (cI, 8, .inl (σ 5))),
  (ad 6, .inl (cI, 8, .inl (σ 6))),
  (ad 7, .inl (cI, 4, .inl (σ 7))),
  (ad 8, .inl (cI, 4, .inl (σ 8))),
  (ad 9, .inl (cZ, 4, .inl (σ 9))),
  (ad 10, .inl (cI, 8, .inl (σ 10))),
  (ad 11, .inl (cI, 8, .inl (σ 11))),
  (ad 12, .inl (cI, 8, .inl (σ 12))),
  (ad 13, .inl (cI, 4, .inl (σ 13))),
  (ad 14, .inl (cI, 4, .inl (σ 14))),
  (ad 15, .inl (cJ, 4, .inr (.inr (.inr (.inr (fun j => if j < 4 then some (ad (16 + j)) else none)))))),
  (ad 16, .inl (cI, 8, .inl (σ 16))),
  (ad 17, .inl (cI, 8, .inl (σ 17))),
  (ad 18, .inl (cI, 8, .inl (σ 18))),
  (ad 19, .inl (cI, 8, .inl (σ 19))),
  (ad 20, .inl (cI, 8, .inl (σ 20))),
  (ad 21, .inl (cI, 8, .inl (σ 21))),
  (ad 22, .inl (cI, 4, .inl (σ 22))),
  (ad 23, .inl (cI, 8, .inl (σ 23))),
  (ad 24, .inl (cI, 8, .inl (σ 24)))]
def wM (ad : Nat → Nat) (cI cZ cJ : ClassId) (σ : xSg) : va_W := [(ad 0, .inr (5, [.int (σ 0 0), .int (σ 0 1), .int (σ 0 2), .int (σ 0 3), .ref (ad 1), .ref (ad 2), .ref (ad 3), .ref (ad 4), .ref (ad 5), .int (σ 0 9), .int (σ 0 10), .ref (ad 6), .ref (ad 7), .ref (ad 8), .ref (ad 9), .ref (ad 10)])),
  (ad 1, .inl (cI, 8, .inl (σ 1))),
  (ad 2, .inl (cI, 8, .inl (σ 2))),
  (ad 3, .inl (cI, 4, .inl (σ 3))),
  (ad 4, .inl (cI, 4, .inl (σ 4))),
  (ad 5, .inl (cZ, 4, .inl (σ 5))),
  (ad 6, .inl (cI, 8, .inl (σ 6))),
  (ad 7, .inl (cI, 8, .inl (σ 7))),
  (ad 8, .inl (cI, 32, .inl (σ 8))),
  (ad 9, .inl (cI, 4, .inl (σ 9))),
  (ad 10, .inl (cI, 4, .inl (σ 10)))]
section WS
variable {ad : Nat → Nat} {cI cZ cJ : ClassId} {σ : xSg} {v : Int32} {i : Nat}
theorem sst_ne {q i a : Nat} {v : Int32} (h : a ≠ q) : sst σ q i v a = σ a := funext fun _ => sst_q h
theorem sst_up {q i : Nat} {v : Int32} : sst σ q i v q = upd (σ q) i v := by
  funext j
  by_cases h : j = i
  · subst h; rw [sst_same]; simp [upd]
  · rw [sst_i h]; simp [upd, h]
theorem wput_0_4 : (wC ad cI cZ cJ σ).set 0 (ad 0, .inr (4, ([.ref (ad 1), .ref (ad 2), .ref (ad 3), .ref (ad 4), .int (σ 0 4)] : List Value).set 4 (.int v))) = wC ad cI cZ cJ (sst σ 0 4 v) := by rfl
theorem wput_1_2 : (wC ad cI cZ cJ σ).set 1 (ad 1, .inr (0, ([.ref (ad 5), .ref (ad 6), .int (σ 1 2)] : List Value).set 2 (.int v))) = wC ad cI cZ cJ (sst σ 1 2 v) := by rfl
theorem wput_2_0 : (wC ad cI cZ cJ σ).set 2 (ad 2, .inr (1, ([.int (σ 2 0), .int (σ 2 1), .ref (ad 7), .ref (ad 8), .ref (ad 9), .int (σ 2 5)] : List Value).set 0 (.int v))) = wC ad cI cZ cJ (sst σ 2 0 v) := by rfl
theorem wput_2_1 : (wC ad cI cZ cJ σ).set 2 (ad 2, .inr (1, ([.int (σ 2 0), .int (σ 2 1), .ref (ad 7), .ref (ad 8), .ref (ad 9), .int (σ 2 5)] : List Value).set 1 (.int v))) = wC ad cI cZ cJ (sst σ 2 1 v) := by rfl
theorem wput_2_5 : (wC ad cI cZ cJ σ).set 2 (ad 2, .inr (1, ([.int (σ 2 0), .int (σ 2 1), .ref (ad 7), .ref (ad 8), .ref (ad 9), .int (σ 2 5)] : List Value).set 5 (.int v))) = wC ad cI cZ cJ (sst σ 2 5 v) := by rfl
theorem wput_3_9 : (wC ad cI cZ cJ σ).set 3 (ad 3, .inr (3, ([.ref (ad 1), .ref (ad 2), .ref (ad 10), .ref (ad 11), .ref (ad 12), .ref (ad 13), .ref (ad 14), .ref (ad 15), .ref (ad 20), .int (σ 3 9), .int (σ 3 10), .int (σ 3 11)] : List Value).set 9 (.int v))) = wC ad cI cZ cJ (sst σ 3 9 v) := by rfl
theorem wput_3_10 : (wC ad cI cZ cJ σ).set 3 (ad 3, .inr (3, ([.ref (ad 1), .ref (ad 2), .ref (ad 10), .ref (ad 11), .ref (ad 12), .ref (ad 13), .ref (ad 14), .ref (ad 15), .ref (ad 20), .int (σ 3 9), .int (σ 3 10), .int (σ 3 11)] : List Value).set 10 (.int v))) = wC ad cI cZ cJ (sst σ 3 10 v) := by rfl
theorem wput_3_11 : (wC ad cI cZ cJ σ).set 3 (ad 3, .inr (3, ([.ref (ad 1), .ref (ad 2), .ref (ad 10), .ref (ad 11), .ref (ad 12), .ref (ad 13), .ref (ad 14), .ref (ad 15), .ref (ad 20), .int (σ 3 9), .int (σ 3 10), .int (σ 3 11)] : List Value).set 11 (.int v))) = wC ad cI cZ cJ (sst σ 3 11 v) := by rfl
theorem wput_4_7 : (wC ad cI cZ cJ σ).set 4 (ad 4, .inr (2, ([.ref (ad 1), .ref (ad 2), .ref (ad 3), .ref (ad 21), .ref (ad 22), .ref (ad 23), .ref (ad 24), .int (σ 4 7), .int (σ 4 8)] : List Value).set 7 (.int v))) = wC ad cI cZ cJ (sst σ 4 7 v) := by rfl
theorem wput_4_8 : (wC ad cI cZ cJ σ).set 4 (ad 4, .inr (2, ([.ref (ad 1), .ref (ad 2), .ref (ad 3), .ref (ad 21), .ref (ad 22), .ref (ad 23), .ref (ad 24), .int (σ 4 7), .int (σ 4 8)] : List Value).set 8 (.int v))) = wC ad cI cZ cJ (sst σ 4 8 v) := by rfl
theorem warr_5 : (wC ad cI cZ cJ σ).set 5 (ad 5, .inl (cI, 8, .inl (upd (σ 5) i v))) = wC ad cI cZ cJ (sst σ 5 i v) := by rw [← sst_up]; rfl
theorem warr_6 : (wC ad cI cZ cJ σ).set 6 (ad 6, .inl (cI, 8, .inl (upd (σ 6) i v))) = wC ad cI cZ cJ (sst σ 6 i v) := by rw [← sst_up]; rfl
theorem warr_7 : (wC ad cI cZ cJ σ).set 7 (ad 7, .inl (cI, 4, .inl (upd (σ 7) i v))) = wC ad cI cZ cJ (sst σ 7 i v) := by rw [← sst_up]; rfl
theorem warr_8 : (wC ad cI cZ cJ σ).set 8 (ad 8, .inl (cI, 4, .inl (upd (σ 8) i v))) = wC ad cI cZ cJ (sst σ 8 i v) := by rw [← sst_up]; rfl
theorem warr_9 : (wC ad cI cZ cJ σ).set 9 (ad 9, .inl (cZ, 4, .inl (upd (σ 9) i v))) = wC ad cI cZ cJ (sst σ 9 i v) := by rw [← sst_up]; rfl
theorem warr_10 : (wC ad cI cZ cJ σ).set 10 (ad 10, .inl (cI, 8, .inl (upd (σ 10) i v))) = wC ad cI cZ cJ (sst σ 10 i v) := by rw [← sst_up]; rfl
theorem warr_11 : (wC ad cI cZ cJ σ).set 11 (ad 11, .inl (cI, 8, .inl (upd (σ 11) i v))) = wC ad cI cZ cJ (sst σ 11 i v) := by rw [← sst_up]; rfl
theorem warr_12 : (wC ad cI cZ cJ σ).set 12 (ad 12, .inl (cI, 8, .inl (upd (σ 12) i v))) = wC ad cI cZ cJ (sst σ 12 i v) := by rw [← sst_up]; rfl
theorem warr_13 : (wC ad cI cZ cJ σ).set 13 (ad 13, .inl (cI, 4, .inl (upd (σ 13) i v))) = wC ad cI cZ cJ (sst σ 13 i v) := by rw [← sst_up]; rfl
theorem warr_14 : (wC ad cI cZ cJ σ).set 14 (ad 14, .inl (cI, 4, .inl (upd (σ 14) i v))) = wC ad cI cZ cJ (sst σ 14 i v) := by rw [← sst_up]; rfl
theorem warr_16 : (wC ad cI cZ cJ σ).set 16 (ad 16, .inl (cI, 8, .inl (upd (σ 16) i v))) = wC ad cI cZ cJ (sst σ 16 i v) := by rw [← sst_up]; rfl
theorem warr_17 : (wC ad cI cZ cJ σ).set 17 (ad 17, .inl (cI, 8, .inl (upd (σ 17) i v))) = wC ad cI cZ cJ (sst σ 17 i v) := by rw [← sst_up]; rfl
theorem warr_18 : (wC ad cI cZ cJ σ).set 18 (ad 18, .inl (cI, 8, .inl (upd (σ 18) i v))) = wC ad cI cZ cJ (sst σ 18 i v) := by rw [← sst_up]; rfl
theorem warr_19 : (wC ad cI cZ cJ σ).set 19 (ad 19, .inl (cI, 8, .inl (upd (σ 19) i v))) = wC ad cI cZ cJ (sst σ 19 i v) := by rw [← sst_up]; rfl
theorem warr_20 : (wC ad cI cZ cJ σ).set 20 (ad 20, .inl (cI, 8, .inl (upd (σ 20) i v))) = wC ad cI cZ cJ (sst σ 20 i v) := by rw [← sst_up]; rfl
theorem warr_21 : (wC ad cI cZ cJ σ).set 21 (ad 21, .inl (cI, 8, .inl (upd (σ 21) i v))) = wC ad cI cZ cJ (sst σ 21 i v) := by rw [← sst_up]; rfl
theorem warr_22 : (wC ad cI cZ cJ σ).set 22 (ad 22, .inl (cI, 4, .inl (upd (σ 22) i v))) = wC ad cI cZ cJ (sst σ 22 i v) := by rw [← sst_up]; rfl
theorem warr_23 : (wC ad cI cZ cJ σ).set 23 (ad 23, .inl (cI, 8, .inl (upd (σ 23) i v))) = wC ad cI cZ cJ (sst σ 23 i v) := by rw [← sst_up]; rfl
theorem warr_24 : (wC ad cI cZ cJ σ).set 24 (ad 24, .inl (cI, 8, .inl (upd (σ 24) i v))) = wC ad cI cZ cJ (sst σ 24 i v) := by rw [← sst_up]; rfl
theorem mput_0_0 : (wM ad cI cZ cJ σ).set 0 (ad 0, .inr (5, ([.int (σ 0 0), .int (σ 0 1), .int (σ 0 2), .int (σ 0 3), .ref (ad 1), .ref (ad 2), .ref (ad 3), .ref (ad 4), .ref (ad 5), .int (σ 0 9), .int (σ 0 10), .ref (ad 6), .ref (ad 7), .ref (ad 8), .ref (ad 9), .ref (ad 10)] : List Value).set 0 (.int v))) = wM ad cI cZ cJ (sst σ 0 0 v) := by rfl
theorem mput_0_1 : (wM ad cI cZ cJ σ).set 0 (ad 0, .inr (5, ([.int (σ 0 0), .int (σ 0 1), .int (σ 0 2), .int (σ 0 3), .ref (ad 1), .ref (ad 2), .ref (ad 3), .ref (ad 4), .ref (ad 5), .int (σ 0 9), .int (σ 0 10), .ref (ad 6), .ref (ad 7), .ref (ad 8), .ref (ad 9), .ref (ad 10)] : List Value).set 1 (.int v))) = wM ad cI cZ cJ (sst σ 0 1 v) := by rfl
theorem mput_0_2 : (wM ad cI cZ cJ σ).set 0 (ad 0, .inr (5, ([.int (σ 0 0), .int (σ 0 1), .int (σ 0 2), .int (σ 0 3), .ref (ad 1), .ref (ad 2), .ref (ad 3), .ref (ad 4), .ref (ad 5), .int (σ 0 9), .int (σ 0 10), .ref (ad 6), .ref (ad 7), .ref (ad 8), .ref (ad 9), .ref (ad 10)] : List Value).set 2 (.int v))) = wM ad cI cZ cJ (sst σ 0 2 v) := by rfl
theorem mput_0_3 : (wM ad cI cZ cJ σ).set 0 (ad 0, .inr (5, ([.int (σ 0 0), .int (σ 0 1), .int (σ 0 2), .int (σ 0 3), .ref (ad 1), .ref (ad 2), .ref (ad 3), .ref (ad 4), .ref (ad 5), .int (σ 0 9), .int (σ 0 10), .ref (ad 6), .ref (ad 7), .ref (ad 8), .ref (ad 9), .ref (ad 10)] : List Value).set 3 (.int v))) = wM ad cI cZ cJ (sst σ 0 3 v) := by rfl
theorem mput_0_9 : (wM ad cI cZ cJ σ).set 0 (ad 0, .inr (5, ([.int (σ 0 0), .int (σ 0 1), .int (σ 0 2), .int (σ 0 3), .ref (ad 1), .ref (ad 2), .ref (ad 3), .ref (ad 4), .ref (ad 5), .int (σ 0 9), .int (σ 0 10), .ref (ad 6), .ref (ad 7), .ref (ad 8), .ref (ad 9), .ref (ad 10)] : List Value).set 9 (.int v))) = wM ad cI cZ cJ (sst σ 0 9 v) := by rfl
theorem mput_0_10 : (wM ad cI cZ cJ σ).set 0 (ad 0, .inr (5, ([.int (σ 0 0), .int (σ 0 1), .int (σ 0 2), .int (σ 0 3), .ref (ad 1), .ref (ad 2), .ref (ad 3), .ref (ad 4), .ref (ad 5), .int (σ 0 9), .int (σ 0 10), .ref (ad 6), .ref (ad 7), .ref (ad 8), .ref (ad 9), .ref (ad 10)] : List Value).set 10 (.int v))) = wM ad cI cZ cJ (sst σ 0 10 v) := by rfl
theorem marr_1 : (wM ad cI cZ cJ σ).set 1 (ad 1, .inl (cI, 8, .inl (upd (σ 1) i v))) = wM ad cI cZ cJ (sst σ 1 i v) := by rw [← sst_up]; rfl
theorem marr_2 : (wM ad cI cZ cJ σ).set 2 (ad 2, .inl (cI, 8, .inl (upd (σ 2) i v))) = wM ad cI cZ cJ (sst σ 2 i v) := by rw [← sst_up]; rfl
theorem marr_3 : (wM ad cI cZ cJ σ).set 3 (ad 3, .inl (cI, 4, .inl (upd (σ 3) i v))) = wM ad cI cZ cJ (sst σ 3 i v) := by rw [← sst_up]; rfl
theorem marr_4 : (wM ad cI cZ cJ σ).set 4 (ad 4, .inl (cI, 4, .inl (upd (σ 4) i v))) = wM ad cI cZ cJ (sst σ 4 i v) := by rw [← sst_up]; rfl
theorem marr_5 : (wM ad cI cZ cJ σ).set 5 (ad 5, .inl (cZ, 4, .inl (upd (σ 5) i v))) = wM ad cI cZ cJ (sst σ 5 i v) := by rw [← sst_up]; rfl
theorem marr_6 : (wM ad cI cZ cJ σ).set 6 (ad 6, .inl (cI, 8, .inl (upd (σ 6) i v))) = wM ad cI cZ cJ (sst σ 6 i v) := by rw [← sst_up]; rfl
theorem marr_7 : (wM ad cI cZ cJ σ).set 7 (ad 7, .inl (cI, 8, .inl (upd (σ 7) i v))) = wM ad cI cZ cJ (sst σ 7 i v) := by rw [← sst_up]; rfl
theorem marr_8 : (wM ad cI cZ cJ σ).set 8 (ad 8, .inl (cI, 32, .inl (upd (σ 8) i v))) = wM ad cI cZ cJ (sst σ 8 i v) := by rw [← sst_up]; rfl
theorem marr_9 : (wM ad cI cZ cJ σ).set 9 (ad 9, .inl (cI, 4, .inl (upd (σ 9) i v))) = wM ad cI cZ cJ (sst σ 9 i v) := by rw [← sst_up]; rfl
theorem marr_10 : (wM ad cI cZ cJ σ).set 10 (ad 10, .inl (cI, 4, .inl (upd (σ 10) i v))) = wM ad cI cZ cJ (sst σ 10 i v) := by rw [← sst_up]; rfl
end WS
section XN
variable {p : Program} {l : Launch} {e : Env} {R : Room} {s : State} {m : MethodId} {args : Array Value} {below : List Frame} {meth : Method} {c : Code} {cells slots : Nat} {Q : State → Prop} {D : va_G} {cl : List vw_C} {A : Nat → Prop} {nL : Nat} {S : Heap → List Loc → Prop} {ws : va_W} {vs : List Value} {pc : Nat} {st : List Value} {cc : ByteArray} {own : String} {Ts NW : List Cond} {tys : List (ClassId × FieldType)}
theorem x_ialdN (G : xG p s m args c cc nL own Ts NW D cl tys A) {a : Nat} (q0 t0 : Nat) {cA : ClassId} {n : Nat} {f : Nat → Int32} (ha : ws[q0]? = some (a, .inl (cA, n, .inl f))) (ht : tys[t0]? = some (cA, .int)) {j : Nat} (hj : j < n) (hn : n < 2 ^ 31) (d : decode cc pc = .ok (.iaload, 1)) (k : xJ p l e R s m args below meth c cells slots Q D cl A nL (S) (ws) (vs) (pc + 1) (.int (f j) :: st)) : xJ p l e R s m args below meth c cells slots Q D cl A nL (S) (ws) (vs) (pc) (.int (nI j) :: .ref a :: st) := by
  refine x_iald G q0 t0 ha ht (vp_in_nI hj hn) d ?_
  rw [nI_clamp (by omega)]
  exact k
theorem x_zaldN (G : xG p s m args c cc nL own Ts NW D cl tys A) {a : Nat} (q0 t0 : Nat) {cA : ClassId} {n : Nat} {f : Nat → Int32} (ha : ws[q0]? = some (a, .inl (cA, n, .inl f))) (ht : tys[t0]? = some (cA, .boolean)) {j : Nat} (hj : j < n) (hn : n < 2 ^ 31) (d : decode cc pc = .ok (.baload, 1)) (k : xJ p l e R s m args below meth c cells slots Q D cl A nL (S) (ws) (vs) (pc + 1) (.int (f j) :: st)) : xJ p l e R s m args below meth c cells slots Q D cl A nL (S) (ws) (vs) (pc) (.int (nI j) :: .ref a :: st) := by
  refine x_zald G q0 t0 ha ht (vp_in_nI hj hn) d ?_
  rw [nI_clamp (by omega)]
  exact k
theorem x_iastN (G : xG p s m args c cc nL own Ts NW D cl tys A) {a : Nat} (q0 t0 : Nat) {cA : ClassId} {n : Nat} {f : Nat → Int32} {ws' : va_W} {x : Int32} {j : Nat} (ha : ws[q0]? = some (a, .inl (cA, n, .inl f))) (ht : tys[t0]? = some (cA, .int)) (hw : ws.set q0 (a, .inl (cA, n, .inl (upd f j x))) = ws') (hj : j < n) (hn : n < 2 ^ 31) (d : decode cc pc = .ok (.iastore, 1)) (k : xJ p l e R s m args below meth c cells slots Q D cl A nL (va_S A s.heap) (ws') (vs) (pc + 1) (st)) : xJ p l e R s m args below meth c cells slots Q D cl A nL (va_S A s.heap) (ws) (vs) (pc) (.int x :: .int (nI j) :: .ref a :: st) := x_iast G q0 t0 ha ht (by rw [nI_clamp (by omega)]; exact hw) (vp_in_nI hj hn) d k
theorem x_zastN (G : xG p s m args c cc nL own Ts NW D cl tys A) {a : Nat} (q0 t0 : Nat) {cA : ClassId} {n : Nat} {f : Nat → Int32} {ws' : va_W} {x : Int32} {j : Nat} (ha : ws[q0]? = some (a, .inl (cA, n, .inl f))) (ht : tys[t0]? = some (cA, .boolean)) (hx : vp_nar .boolean x = x) (hw : ws.set q0 (a, .inl (cA, n, .inl (upd f j x))) = ws') (hj : j < n) (hn : n < 2 ^ 31) (d : decode cc pc = .ok (.bastore, 1)) (k : xJ p l e R s m args below meth c cells slots Q D cl A nL (va_S A s.heap) (ws') (vs) (pc + 1) (st)) : xJ p l e R s m args below meth c cells slots Q D cl A nL (va_S A s.heap) (ws) (vs) (pc) (.int x :: .int (nI j) :: .ref a :: st) := x_zast G q0 t0 ha ht hx (by rw [nI_clamp (by omega)]; exact hw) (vp_in_nI hj hn) d k
end XN
/-! the words of a call -/
section CW
variable {R : Room} {s : State} {args : Array Value} {own C host : String} {idx n d N : Nat} {y : MethodName} {b : ByteArray} {ret : Option FieldType} {c0 : Cond}
theorem good_cons (h5 : Cond.code y b n ret ∈ bigW) : GoodIn (c0 :: bigW) (Cond.code y b n ret :: bigW) := fun w hw => by
  have h : w ∈ bigW := by
    rcases List.mem_cons.mp hw with rfl | h
    · exact h5
    · exact h
  exact ⟨List.mem_cons_of_mem _ h, bigW_good h⟩
theorem good_app {a : List Cond} (ha : ∀ w ∈ a, w ∈ bigW) (h5 : Cond.code y b n ret ∈ bigW) : GoodIn (c0 :: bigW) (a ++ (Cond.code y b n ret :: bigW)) := fun w hw => by
  rcases List.mem_append.mp hw with h | h
  · exact ⟨List.mem_cons_of_mem _ (ha w h), bigW_good (ha w h)⟩
  · exact good_cons h5 w h
theorem cV (hts : ∀ w ∈ (c0 :: bigW), w.before args s = true) (h1 : Cond.methodLink own idx y ∈ bigW) (h2 : Cond.instanceMethod y ∈ bigW) (h3 : Cond.selects C y y ∈ bigW) (h4 : Cond.initialized C ∈ bigW) (h5 : Cond.code y b n ret ∈ bigW)
    (hd : y.cls = C ∧ y.cls ≠ "java/lang/invoke/MethodHandle" ∧ y.cls ≠ "java/lang/invoke/VarHandle" ∧ (parseMethodDescriptor y.desc).map (fun d => d.parameters.length) = some N) (hR : d + 1 ≤ R.frames ∧ 8 + (n + 11) + 40 * d ≤ R.locals) :
    CallW R s args own C idx y b n ret (Cond.code y b n ret :: bigW) { frames := d, cells := 0, slots := 0, locals := 40 * d } 0 0 N :=
  cwV N hts (by unfold wsV; exact good_app (fun w hw => by simp only [List.mem_cons, List.not_mem_nil, or_false] at hw; rcases hw with rfl | rfl | rfl | rfl <;> assumption) h5) rfl rfl rfl hd hR
theorem cS (hts : ∀ w ∈ (c0 :: bigW), w.before args s = true) (h1 : Cond.methodLink own idx y ∈ bigW) (h2 : Cond.static y ∈ bigW) (h4 : Cond.initialized own ∈ bigW) (h5 : Cond.code y b n ret ∈ bigW)
    (hd : y.cls = own ∧ y.cls ≠ "java/lang/invoke/MethodHandle" ∧ y.cls ≠ "java/lang/invoke/VarHandle" ∧ (parseMethodDescriptor y.desc).map (fun d => d.parameters.length) = some N) (hR : d + 1 ≤ R.frames ∧ 8 + (n + 11) + 40 * d ≤ R.locals) :
    CallB R s args own idx y b n ret (Cond.code y b n ret :: bigW) { frames := d, cells := 0, slots := 0, locals := 40 * d } 0 0 N ∧ (Cond.static y).before args s = true :=
  cwS N hts (by unfold wsS; exact good_app (fun w hw => by simp only [List.mem_cons, List.not_mem_nil, or_false] at hw; rcases hw with rfl | rfl | rfl <;> assumption) h5) rfl rfl rfl hd hR
theorem cSo (hts : ∀ w ∈ (c0 :: bigW), w.before args s = true) (h1 : Cond.methodLink own idx y ∈ bigW) (h2 : Cond.static y ∈ bigW) (h4 : Cond.initialized y.cls ∈ bigW) (h5 : Cond.code y b n ret ∈ bigW)
    (hd : y.cls ≠ "java/lang/invoke/MethodHandle" ∧ y.cls ≠ "java/lang/invoke/VarHandle" ∧ (parseMethodDescriptor y.desc).map (fun d => d.parameters.length) = some N) (hR : d + 1 ≤ R.frames ∧ 8 + (n + 11) + 40 * d ≤ R.locals) :
    CallB R s args own idx y b n ret (Cond.code y b n ret :: bigW) { frames := d, cells := 0, slots := 0, locals := 40 * d } 0 0 N ∧ (Cond.static y).before args s = true :=
  va_cwS N hts (by unfold va_wsS; exact good_app (fun w hw => by simp only [List.mem_cons, List.not_mem_nil, or_false] at hw; rcases hw with rfl | rfl | rfl <;> assumption) h5) rfl rfl rfl hd hR
theorem cVN (hts : ∀ w ∈ (c0 :: bigW), w.before args s = true) (hN : ∀ c ∈ nwW, isNest c = true ∧ va_Nw c s) (h1 : Cond.methodLinkNest own idx y host ∈ nwW) (h2 : Cond.instanceMethod y ∈ bigW) (h3 : Cond.selects C y y ∈ bigW) (h4 : Cond.initialized y.cls ∈ bigW) (h5 : Cond.code y b n ret ∈ bigW)
    (hd : y.cls ≠ "java/lang/invoke/MethodHandle" ∧ y.cls ≠ "java/lang/invoke/VarHandle" ∧ (parseMethodDescriptor y.desc).map (fun d => d.parameters.length) = some N) (hR : d + 1 ≤ R.frames ∧ 8 + (n + 11) + 40 * d ≤ R.locals) :
    va_CN R s args own idx y host b n ret (Cond.code y b n ret :: bigW) { frames := d, cells := 0, slots := 0, locals := 40 * d } 0 0 N ∧ (Cond.instanceMethod y).before args s = true ∧ (Cond.selects C y y).before args s = true :=
  ⟨va_cnB N hts (good_cons h5) rfl rfl rfl (hN _ h1).2 (hts _ (List.mem_cons_of_mem _ h4)) hd hR, hts _ (List.mem_cons_of_mem _ h2), hts _ (List.mem_cons_of_mem _ h3)⟩
theorem cSN (hts : ∀ w ∈ (c0 :: bigW), w.before args s = true) (hN : ∀ c ∈ nwW, isNest c = true ∧ va_Nw c s) (h1 : Cond.methodLinkNest own idx y host ∈ nwW) (h2 : Cond.static y ∈ bigW) (h4 : Cond.initialized y.cls ∈ bigW) (h5 : Cond.code y b n ret ∈ bigW)
    (hd : y.cls ≠ "java/lang/invoke/MethodHandle" ∧ y.cls ≠ "java/lang/invoke/VarHandle" ∧ (parseMethodDescriptor y.desc).map (fun d => d.parameters.length) = some N) (hR : d + 1 ≤ R.frames ∧ 8 + (n + 11) + 40 * d ≤ R.locals) :
    va_CN R s args own idx y host b n ret (Cond.code y b n ret :: bigW) { frames := d, cells := 0, slots := 0, locals := 40 * d } 0 0 N ∧ (Cond.static y).before args s = true ∧ True :=
  ⟨va_cnB N hts (good_cons h5) rfl rfl rfl (hN _ h1).2 (hts _ (List.mem_cons_of_mem _ h4)) hd hR, hts _ (List.mem_cons_of_mem _ h2), trivial⟩
end CW
section MN
variable {l : Launch} {D : va_G} {cl : List vw_C} {tys : List (ClassId × FieldType)} {NW : List Cond} {ws : va_W} {y : MethodName} {Ts : List Cond} {d : Nat} {as : List Value}
theorem xCi0.mono {post post' : Int32 → Prop} (h : xCi0 l D cl tys NW ws y Ts d as post) (hp : ∀ r, post r → post' r) : xCi0 l D cl tys NW ws y Ts d as post' := by
  intro p e ha hc hk s m args below hf happ hP hK
  obtain ⟨n, o, h1, h2, h3, ⟨r, q1, q2, q3⟩, h5⟩ := h p e ha hc hk s m args below hf happ hP hK
  exact ⟨n, o, h1, h2, h3, ⟨r, q1, hp r q2, q3⟩, h5⟩
theorem xCi.mono {wf : xSg → va_W} {σ : xSg} {post post' : Int32 → xSg → Prop} (h : xCi l D cl tys NW wf y Ts d as σ post) (hp : ∀ r u, post r u → post' r u) : xCi l D cl tys NW wf y Ts d as σ post' := by
  intro sz p e ha hc hk s m args below hf happ hP hK
  obtain ⟨n, o, h1, h2, h3, ⟨⟨r, u, q1, q2, q3⟩, q4⟩, h5⟩ := h sz p e ha hc hk s m args below hf happ hP hK
  exact ⟨n, o, h1, h2, h3, ⟨⟨r, u, q1, hp r u q2, q3⟩, q4⟩, h5⟩
theorem xCv.mono {wf : xSg → va_W} {σ : xSg} {post post' : xSg → Prop} (h : xCv l D cl tys NW wf y Ts d as σ post) (hp : ∀ u, post u → post' u) : xCv l D cl tys NW wf y Ts d as σ post' := by
  intro sz p e ha hc hk s m args below hf happ hP hK
  obtain ⟨n, o, h1, h2, h3, ⟨⟨u, q1, q2, q3⟩, q4⟩, h5⟩ := h sz p e ha hc hk s m args below hf happ hP hK
  exact ⟨n, o, h1, h2, h3, ⟨⟨u, q1, hp u q2, q3⟩, q4⟩, h5⟩
end MN
end
section
/-! LEAVES: CranePlan's static methods, Bays -/
theorem lgc_pos {b : Nat} (h0 : 0 < b) (hb : b < 2 ^ 63) : 0 < lg_cmp (lN b) 0 := by
  have h : (0 : Int64) < lN b := by
    rw [show (0 : Int64) = lN 0 from rfl, pk_lLT (by decide) hb]; exact h0
  have e : lg_cmp (lN b) 0 = 1 := by simp [lg_cmp, h]
  rw [e]; decide
theorem cdv_l {a b : Nat} (h0 : 0 < b) (hab : a + b < 2 ^ 62) : (lN a + lN b - 1) / lN b = lN (cdv a b) := by
  rw [lN_add, show (1 : Int64) = lN 1 from rfl, lN_sub (by omega), pk_lDiv (by omega) h0 (by omega)]
  rfl
/-- a number's place among others, by Int -/
theorem i32_lt {x y : Int32} : x < y ↔ x.toInt < y.toInt := Int32.lt_iff_toInt_lt
theorem i32_le {x y : Int32} : x ≤ y ↔ x.toInt ≤ y.toInt := Int32.le_iff_toInt_le
theorem nI_m1 {b : Nat} (h : b < 2 ^ 31) : nI b ≠ -1 := by
  intro q
  have := congrArg Int32.toInt q
  rw [nI_toInt h] at this
  have e : (-1 : Int32).toInt = -1 := by decide
  rw [e] at this
  omega
set_option maxHeartbeats 4000000 in
set_option maxRecDepth 100000 in
theorem cP_within {l : Launch} {D : va_G} {cI cZ cJ : ClassId} {ad : Nat → Nat} {σ : xSg} {v a b : Int32} : xCi0 l D vCl (tyC cI cZ cJ) nwW (wC ad cI cZ cJ σ) yP_within (.code yP_within bP_within 3 (some .boolean) :: bigW) 0 [.int v, .int a, .int b] (fun r => r = bI (¬ v < a ∧ ¬ b < v)) := by
  refine xCi0.of (cc := bP_within) (nL := 3) (ret := (some .boolean)) rfl (by decide) [.int v, .int a, .int b] rfl (Nat.le_of_ble_eq_true rfl) ?_
  intro pp ee ss mm aa bb me cde AA G hr hlk
  refine x_iload_n G 0 dP_within_0 rfl rfl ?_
  refine x_iload_n G 1 dP_within_1 rfl rfl ?_
  refine x_icmp_lt G 14 dP_within_2 (by decide) (fun h2 => ?_) (fun h2 => ?_)
  · refine x_iconst G (0) dP_within_14 (by decide) ?_
    exact x_ret0i G hr hlk rfl dP_within_15 (by simp [bI, *])
  · refine x_iload_n G 0 dP_within_5 rfl rfl ?_
    refine x_iload_n G 2 dP_within_6 rfl rfl ?_
    refine x_icmp_gt G 14 dP_within_7 (by decide) (fun h7 => ?_) (fun h7 => ?_)
    · refine x_iconst G (0) dP_within_14 (by decide) ?_
      exact x_ret0i G hr hlk rfl dP_within_15 (by simp [bI, *])
    · refine x_iconst G (1) dP_within_10 (by decide) ?_
      refine x_goto G 15 dP_within_11 (by decide) ?_
      exact x_ret0i G hr hlk rfl dP_within_15 (by simp [bI, *])
set_option maxHeartbeats 4000000 in
set_option maxRecDepth 100000 in
theorem cP_held {l : Launch} {D : va_G} {cI cZ cJ : ClassId} {ad : Nat → Nat} {σ : xSg} {v a b : Int32} : xCi0 l D vCl (tyC cI cZ cJ) nwW (wC ad cI cZ cJ σ) yP_held (.code yP_held bP_held 3 (some .int) :: bigW) 1 [.int v, .int a, .int b] (fun r => r = if a < (if v < b then v else b) then (if v < b then v else b) else a) := by
  refine xCi0.of (cc := bP_held) (nL := 3) (ret := (some .int)) rfl (by decide) [.int v, .int a, .int b] rfl (Nat.le_of_ble_eq_true rfl) ?_
  intro pp ee ss mm aa bb me cde AA G hr hlk
  refine x_iload_n G 1 dP_held_0 rfl rfl ?_
  refine x_iload_n G 2 dP_held_1 rfl rfl ?_
  refine x_iload_n G 0 dP_held_2 rfl rfl ?_
  refine x_mmin G (.tail _ wd_97) (.tail _ wd_98) (.tail _ wd_51) (.tail _ wd_99) ⟨(Nat.le_of_ble_eq_true rfl), (Nat.le_of_ble_eq_true rfl), Nat.zero_le _, Nat.zero_le _⟩ dP_held_3 ?_
  refine x_mmax G (.tail _ wd_100) (.tail _ wd_101) (.tail _ wd_51) (.tail _ wd_102) ⟨(Nat.le_of_ble_eq_true rfl), (Nat.le_of_ble_eq_true rfl), Nat.zero_le _, Nat.zero_le _⟩ dP_held_6 ?_
  exact x_ret0i G hr hlk rfl dP_held_9 rfl
set_option maxHeartbeats 4000000 in
set_option maxRecDepth 100000 in
theorem cP_dividedUp {l : Launch} {D : va_G} {cI cZ cJ : ClassId} {ad : Nat → Nat} {σ : xSg} {a b : Nat} (h0 : 0 < b) (hab : a + b < 2 ^ 62) : xCl0 l D vCl (tyC cI cZ cJ) nwW (wC ad cI cZ cJ σ) yP_dividedUp (.code yP_dividedUp bP_dividedUp 4 (some .long) :: bigW) 0 [.long (lN a), .long (lN b)] (fun r => r = lN (cdv a b)) := by
  refine xCl0.of (cc := bP_dividedUp) (nL := 4) (ret := (some .long)) rfl (by decide) [.long (lN a), .null, .long (lN b), .null] rfl (Nat.le_of_ble_eq_true rfl) ?_
  intro pp ee ss mm aa bb me cde AA G hr hlk
  refine x_lload_n G 2 dP_dividedUp_0 rfl rfl ?_
  refine x_lconst G 0 dP_dividedUp_1 (by decide) ?_
  refine x_lcmp G dP_dividedUp_2 ?_
  refine x_if_gt G 10 dP_dividedUp_3 (by decide) (fun h3 => ?_) (fun h3 => (by exact absurd (lgc_pos h0 (by omega)) h3))
  refine x_lload_n G 0 dP_dividedUp_10 rfl rfl ?_
  refine x_lload_n G 2 dP_dividedUp_11 rfl rfl ?_
  refine x_ladd G dP_dividedUp_12 ?_
  refine x_lconst G 1 dP_dividedUp_13 (by decide) ?_
  refine x_lsub G dP_dividedUp_14 ?_
  refine x_lload_n G 2 dP_dividedUp_15 rfl rfl ?_
  refine x_ldiv G dP_dividedUp_16 (fun h => by rw [show (0 : Int64) = lN 0 from rfl, pk_lEQ (by omega) (by decide)] at h; omega) ?_
  exact x_ret0l G hr hlk dP_dividedUp_17 (cdv_l h0 hab)
set_option maxHeartbeats 4000000 in
set_option maxRecDepth 100000 in
theorem cB_has {l : Launch} {D : va_G} {cI cZ cJ : ClassId} {ad : Nat → Nat} {σ : xSg} {b : Int32} : xCi0 l D vCl (tyC cI cZ cJ) nwW (wC ad cI cZ cJ σ) yB_has (.code yB_has bB_has 2 (some .boolean) :: bigW) 0 [.ref (ad 1), .int b] (fun r => r = bI (¬ b < 0 ∧ ¬ σ 1 2 ≤ b ∧ ¬ (8 : Int32) ≤ b)) := by
  refine xCi0.of (cc := bB_has) (nL := 2) (ret := (some .boolean)) rfl (by decide) [.ref (ad 1), .int b] rfl (Nat.le_of_ble_eq_true rfl) ?_
  intro pp ee ss mm aa bb me cde AA G hr hlk
  refine x_iload_n G 1 dB_has_0 rfl rfl ?_
  refine x_if_lt G 22 dB_has_1 (by decide) (fun h1 => ?_) (fun h1 => ?_)
  · refine x_iconst G (0) dB_has_22 (by decide) ?_
    exact x_ret0i G hr hlk rfl dB_has_23 (by simp [bI, *])
  · refine x_iload_n G 1 dB_has_4 rfl rfl ?_
    refine x_aload_n G 0 dB_has_5 rfl rfl ?_
    refine x_get G 1 rfl rfl 2 (by decide) rfl (fun w h => .tail _ (iB_ok w h)) (.tail _ wd_82) rfl dB_has_6 ?_
    refine x_icmp_ge G 22 dB_has_9 (by decide) (fun h9 => ?_) (fun h9 => ?_)
    · refine x_iconst G (0) dB_has_22 (by decide) ?_
      exact x_ret0i G hr hlk rfl dB_has_23 (by simp [bI, *])
    · refine x_iload_n G 1 dB_has_12 rfl rfl ?_
      refine x_bipush G (8) dB_has_13 (by decide) ?_
      refine x_icmp_ge G 22 dB_has_15 (by decide) (fun h15 => ?_) (fun h15 => ?_)
      · refine x_iconst G (0) dB_has_22 (by decide) ?_
        exact x_ret0i G hr hlk rfl dB_has_23 (by simp [bI, *])
      · refine x_iconst G (1) dB_has_18 (by decide) ?_
        refine x_goto G 23 dB_has_19 (by decide) ?_
        exact x_ret0i G hr hlk rfl dB_has_23 (by simp [bI, *])
theorem has_nI {t : Int32} {n b : Nat} (ht : t = nI n) (hn : n ≤ 8) (hb : b < 2 ^ 31) : (¬ nI b < 0 ∧ ¬ t ≤ nI b ∧ ¬ (8 : Int32) ≤ nI b) ↔ b < n := by
  subst ht
  rw [show (8 : Int32) = nI 8 from rfl, nI_leI (by omega) hb, nI_leI (by omega) hb]
  have := nI_pos hb
  constructor
  · rintro ⟨-, h1, -⟩; omega
  · intro h; exact ⟨this, by omega, by omega⟩
theorem cB_hasN {l : Launch} {D : va_G} {cI cZ cJ : ClassId} {ad : Nat → Nat} {σ : xSg} {n b : Nat} (ht : σ 1 2 = nI n) (hn : n ≤ 8) (hb : b < 2 ^ 31) : xCi0 l D vCl (tyC cI cZ cJ) nwW (wC ad cI cZ cJ σ) yB_has (.code yB_has bB_has 2 (some .boolean) :: bigW) 0 [.ref (ad 1), .int (nI b)] (fun r => r = bI (b < n)) :=
  cB_has.mono (fun r h => by rw [h]; exact bI_congr (has_nI ht hn hb))
set_option maxHeartbeats 4000000 in
set_option maxRecDepth 100000 in
theorem cB_isFull {l : Launch} {D : va_G} {cI cZ cJ : ClassId} {ad : Nat → Nat} {σ : xSg}  : xCi0 l D vCl (tyC cI cZ cJ) nwW (wC ad cI cZ cJ σ) yB_isFull (.code yB_isFull bB_isFull 1 (some .boolean) :: bigW) 0 [.ref (ad 1)] (fun r => r = bI ((8 : Int32) ≤ σ 1 2)) := by
  refine xCi0.of (cc := bB_isFull) (nL := 1) (ret := (some .boolean)) rfl (by decide) [.ref (ad 1)] rfl (Nat.le_of_ble_eq_true rfl) ?_
  intro pp ee ss mm aa bb me cde AA G hr hlk
  refine x_aload_n G 0 dB_isFull_0 rfl rfl ?_
  refine x_get G 1 rfl rfl 2 (by decide) rfl (fun w h => .tail _ (iB_ok w h)) (.tail _ wd_82) rfl dB_isFull_1 ?_
  refine x_bipush G (8) dB_isFull_4 (by decide) ?_
  refine x_icmp_lt G 13 dB_isFull_6 (by decide) (fun h6 => ?_) (fun h6 => ?_)
  · refine x_iconst G (0) dB_isFull_13 (by decide) ?_
    exact x_ret0i G hr hlk rfl dB_isFull_14 (by simp [bI, *])
  · refine x_iconst G (1) dB_isFull_9 (by decide) ?_
    refine x_goto G 14 dB_isFull_10 (by decide) ?_
    exact x_ret0i G hr hlk rfl dB_isFull_14 (by simp [bI, *])
set_option maxHeartbeats 4000000 in
set_option maxRecDepth 100000 in
theorem cB_movesOf {l : Launch} {D : va_G} {cI cZ cJ : ClassId} {ad : Nat → Nat} {σ : xSg} {n b : Nat} (ht : σ 1 2 = nI n) (hn : n ≤ 8) (hb : b < 2 ^ 31) : xCi0 l D vCl (tyC cI cZ cJ) nwW (wC ad cI cZ cJ σ) yB_movesOf (.code yB_movesOf bB_movesOf 2 (some .int) :: bigW) 1 [.ref (ad 1), .int (nI b)] (fun r => r = if b < n then σ 5 b + σ 6 b else 0) := by
  refine xCi0.of (cc := bB_movesOf) (nL := 2) (ret := (some .int)) rfl (by decide) [.ref (ad 1), .int (nI b)] rfl (Nat.le_of_ble_eq_true rfl) ?_
  intro pp ee ss mm aa bb me cde AA G hr hlk
  refine x_aload_n G 0 dB_movesOf_0 rfl rfl ?_
  refine x_iload_n G 1 dB_movesOf_1 rfl rfl ?_
  refine x_call0V1i G (cB_hasN ht hn hb) 1 rfl rfl (cV G.2.2.2.2.1 wd_258 wd_260 wd_3 wd_49 wd_261 (by decide +kernel) ⟨(Nat.le_of_ble_eq_true rfl), (Nat.le_of_ble_eq_true rfl)⟩) dB_movesOf_2 (Nat.le_of_ble_eq_true rfl) ⟨Nat.zero_le _, Nat.zero_le _⟩ (fun r2 e2 => ?_)
  subst e2
  refine x_if_eq G 24 dB_movesOf_5 (by decide) (fun h5 => ?_) (fun h5 => ?_)
  · have h5 := bI_eq0.mp h5
    refine x_iconst G (0) dB_movesOf_24 (by decide) ?_
    exact x_ret0i G hr hlk rfl dB_movesOf_25 (by simp [*])
  · have h5 := bI_ne0.mp h5
    refine x_aload_n G 0 dB_movesOf_8 rfl rfl ?_
    refine x_get G 1 rfl rfl 0 (by decide) rfl (fun w h => .tail _ (iB_ok w h)) (.tail _ wd_78) rfl dB_movesOf_9 ?_
    refine x_iload_n G 1 dB_movesOf_12 rfl rfl ?_
    refine x_ialdN G 5 0 rfl rfl (by omega) (by decide) dB_movesOf_13 ?_
    refine x_aload_n G 0 dB_movesOf_14 rfl rfl ?_
    refine x_get G 1 rfl rfl 1 (by decide) rfl (fun w h => .tail _ (iB_ok w h)) (.tail _ wd_80) rfl dB_movesOf_15 ?_
    refine x_iload_n G 1 dB_movesOf_18 rfl rfl ?_
    refine x_ialdN G 6 0 rfl rfl (by omega) (by decide) dB_movesOf_19 ?_
    refine x_iadd G dB_movesOf_20 ?_
    refine x_goto G 25 dB_movesOf_21 (by decide) ?_
    exact x_ret0i G hr hlk rfl dB_movesOf_25 (by simp [*])
/-- the sum of the moves of the bays below k -/
def amS (σ : xSg) : Nat → Int32
  | 0 => 0
  | k + 1 => amS σ k + (σ 5 k + σ 6 k)
set_option maxHeartbeats 4000000 in
set_option maxRecDepth 100000 in
theorem cB_allMoves {l : Launch} {D : va_G} {cI cZ cJ : ClassId} {ad : Nat → Nat} {σ : xSg} {n : Nat} (ht : σ 1 2 = nI n) (hn : n ≤ 8) : xCi0 l D vCl (tyC cI cZ cJ) nwW (wC ad cI cZ cJ σ) yB_allMoves (.code yB_allMoves bB_allMoves 3 (some .int) :: bigW) 2 [.ref (ad 1)] (fun r => r = amS σ n) := by
  refine xCi0.of (cc := bB_allMoves) (nL := 3) (ret := (some .int)) rfl (by decide) [.ref (ad 1), .null, .null] rfl (Nat.le_of_ble_eq_true rfl) ?_
  intro pp ee ss mm aa bb me cde AA G hr hlk
  have loop : ∀ (j k : Nat), k + j = n → xJ pp l ee { frames := 2, cells := 0, slots := 0, locals := 40 * 2 } ss mm aa bb me cde 0 0 (MQ bb (vp_Si (fun r => r = amS σ n)) aa ss 0 0 (fun _ => False)) D vCl AA 3 (fun H locs => H = ss.heap ∧ locs = []) (wC ad cI cZ cJ σ) [.ref (ad 1), .int (amS σ k), .int (nI k)] 4 [] := by
    intro j
    induction j with
    | zero =>
      intro k hk
      refine x_iload_n G 2 dB_allMoves_4 rfl rfl ?_
      refine x_aload_n G 0 dB_allMoves_5 rfl rfl ?_
      refine x_get G 1 rfl rfl 2 (by decide) rfl (fun w h => .tail _ (iB_ok w h)) (.tail _ wd_82) rfl dB_allMoves_6 ?_
      refine x_icmp_ge G 26 dB_allMoves_9 (by decide) (fun h9 => ?_) (fun h9 => (by rw [ht] at h9; exact absurd (nI_le (by omega) (by omega)) h9))
      refine x_iload_n G 1 dB_allMoves_26 rfl rfl ?_
      exact x_ret0i G hr hlk rfl dB_allMoves_27 (by rw [show k = n by omega])
    | succ j ih =>
      intro k hk
      refine x_iload_n G 2 dB_allMoves_4 rfl rfl ?_
      refine x_aload_n G 0 dB_allMoves_5 rfl rfl ?_
      refine x_get G 1 rfl rfl 2 (by decide) rfl (fun w h => .tail _ (iB_ok w h)) (.tail _ wd_82) rfl dB_allMoves_6 ?_
      refine x_icmp_ge G 26 dB_allMoves_9 (by decide) (fun h9 => (by rw [ht] at h9; exact absurd h9 (nI_ge (by omega) (by omega)))) (fun h9 => ?_)
      refine x_iload_n G 1 dB_allMoves_12 rfl rfl ?_
      refine x_aload_n G 0 dB_allMoves_13 rfl rfl ?_
      refine x_iload_n G 2 dB_allMoves_14 rfl rfl ?_
      refine x_call0V1i G (cB_movesOf ht hn (by omega)) 1 rfl rfl (cV G.2.2.2.2.1 wd_347 wd_256 wd_2 wd_49 wd_257 (by decide +kernel) ⟨(Nat.le_of_ble_eq_true rfl), (Nat.le_of_ble_eq_true rfl)⟩) dB_allMoves_15 (Nat.le_of_ble_eq_true rfl) ⟨Nat.zero_le _, Nat.zero_le _⟩ (fun r15 e15 => ?_)
      subst e15
      rw [if_pos (show k < n by omega)]
      refine x_iadd G dB_allMoves_18 ?_
      refine x_istore_n G 1 dB_allMoves_19 rfl (by decide) ?_
      refine x_iinc G (nI (k + 1)) dB_allMoves_20 rfl (nI_1 k) (by decide) ?_
      refine x_goto G 4 dB_allMoves_23 (by decide) ?_
      exact ih (k + 1) (by omega)
  refine x_iconst G (0) dB_allMoves_0 (by decide) ?_
  refine x_istore_n G 1 dB_allMoves_1 rfl (by decide) ?_
  refine x_iconst G (0) dB_allMoves_2 (by decide) ?_
  refine x_istore_n G 2 dB_allMoves_3 rfl (by decide) ?_
  exact loop n 0 (by omega)
end
section
/-! Bays that write, Cranes -/
/-- what the bays hold: n of them, hatch and work left -/
def PB (σ : xSg) (n : Nat) (hh ww : Nat → Nat) : Prop := n ≤ 8 ∧ σ 1 2 = nI n ∧ (∀ b, b < n → σ 5 b = nI (hh b) ∧ σ 6 b = nI (ww b)) ∧ (∀ b, hh b ≤ 50 ∧ ww b ≤ 200) ∧ ∀ b, n ≤ b → hh b = 0 ∧ ww b = 0
/-- what the cranes hold: C of them, their rates, who is out -/
def PK (σ : xSg) (C : Nat) (mo mi : Nat → Nat) (ou : Nat → Bool) : Prop := 1 ≤ C ∧ C ≤ 4 ∧ σ 2 0 = nI C ∧ (∀ c, c < 4 → σ 7 c = nI (mo c) ∧ σ 8 c = nI (mi c) ∧ σ 9 c = bI (ou c = true)) ∧ ∀ c, 1 ≤ mo c ∧ mo c ≤ 100 ∧ 1 ≤ mi c ∧ mi c ≤ 100
set_option maxHeartbeats 4000000 in
set_option maxRecDepth 100000 in
theorem cB_add {l : Launch} {D : va_G} {cI cZ cJ : ClassId} {ad : Nat → Nat} {σ : xSg} {n : Nat} {h v : Int32} (ht : σ 1 2 = nI n) (hn : n < 8) : xCi l D vCl (tyC cI cZ cJ) nwW (wC ad cI cZ cJ) yB_add (.code yB_add bB_add 3 (some .int) :: bigW) 1 [.ref (ad 1), .int h, .int v] σ (fun r u => r = nI n ∧ u = sst (sst (sst σ 5 n h) 6 n v) 1 2 (nI (n + 1))) := by
  refine xCi.of (cc := bB_add) (nL := 3) (ret := (some .int)) rfl (by decide) [.ref (ad 1), .int h, .int v] rfl (Nat.le_of_ble_eq_true rfl) ?_
  intro pp ee ss mm aa bb me cde AA G hr hlk
  refine x_aload_n G 0 dB_add_0 rfl rfl ?_
  refine x_call0V0i G cB_isFull 1 rfl rfl (cV G.2.2.2.2.1 wd_469 wd_447 wd_24 wd_49 wd_448 (by decide +kernel) ⟨(Nat.le_of_ble_eq_true rfl), (Nat.le_of_ble_eq_true rfl)⟩) dB_add_1 (Nat.le_of_ble_eq_true rfl) ⟨Nat.zero_le _, Nat.zero_le _⟩ (fun r1 e1 => ?_)
  subst e1
  refine x_if_eq G 9 dB_add_4 (by decide) (fun h4 => ?_) (fun h4 => (by have h4 := bI_ne0.mp h4; rw [ht, show (8 : Int32) = nI 8 from rfl, nI_leI (by omega) (by omega)] at h4; omega))
  refine x_aload_n G 0 dB_add_9 rfl rfl ?_
  refine x_get G 1 rfl rfl 0 (by decide) rfl (fun w h => .tail _ (iB_ok w h)) (.tail _ wd_78) rfl dB_add_10 ?_
  refine x_aload_n G 0 dB_add_13 rfl rfl ?_
  refine x_get G 1 rfl rfl 2 (by decide) rfl (fun w h => .tail _ (iB_ok w h)) (.tail _ wd_82) rfl dB_add_14 ?_
  refine x_top ht ?_
  refine x_iload_n G 1 dB_add_17 rfl rfl ?_
  refine x_iastN G 5 0 rfl rfl warr_5 (by omega) (by decide) dB_add_18 ?_
  refine x_aload_n G 0 dB_add_19 rfl rfl ?_
  refine x_get G 1 rfl rfl 1 (by decide) rfl (fun w h => .tail _ (iB_ok w h)) (.tail _ wd_80) rfl dB_add_20 ?_
  refine x_aload_n G 0 dB_add_23 rfl rfl ?_
  refine x_get G 1 rfl rfl 2 (by decide) rfl (fun w h => .tail _ (iB_ok w h)) (.tail _ wd_82) rfl dB_add_24 ?_
  refine x_top ht ?_
  refine x_iload_n G 2 dB_add_27 rfl rfl ?_
  refine x_iastN G 6 0 rfl rfl warr_6 (by omega) (by decide) dB_add_28 ?_
  refine x_aload_n G 0 dB_add_29 rfl rfl ?_
  refine x_dup G dB_add_30 rfl ?_
  refine x_get G 1 rfl rfl 2 (by decide) rfl (fun w h => .tail _ (iB_ok w h)) (.tail _ wd_82) rfl dB_add_31 ?_
  refine x_top (z := nI n) ht ?_
  refine x_iconst G (1) dB_add_34 (by decide) ?_
  refine x_iadd G dB_add_35 ?_
  refine x_top (nI_1 n) ?_
  refine x_put G 1 rfl rfl 2 (by decide) (Nat.le_of_ble_eq_true rfl) wput_1_2 (fun w h => .tail _ (iB_ok w h)) tB_ok nB_ok (.tail _ wd_82) rfl rfl (tB_ok 2 (by decide)) rfl rfl dB_add_36 ?_
  refine x_aload_n G 0 dB_add_39 rfl rfl ?_
  refine x_get G 1 rfl rfl 2 (by decide) rfl (fun w h => .tail _ (iB_ok w h)) (.tail _ wd_82) rfl dB_add_40 ?_
  refine x_iconst G (1) dB_add_43 (by decide) ?_
  refine x_isub G dB_add_44 ?_
  refine x_top (z := nI n) (by show nI (n + 1) - 1 = nI n; exact nI_pred n) ?_
  exact x_reti G hr hlk rfl dB_add_45 ⟨rfl, rfl⟩
set_option maxHeartbeats 4000000 in
set_option maxRecDepth 100000 in
theorem cB_takeOff {l : Launch} {D : va_G} {cI cZ cJ : ClassId} {ad : Nat → Nat} {σ : xSg} {n b : Nat} {t : Int32} (ht : σ 1 2 = nI n) (hn : n ≤ 8) (hb : b < n) : xCv l D vCl (tyC cI cZ cJ) nwW (wC ad cI cZ cJ) yB_takeOff (.code yB_takeOff bB_takeOff 4 none :: bigW) 1 [.ref (ad 1), .int (nI b), .int t] σ (fun u => u = sst (sst σ 5 b (σ 5 b - (if σ 5 b < t then σ 5 b else t))) 6 b (σ 6 b - (if σ 6 b < t - (if σ 5 b < t then σ 5 b else t) then σ 6 b else t - (if σ 5 b < t then σ 5 b else t)))) := by
  refine xCv.of (cc := bB_takeOff) (nL := 4) (ret := none) rfl (by decide) [.ref (ad 1), .int (nI b), .int t, .null] rfl (Nat.le_of_ble_eq_true rfl) ?_
  intro pp ee ss mm aa bb me cde AA G hr hlk
  refine x_aload_n G 0 dB_takeOff_0 rfl rfl ?_
  refine x_iload_n G 1 dB_takeOff_1 rfl rfl ?_
  refine x_call0V1i G (cB_hasN ht hn (by omega)) 1 rfl rfl (cV G.2.2.2.2.1 wd_258 wd_260 wd_3 wd_49 wd_261 (by decide +kernel) ⟨(Nat.le_of_ble_eq_true rfl), (Nat.le_of_ble_eq_true rfl)⟩) dB_takeOff_2 (Nat.le_of_ble_eq_true rfl) ⟨Nat.zero_le _, Nat.zero_le _⟩ (fun r2 e2 => ?_)
  subst e2
  refine x_if_ne G 9 dB_takeOff_5 (by decide) (fun h5 => ?_) (fun h5 => (by have h5 := bI_eq0.mp h5; omega))
  refine x_iload_n G 2 dB_takeOff_9 rfl rfl ?_
  refine x_aload_n G 0 dB_takeOff_10 rfl rfl ?_
  refine x_get G 1 rfl rfl 0 (by decide) rfl (fun w h => .tail _ (iB_ok w h)) (.tail _ wd_78) rfl dB_takeOff_11 ?_
  refine x_iload_n G 1 dB_takeOff_14 rfl rfl ?_
  refine x_ialdN G 5 0 rfl rfl (by omega) (by decide) dB_takeOff_15 ?_
  refine x_mmin G (.tail _ wd_562) (.tail _ wd_98) (.tail _ wd_51) (.tail _ wd_99) ⟨(Nat.le_of_ble_eq_true rfl), (Nat.le_of_ble_eq_true rfl), Nat.zero_le _, Nat.zero_le _⟩ dB_takeOff_16 ?_
  refine x_istore_n G 3 dB_takeOff_19 rfl (by decide) ?_
  refine x_aload_n G 0 dB_takeOff_20 rfl rfl ?_
  refine x_get G 1 rfl rfl 0 (by decide) rfl (fun w h => .tail _ (iB_ok w h)) (.tail _ wd_78) rfl dB_takeOff_21 ?_
  refine x_iload_n G 1 dB_takeOff_24 rfl rfl ?_
  refine x_dup2 G dB_takeOff_25 rfl rfl ?_
  refine x_ialdN G 5 0 rfl rfl (by omega) (by decide) dB_takeOff_26 ?_
  refine x_iload_n G 3 dB_takeOff_27 rfl rfl ?_
  refine x_isub G dB_takeOff_28 ?_
  refine x_iastN G 5 0 rfl rfl warr_5 (by omega) (by decide) dB_takeOff_29 ?_
  refine x_aload_n G 0 dB_takeOff_30 rfl rfl ?_
  refine x_get G 1 rfl rfl 1 (by decide) rfl (fun w h => .tail _ (iB_ok w h)) (.tail _ wd_80) rfl dB_takeOff_31 ?_
  refine x_iload_n G 1 dB_takeOff_34 rfl rfl ?_
  refine x_dup2 G dB_takeOff_35 rfl rfl ?_
  refine x_ialdN G 6 0 rfl rfl (by omega) (by decide) dB_takeOff_36 ?_
  refine x_iload_n G 2 dB_takeOff_37 rfl rfl ?_
  refine x_iload_n G 3 dB_takeOff_38 rfl rfl ?_
  refine x_isub G dB_takeOff_39 ?_
  refine x_aload_n G 0 dB_takeOff_40 rfl rfl ?_
  refine x_get G 1 rfl rfl 1 (by decide) rfl (fun w h => .tail _ (iB_ok w h)) (.tail _ wd_80) rfl dB_takeOff_41 ?_
  refine x_iload_n G 1 dB_takeOff_44 rfl rfl ?_
  refine x_ialdN G 6 0 rfl rfl (by omega) (by decide) dB_takeOff_45 ?_
  refine x_mmin G (.tail _ wd_562) (.tail _ wd_98) (.tail _ wd_51) (.tail _ wd_99) ⟨(Nat.le_of_ble_eq_true rfl), (Nat.le_of_ble_eq_true rfl), Nat.zero_le _, Nat.zero_le _⟩ dB_takeOff_46 ?_
  refine x_isub G dB_takeOff_49 ?_
  refine x_iastN G 6 0 rfl rfl warr_6 (by omega) (by decide) dB_takeOff_50 ?_
  exact x_retv G hr hlk dB_takeOff_51 rfl
set_option maxHeartbeats 4000000 in
set_option maxRecDepth 100000 in
theorem cK_has {l : Launch} {D : va_G} {cI cZ cJ : ClassId} {ad : Nat → Nat} {σ : xSg} {b : Int32} : xCi0 l D vCl (tyC cI cZ cJ) nwW (wC ad cI cZ cJ σ) yK_has (.code yK_has bK_has 2 (some .boolean) :: bigW) 0 [.ref (ad 2), .int b] (fun r => r = bI (¬ b < 0 ∧ ¬ σ 2 0 ≤ b ∧ ¬ (4 : Int32) ≤ b)) := by
  refine xCi0.of (cc := bK_has) (nL := 2) (ret := (some .boolean)) rfl (by decide) [.ref (ad 2), .int b] rfl (Nat.le_of_ble_eq_true rfl) ?_
  intro pp ee ss mm aa bb me cde AA G hr hlk
  refine x_iload_n G 1 dK_has_0 rfl rfl ?_
  refine x_if_lt G 21 dK_has_1 (by decide) (fun h1 => ?_) (fun h1 => ?_)
  · refine x_iconst G (0) dK_has_21 (by decide) ?_
    exact x_ret0i G hr hlk rfl dK_has_22 (by simp [bI, *])
  · refine x_iload_n G 1 dK_has_4 rfl rfl ?_
    refine x_aload_n G 0 dK_has_5 rfl rfl ?_
    refine x_get G 2 rfl rfl 0 (by decide) rfl (fun w h => .tail _ (iK_ok w h)) (.tail _ wd_110) rfl dK_has_6 ?_
    refine x_icmp_ge G 21 dK_has_9 (by decide) (fun h9 => ?_) (fun h9 => ?_)
    · refine x_iconst G (0) dK_has_21 (by decide) ?_
      exact x_ret0i G hr hlk rfl dK_has_22 (by simp [bI, *])
    · refine x_iload_n G 1 dK_has_12 rfl rfl ?_
      refine x_iconst G (4) dK_has_13 (by decide) ?_
      refine x_icmp_ge G 21 dK_has_14 (by decide) (fun h14 => ?_) (fun h14 => ?_)
      · refine x_iconst G (0) dK_has_21 (by decide) ?_
        exact x_ret0i G hr hlk rfl dK_has_22 (by simp [bI, *])
      · refine x_iconst G (1) dK_has_17 (by decide) ?_
        refine x_goto G 22 dK_has_18 (by decide) ?_
        exact x_ret0i G hr hlk rfl dK_has_22 (by simp [bI, *])
theorem has_nK {t : Int32} {n b : Nat} (ht : t = nI n) (hn : n ≤ 4) (hb : b < 2 ^ 31) : (¬ nI b < 0 ∧ ¬ t ≤ nI b ∧ ¬ (4 : Int32) ≤ nI b) ↔ b < n := by
  subst ht
  rw [show (4 : Int32) = nI 4 from rfl, nI_leI (by omega) hb, nI_leI (by omega) hb]
  have := nI_pos hb
  constructor
  · rintro ⟨-, h1, -⟩; omega
  · intro h; exact ⟨this, by omega, by omega⟩
theorem cK_hasN {l : Launch} {D : va_G} {cI cZ cJ : ClassId} {ad : Nat → Nat} {σ : xSg} {C b : Nat} (ht : σ 2 0 = nI C) (hC : C ≤ 4) (hb : b < 2 ^ 31) : xCi0 l D vCl (tyC cI cZ cJ) nwW (wC ad cI cZ cJ σ) yK_has (.code yK_has bK_has 2 (some .boolean) :: bigW) 0 [.ref (ad 2), .int (nI b)] (fun r => r = bI (b < C)) :=
  cK_has.mono (fun r h => by rw [h]; exact bI_congr (has_nK ht hC hb))
set_option maxHeartbeats 4000000 in
set_option maxRecDepth 100000 in
theorem cK_isOut {l : Launch} {D : va_G} {cI cZ cJ : ClassId} {ad : Nat → Nat} {σ : xSg} {C b : Nat} (ht : σ 2 0 = nI C) (hC : C ≤ 4) (hb : b < 2 ^ 31) : xCi0 l D vCl (tyC cI cZ cJ) nwW (wC ad cI cZ cJ σ) yK_isOut (.code yK_isOut bK_isOut 2 (some .boolean) :: bigW) 1 [.ref (ad 2), .int (nI b)] (fun r => r = bI (¬ (b < C ∧ σ 9 b = 0))) := by
  refine xCi0.of (cc := bK_isOut) (nL := 2) (ret := (some .boolean)) rfl (by decide) [.ref (ad 2), .int (nI b)] rfl (Nat.le_of_ble_eq_true rfl) ?_
  intro pp ee ss mm aa bb me cde AA G hr hlk
  refine x_aload_n G 0 dK_isOut_0 rfl rfl ?_
  refine x_iload_n G 1 dK_isOut_1 rfl rfl ?_
  refine x_call0V1i G (cK_hasN ht hC hb) 2 rfl rfl (cV G.2.2.2.2.1 wd_266 wd_268 wd_5 wd_50 wd_269 (by decide +kernel) ⟨(Nat.le_of_ble_eq_true rfl), (Nat.le_of_ble_eq_true rfl)⟩) dK_isOut_2 (Nat.le_of_ble_eq_true rfl) ⟨Nat.zero_le _, Nat.zero_le _⟩ (fun r2 e2 => ?_)
  subst e2
  refine x_if_eq G 17 dK_isOut_5 (by decide) (fun h5 => ?_) (fun h5 => ?_)
  · have h5 := bI_eq0.mp h5
    refine x_iconst G (1) dK_isOut_17 (by decide) ?_
    refine x_goto G 22 dK_isOut_18 (by decide) ?_
    exact x_ret0i G hr hlk rfl dK_isOut_22 (by simp [bI, *])
  · have h5 := bI_ne0.mp h5
    refine x_aload_n G 0 dK_isOut_8 rfl rfl ?_
    refine x_get G 2 rfl rfl 4 (by decide) rfl (fun w h => .tail _ (iK_ok w h)) (.tail _ wd_115) rfl dK_isOut_9 ?_
    refine x_iload_n G 1 dK_isOut_12 rfl rfl ?_
    refine x_zaldN G 9 1 rfl rfl (by omega) (by decide) dK_isOut_13 ?_
    refine x_if_eq G 21 dK_isOut_14 (by decide) (fun h14 => ?_) (fun h14 => ?_)
    · refine x_iconst G (0) dK_isOut_21 (by decide) ?_
      exact x_ret0i G hr hlk rfl dK_isOut_22 (by simp [bI, *])
    · refine x_iconst G (1) dK_isOut_17 (by decide) ?_
      refine x_goto G 22 dK_isOut_18 (by decide) ?_
      exact x_ret0i G hr hlk rfl dK_isOut_22 (by simp [bI, *])
set_option maxHeartbeats 4000000 in
set_option maxRecDepth 100000 in
theorem cK_putOut {l : Launch} {D : va_G} {cI cZ cJ : ClassId} {ad : Nat → Nat} {σ : xSg} {C b : Nat} (ht : σ 2 0 = nI C) (hC : C ≤ 4) (hb : b < C) : xCv l D vCl (tyC cI cZ cJ) nwW (wC ad cI cZ cJ) yK_putOut (.code yK_putOut bK_putOut 2 none :: bigW) 1 [.ref (ad 2), .int (nI b)] σ (fun u => u = sst σ 9 b 1) := by
  refine xCv.of (cc := bK_putOut) (nL := 2) (ret := none) rfl (by decide) [.ref (ad 2), .int (nI b)] rfl (Nat.le_of_ble_eq_true rfl) ?_
  intro pp ee ss mm aa bb me cde AA G hr hlk
  refine x_aload_n G 0 dK_putOut_0 rfl rfl ?_
  refine x_iload_n G 1 dK_putOut_1 rfl rfl ?_
  refine x_call0V1i G (cK_hasN ht hC (by omega)) 2 rfl rfl (cV G.2.2.2.2.1 wd_266 wd_268 wd_5 wd_50 wd_269 (by decide +kernel) ⟨(Nat.le_of_ble_eq_true rfl), (Nat.le_of_ble_eq_true rfl)⟩) dK_putOut_2 (Nat.le_of_ble_eq_true rfl) ⟨Nat.zero_le _, Nat.zero_le _⟩ (fun r2 e2 => ?_)
  subst e2
  refine x_if_eq G 15 dK_putOut_5 (by decide) (fun h5 => (by have h5 := bI_eq0.mp h5; omega)) (fun h5 => ?_)
  refine x_aload_n G 0 dK_putOut_8 rfl rfl ?_
  refine x_get G 2 rfl rfl 4 (by decide) rfl (fun w h => .tail _ (iK_ok w h)) (.tail _ wd_115) rfl dK_putOut_9 ?_
  refine x_iload_n G 1 dK_putOut_12 rfl rfl ?_
  refine x_iconst G (1) dK_putOut_13 (by decide) ?_
  refine x_zastN G 9 1 rfl rfl rfl warr_9 (by omega) (by decide) dK_putOut_14 ?_
  exact x_retv G hr hlk dK_putOut_15 rfl
set_option maxHeartbeats 4000000 in
set_option maxRecDepth 100000 in
theorem cK_setRate {l : Launch} {D : va_G} {cI cZ cJ : ClassId} {ad : Nat → Nat} {σ : xSg} {C b : Nat} {v t : Int32} (ht : σ 2 0 = nI C) (hC : C ≤ 4) (hb : b < C) : xCv l D vCl (tyC cI cZ cJ) nwW (wC ad cI cZ cJ) yK_setRate (.code yK_setRate bK_setRate 4 none :: bigW) 1 [.ref (ad 2), .int (nI b), .int v, .int t] σ (fun u => u = sst (sst σ 7 b v) 8 b t) := by
  refine xCv.of (cc := bK_setRate) (nL := 4) (ret := none) rfl (by decide) [.ref (ad 2), .int (nI b), .int v, .int t] rfl (Nat.le_of_ble_eq_true rfl) ?_
  intro pp ee ss mm aa bb me cde AA G hr hlk
  refine x_aload_n G 0 dK_setRate_0 rfl rfl ?_
  refine x_iload_n G 1 dK_setRate_1 rfl rfl ?_
  refine x_call0V1i G (cK_hasN ht hC (by omega)) 2 rfl rfl (cV G.2.2.2.2.1 wd_266 wd_268 wd_5 wd_50 wd_269 (by decide +kernel) ⟨(Nat.le_of_ble_eq_true rfl), (Nat.le_of_ble_eq_true rfl)⟩) dK_setRate_2 (Nat.le_of_ble_eq_true rfl) ⟨Nat.zero_le _, Nat.zero_le _⟩ (fun r2 e2 => ?_)
  subst e2
  refine x_if_eq G 22 dK_setRate_5 (by decide) (fun h5 => (by have h5 := bI_eq0.mp h5; omega)) (fun h5 => ?_)
  refine x_aload_n G 0 dK_setRate_8 rfl rfl ?_
  refine x_get G 2 rfl rfl 2 (by decide) rfl (fun w h => .tail _ (iK_ok w h)) (.tail _ wd_113) rfl dK_setRate_9 ?_
  refine x_iload_n G 1 dK_setRate_12 rfl rfl ?_
  refine x_iload_n G 2 dK_setRate_13 rfl rfl ?_
  refine x_iastN G 7 0 rfl rfl warr_7 (by omega) (by decide) dK_setRate_14 ?_
  refine x_aload_n G 0 dK_setRate_15 rfl rfl ?_
  refine x_get G 2 rfl rfl 3 (by decide) rfl (fun w h => .tail _ (iK_ok w h)) (.tail _ wd_114) rfl dK_setRate_16 ?_
  refine x_iload_n G 1 dK_setRate_19 rfl rfl ?_
  refine x_iload_n G 3 dK_setRate_20 rfl rfl ?_
  refine x_iastN G 8 0 rfl rfl warr_8 (by omega) (by decide) dK_setRate_21 ?_
  exact x_retv G hr hlk dK_setRate_22 rfl
/-- how many of the cranes below k may work -/
def abS (ou : Nat → Bool) : Nat → Nat
  | 0 => 0
  | k + 1 => abS ou k + (if ou k = true then 0 else 1)
theorem abS_le {ou : Nat → Bool} : ∀ (k : Nat), abS ou k ≤ k
  | 0 => Nat.le_refl _
  | k + 1 => by
    have := abS_le (ou := ou) k
    have e : abS ou (k + 1) = abS ou k + (if ou k = true then 0 else 1) := rfl
    rw [e]
    split <;> omega
theorem PK.out {σ : xSg} {C : Nat} {mo mi : Nat → Nat} {ou : Nat → Bool} (h : PK σ C mo mi ou) {c : Nat} (hc : c < C) : (¬ (c < C ∧ σ 9 c = 0)) ↔ ou c = true := by
  obtain ⟨h1, h2, h3, h4, h5⟩ := h
  rw [(h4 c (by omega)).2.2, bI_eq0]
  simp [hc]
set_option maxHeartbeats 4000000 in
set_option maxRecDepth 100000 in
theorem cK_able {l : Launch} {D : va_G} {cI cZ cJ : ClassId} {ad : Nat → Nat} {σ : xSg} {C : Nat} {mo mi : Nat → Nat} {ou : Nat → Bool} (hK : PK σ C mo mi ou) : xCi0 l D vCl (tyC cI cZ cJ) nwW (wC ad cI cZ cJ σ) yK_able (.code yK_able bK_able 3 (some .int) :: bigW) 2 [.ref (ad 2)] (fun r => r = nI (abS ou C)) := by
  refine xCi0.of (cc := bK_able) (nL := 3) (ret := (some .int)) rfl (by decide) [.ref (ad 2), .null, .null] rfl (Nat.le_of_ble_eq_true rfl) ?_
  intro pp ee ss mm aa bb me cde AA G hr hlk
  obtain ⟨hC1, hC4, hC, hrt, hbd⟩ := id hK
  have loop : ∀ (j k : Nat), k + j = C → xJ pp l ee { frames := 2, cells := 0, slots := 0, locals := 40 * 2 } ss mm aa bb me cde 0 0 (MQ bb (vp_Si (fun r => r = nI (abS ou C))) aa ss 0 0 (fun _ => False)) D vCl AA 3 (fun H locs => H = ss.heap ∧ locs = []) (wC ad cI cZ cJ σ) [.ref (ad 2), .int (nI (abS ou k)), .int (nI k)] 4 [] := by
    intro j
    induction j with
    | zero =>
      intro k hk
      refine x_iload_n G 2 dK_able_4 rfl rfl ?_
      refine x_aload_n G 0 dK_able_5 rfl rfl ?_
      refine x_get G 2 rfl rfl 0 (by decide) rfl (fun w h => .tail _ (iK_ok w h)) (.tail _ wd_110) rfl dK_able_6 ?_
      refine x_icmp_ge G 29 dK_able_9 (by decide) (fun h9 => ?_) (fun h9 => (by rw [hC] at h9; exact absurd (nI_le (by omega) (by omega)) h9))
      refine x_iload_n G 1 dK_able_29 rfl rfl ?_
      exact x_ret0i G hr hlk rfl dK_able_30 (by rw [show k = C by omega])
    | succ j ih =>
      intro k hk
      have ho := hK.out (show k < C by omega)
      refine x_iload_n G 2 dK_able_4 rfl rfl ?_
      refine x_aload_n G 0 dK_able_5 rfl rfl ?_
      refine x_get G 2 rfl rfl 0 (by decide) rfl (fun w h => .tail _ (iK_ok w h)) (.tail _ wd_110) rfl dK_able_6 ?_
      refine x_icmp_ge G 29 dK_able_9 (by decide) (fun h9 => (by rw [hC] at h9; exact absurd h9 (nI_ge (by omega) (by omega)))) (fun h9 => ?_)
      refine x_aload_n G 0 dK_able_12 rfl rfl ?_
      refine x_iload_n G 2 dK_able_13 rfl rfl ?_
      refine x_call0V1i G (cK_isOut hC hC4 (by omega)) 2 rfl rfl (cV G.2.2.2.2.1 wd_342 wd_264 wd_4 wd_50 wd_265 (by decide +kernel) ⟨(Nat.le_of_ble_eq_true rfl), (Nat.le_of_ble_eq_true rfl)⟩) dK_able_14 (Nat.le_of_ble_eq_true rfl) ⟨Nat.zero_le _, Nat.zero_le _⟩ (fun r14 e14 => ?_)
      subst e14
      refine x_if_ne G 23 dK_able_17 (by decide) (fun h17 => ?_) (fun h17 => ?_)
      · have h17 := bI_ne0.mp h17
        have e : abS ou (k + 1) = abS ou k := by simp [abS, ho.mp h17]
        refine x_iinc G (nI (k + 1)) dK_able_23 rfl (nI_1 k) (by decide) ?_
        refine x_goto G 4 dK_able_26 (by decide) ?_
        exact x_eq rfl (by rw [← e]; rfl) rfl rfl (ih (k + 1) (by omega))
      · have h17 := bI_eq0.mp h17
        have ho' : ou k = false := by cases h : ou k with | true => exact absurd (ho.mpr h) h17 | false => rfl
        have e : abS ou (k + 1) = abS ou k + 1 := by simp [abS, ho']
        refine x_iinc G (nI (abS ou k + 1)) dK_able_20 rfl (nI_1 _) (by decide) ?_
        refine x_iinc G (nI (k + 1)) dK_able_23 rfl (nI_1 k) (by decide) ?_
        refine x_goto G 4 dK_able_26 (by decide) ?_
        exact x_eq rfl (by rw [← e]; rfl) rfl rfl (ih (k + 1) (by omega))
  refine x_iconst G (0) dK_able_0 (by decide) ?_
  refine x_istore_n G 1 dK_able_1 rfl (by decide) ?_
  refine x_iconst G (0) dK_able_2 (by decide) ?_
  refine x_istore_n G 2 dK_able_3 rfl (by decide) ?_
  exact loop C 0 (by omega)
set_option maxHeartbeats 4000000 in
set_option maxRecDepth 100000 in
theorem cK_timeFor {l : Launch} {D : va_G} {cI cZ cJ : ClassId} {ad : Nat → Nat} {σ : xSg} {C : Nat} {mo mi : Nat → Nat} {ou : Nat → Bool} (hK : PK σ C mo mi ou) {b v : Nat} (hb : b < C) (hv : v ≤ 100000) : xCi0 l D vCl (tyC cI cZ cJ) nwW (wC ad cI cZ cJ σ) yK_timeFor (.code yK_timeFor bK_timeFor 3 (some .int) :: bigW) 1 [.ref (ad 2), .int (nI b), .int (nI v)] (fun r => r = nI (cdv (v * mi b) (mo b))) := by
  refine xCi0.of (cc := bK_timeFor) (nL := 3) (ret := (some .int)) rfl (by decide) [.ref (ad 2), .int (nI b), .int (nI v)] rfl (Nat.le_of_ble_eq_true rfl) ?_
  intro pp ee ss mm aa bb me cde AA G hr hlk
  obtain ⟨hC1, hC4, hC, hrt, hbd⟩ := id hK
  obtain ⟨h7, h8, h9⟩ := hrt b (by omega)
  obtain ⟨hm1, hm2, hi1, hi2⟩ := hbd b
  have hvm : v * mi b ≤ 100000 * 100 := Nat.mul_le_mul hv hi2
  refine x_aload_n G 0 dK_timeFor_0 rfl rfl ?_
  refine x_iload_n G 1 dK_timeFor_1 rfl rfl ?_
  refine x_call0V1i G (cK_hasN hC hC4 (by omega)) 2 rfl rfl (cV G.2.2.2.2.1 wd_266 wd_268 wd_5 wd_50 wd_269 (by decide +kernel) ⟨(Nat.le_of_ble_eq_true rfl), (Nat.le_of_ble_eq_true rfl)⟩) dK_timeFor_2 (Nat.le_of_ble_eq_true rfl) ⟨Nat.zero_le _, Nat.zero_le _⟩ (fun r2 e2 => ?_)
  subst e2
  refine x_if_eq G 32 dK_timeFor_5 (by decide) (fun h5 => (by have h5 := bI_eq0.mp h5; omega)) (fun h5 => ?_)
  refine x_iload_n G 2 dK_timeFor_8 rfl rfl ?_
  refine x_i2l G dK_timeFor_9 ?_
  refine x_aload_n G 0 dK_timeFor_10 rfl rfl ?_
  refine x_get G 2 rfl rfl 3 (by decide) rfl (fun w h => .tail _ (iK_ok w h)) (.tail _ wd_114) rfl dK_timeFor_11 ?_
  refine x_iload_n G 1 dK_timeFor_14 rfl rfl ?_
  refine x_ialdN G 8 0 rfl rfl (by omega) (by decide) dK_timeFor_15 ?_
  refine x_i2l G dK_timeFor_16 ?_
  refine x_lmul G dK_timeFor_17 ?_
  refine x_topl (z := lN (v * mi b)) (by rw [h8, nI_l (by omega), nI_l (by omega), lN_mul]) ?_
  refine x_aload_n G 0 dK_timeFor_18 rfl rfl ?_
  refine x_get G 2 rfl rfl 2 (by decide) rfl (fun w h => .tail _ (iK_ok w h)) (.tail _ wd_113) rfl dK_timeFor_19 ?_
  refine x_iload_n G 1 dK_timeFor_22 rfl rfl ?_
  refine x_ialdN G 7 0 rfl rfl (by omega) (by decide) dK_timeFor_23 ?_
  refine x_i2l G dK_timeFor_24 ?_
  refine x_topl (z := lN (mo b)) (by rw [h7, nI_l (by omega)]) ?_
  refine x_call0SN2l G (cP_dividedUp hm1 (by omega)) (cSN G.2.2.2.2.1 G.2.2.2.2.2.2.1 nd_308 wd_309 wd_48 wd_310 (by decide +kernel) ⟨(Nat.le_of_ble_eq_true rfl), (Nat.le_of_ble_eq_true rfl)⟩) dK_timeFor_25 (Nat.le_of_ble_eq_true rfl) ⟨Nat.zero_le _, Nat.zero_le _⟩ (fun r25 e25 => ?_)
  subst e25
  refine x_l2i G dK_timeFor_28 ?_
  refine x_goto G 33 dK_timeFor_29 (by decide) ?_
  exact x_ret0i G hr hlk rfl dK_timeFor_33 (lN_i _)
set_option maxHeartbeats 4000000 in
set_option maxRecDepth 100000 in
theorem cK_movesIn {l : Launch} {D : va_G} {cI cZ cJ : ClassId} {ad : Nat → Nat} {σ : xSg} {C : Nat} {mo mi : Nat → Nat} {ou : Nat → Bool} (hK : PK σ C mo mi ou) {b t : Nat} (hb : b < C) (htm : t ≤ 1000000) : xCi0 l D vCl (tyC cI cZ cJ) nwW (wC ad cI cZ cJ σ) yK_movesIn (.code yK_movesIn bK_movesIn 3 (some .int) :: bigW) 1 [.ref (ad 2), .int (nI b), .int (nI t)] (fun r => r = nI (t * mo b / mi b)) := by
  refine xCi0.of (cc := bK_movesIn) (nL := 3) (ret := (some .int)) rfl (by decide) [.ref (ad 2), .int (nI b), .int (nI t)] rfl (Nat.le_of_ble_eq_true rfl) ?_
  intro pp ee ss mm aa bb me cde AA G hr hlk
  obtain ⟨hC1, hC4, hC, hrt, hbd⟩ := id hK
  obtain ⟨h7, h8, h9⟩ := hrt b (by omega)
  obtain ⟨hm1, hm2, hi1, hi2⟩ := hbd b
  have hvm : t * mo b ≤ 1000000 * 100 := Nat.mul_le_mul htm hm2
  refine x_aload_n G 0 dK_movesIn_0 rfl rfl ?_
  refine x_iload_n G 1 dK_movesIn_1 rfl rfl ?_
  refine x_call0V1i G (cK_hasN hC hC4 (by omega)) 2 rfl rfl (cV G.2.2.2.2.1 wd_266 wd_268 wd_5 wd_50 wd_269 (by decide +kernel) ⟨(Nat.le_of_ble_eq_true rfl), (Nat.le_of_ble_eq_true rfl)⟩) dK_movesIn_2 (Nat.le_of_ble_eq_true rfl) ⟨Nat.zero_le _, Nat.zero_le _⟩ (fun r2 e2 => ?_)
  subst e2
  refine x_if_eq G 17 dK_movesIn_5 (by decide) (fun h5 => (by have h5 := bI_eq0.mp h5; omega)) (fun h5 => ?_)
  refine x_aload_n G 0 dK_movesIn_8 rfl rfl ?_
  refine x_get G 2 rfl rfl 3 (by decide) rfl (fun w h => .tail _ (iK_ok w h)) (.tail _ wd_114) rfl dK_movesIn_9 ?_
  refine x_iload_n G 1 dK_movesIn_12 rfl rfl ?_
  refine x_ialdN G 8 0 rfl rfl (by omega) (by decide) dK_movesIn_13 ?_
  refine x_if_gt G 19 dK_movesIn_14 (by decide) (fun h14 => ?_) (fun h14 => (by rw [h8, show (0 : Int32) = nI 0 from rfl, nI_ltI (by omega) (by omega)] at h14; omega))
  refine x_iload_n G 2 dK_movesIn_19 rfl rfl ?_
  refine x_i2l G dK_movesIn_20 ?_
  refine x_aload_n G 0 dK_movesIn_21 rfl rfl ?_
  refine x_get G 2 rfl rfl 2 (by decide) rfl (fun w h => .tail _ (iK_ok w h)) (.tail _ wd_113) rfl dK_movesIn_22 ?_
  refine x_iload_n G 1 dK_movesIn_25 rfl rfl ?_
  refine x_ialdN G 7 0 rfl rfl (by omega) (by decide) dK_movesIn_26 ?_
  refine x_i2l G dK_movesIn_27 ?_
  refine x_lmul G dK_movesIn_28 ?_
  refine x_topl (z := lN (t * mo b)) (by rw [h7, nI_l (by omega), nI_l (by omega), lN_mul]) ?_
  refine x_aload_n G 0 dK_movesIn_29 rfl rfl ?_
  refine x_get G 2 rfl rfl 3 (by decide) rfl (fun w h => .tail _ (iK_ok w h)) (.tail _ wd_114) rfl dK_movesIn_30 ?_
  refine x_iload_n G 1 dK_movesIn_33 rfl rfl ?_
  refine x_ialdN G 8 0 rfl rfl (by omega) (by decide) dK_movesIn_34 ?_
  refine x_i2l G dK_movesIn_35 ?_
  refine x_topl (z := lN (mi b)) (by rw [h8, nI_l (by omega)]) ?_
  refine x_ldiv G dK_movesIn_36 (fun h => by rw [show (0 : Int64) = lN 0 from rfl, pk_lEQ (by omega) (by decide)] at h; omega) ?_
  refine x_topl (pk_lDiv (by omega) hi1 (by omega)) ?_
  refine x_l2i G dK_movesIn_37 ?_
  exact x_ret0i G hr hlk rfl dK_movesIn_38 (lN_i _)
/-- the least time that a crane below k may need for v moves -/
def ltS (ou : Nat → Bool) (mo mi : Nat → Nat) (v : Nat) : Nat → Nat
  | 0 => 1000000
  | k + 1 => if ou k = true then ltS ou mo mi v k else min (ltS ou mo mi v k) (cdv (v * mi k) (mo k))
theorem ltS_le {ou : Nat → Bool} {mo mi : Nat → Nat} {v : Nat} : ∀ k, ltS ou mo mi v k ≤ 1000000
  | 0 => Nat.le_refl _
  | k + 1 => by
    have := ltS_le (ou := ou) (mo := mo) (mi := mi) (v := v) k
    unfold ltS
    split
    · exact this
    · exact Nat.le_trans (Nat.min_le_left _ _) this
theorem nI_min {a b : Nat} (ha : a < 2 ^ 31) (hb : b < 2 ^ 31) : (if nI b < nI a then nI b else nI a) = nI (min a b) := by
  by_cases h : b < a
  · rw [if_pos (nI_lt h ha), Nat.min_eq_right (by omega)]
  · rw [if_neg (nI_nlt (by omega) hb), Nat.min_eq_left (by omega)]
theorem nI_max {a b : Nat} (ha : a < 2 ^ 31) (hb : b < 2 ^ 31) : (if nI a < nI b then nI b else nI a) = nI (max a b) := by
  by_cases h : a < b
  · rw [if_pos (nI_lt h hb), Nat.max_eq_right (by omega)]
  · rw [if_neg (nI_nlt (by omega) ha), Nat.max_eq_left (by omega)]
set_option maxHeartbeats 4000000 in
set_option maxRecDepth 100000 in
theorem cK_leastTime {l : Launch} {D : va_G} {cI cZ cJ : ClassId} {ad : Nat → Nat} {σ : xSg} {C : Nat} {mo mi : Nat → Nat} {ou : Nat → Bool} (hK : PK σ C mo mi ou) {v : Nat} (hv : v ≤ 100000) : xCi0 l D vCl (tyC cI cZ cJ) nwW (wC ad cI cZ cJ σ) yK_leastTime (.code yK_leastTime bK_leastTime 4 (some .int) :: bigW) 2 [.ref (ad 2), .int (nI v)] (fun r => r = nI (ltS ou mo mi v C)) := by
  refine xCi0.of (cc := bK_leastTime) (nL := 4) (ret := (some .int)) rfl (by decide) [.ref (ad 2), .int (nI v), .null, .null] rfl (Nat.le_of_ble_eq_true rfl) ?_
  intro pp ee ss mm aa bb me cde AA G hr hlk
  obtain ⟨hC1, hC4, hC, hrt, hbd⟩ := id hK
  have loop : ∀ (j k : Nat), k + j = C → xJ pp l ee { frames := 2, cells := 0, slots := 0, locals := 40 * 2 } ss mm aa bb me cde 0 0 (MQ bb (vp_Si (fun r => r = nI (ltS ou mo mi v C))) aa ss 0 0 (fun _ => False)) D vCl AA 4 (fun H locs => H = ss.heap ∧ locs = []) (wC ad cI cZ cJ σ) [.ref (ad 2), .int (nI v), .int (nI (ltS ou mo mi v k)), .int (nI k)] 5 [] := by
    intro j
    induction j with
    | zero =>
      intro k hk
      refine x_iload_n G 3 dK_leastTime_5 rfl rfl ?_
      refine x_aload_n G 0 dK_leastTime_6 rfl rfl ?_
      refine x_get G 2 rfl rfl 0 (by decide) rfl (fun w h => .tail _ (iK_ok w h)) (.tail _ wd_110) rfl dK_leastTime_7 ?_
      refine x_icmp_ge G 38 dK_leastTime_10 (by decide) (fun h10 => ?_) (fun h10 => (by rw [hC] at h10; exact absurd (nI_le (by omega) (by omega)) h10))
      refine x_iload_n G 2 dK_leastTime_38 rfl rfl ?_
      exact x_ret0i G hr hlk rfl dK_leastTime_39 (by rw [show k = C by omega])
    | succ j ih =>
      intro k hk
      have ho := hK.out (show k < C by omega)
      have hl := ltS_le (ou := ou) (mo := mo) (mi := mi) (v := v) k
      have hvm : v * mi k ≤ 100000 * 100 := Nat.mul_le_mul hv (hbd k).2.2.2
      have hcd := cdv_le (a := v * mi k) (hbd k).1
      refine x_iload_n G 3 dK_leastTime_5 rfl rfl ?_
      refine x_aload_n G 0 dK_leastTime_6 rfl rfl ?_
      refine x_get G 2 rfl rfl 0 (by decide) rfl (fun w h => .tail _ (iK_ok w h)) (.tail _ wd_110) rfl dK_leastTime_7 ?_
      refine x_icmp_ge G 38 dK_leastTime_10 (by decide) (fun h10 => (by rw [hC] at h10; exact absurd h10 (nI_ge (by omega) (by omega)))) (fun h10 => ?_)
      refine x_aload_n G 0 dK_leastTime_13 rfl rfl ?_
      refine x_iload_n G 3 dK_leastTime_14 rfl rfl ?_
      refine x_call0V1i G (cK_isOut hC hC4 (by omega)) 2 rfl rfl (cV G.2.2.2.2.1 wd_342 wd_264 wd_4 wd_50 wd_265 (by decide +kernel) ⟨(Nat.le_of_ble_eq_true rfl), (Nat.le_of_ble_eq_true rfl)⟩) dK_leastTime_15 (Nat.le_of_ble_eq_true rfl) ⟨Nat.zero_le _, Nat.zero_le _⟩ (fun r15 e15 => ?_)
      subst e15
      refine x_if_ne G 32 dK_leastTime_18 (by decide) (fun h18 => ?_) (fun h18 => ?_)
      · have h18 := bI_ne0.mp h18
        have e : ltS ou mo mi v (k + 1) = ltS ou mo mi v k := by simp [ltS, ho.mp h18]
        refine x_iinc G (nI (k + 1)) dK_leastTime_32 rfl (nI_1 k) (by decide) ?_
        refine x_goto G 5 dK_leastTime_35 (by decide) ?_
        exact x_eq rfl (by rw [← e]; rfl) rfl rfl (ih (k + 1) (by omega))
      · have h18 := bI_eq0.mp h18
        have ho' : ou k = false := by cases h : ou k with | true => exact absurd (ho.mpr h) h18 | false => rfl
        have e : ltS ou mo mi v (k + 1) = min (ltS ou mo mi v k) (cdv (v * mi k) (mo k)) := by simp [ltS, ho']
        refine x_iload_n G 2 dK_leastTime_21 rfl rfl ?_
        refine x_aload_n G 0 dK_leastTime_22 rfl rfl ?_
        refine x_iload_n G 3 dK_leastTime_23 rfl rfl ?_
        refine x_iload_n G 1 dK_leastTime_24 rfl rfl ?_
        refine x_call0V2i G (cK_timeFor hK (show k < C by omega) hv) 2 rfl rfl (cV G.2.2.2.2.1 wd_358 wd_306 wd_13 wd_50 wd_307 (by decide +kernel) ⟨(Nat.le_of_ble_eq_true rfl), (Nat.le_of_ble_eq_true rfl)⟩) dK_leastTime_25 (Nat.le_of_ble_eq_true rfl) ⟨Nat.zero_le _, Nat.zero_le _⟩ (fun r25 e25 => ?_)
        subst e25
        refine x_mmin G (.tail _ wd_359) (.tail _ wd_98) (.tail _ wd_51) (.tail _ wd_99) ⟨(Nat.le_of_ble_eq_true rfl), (Nat.le_of_ble_eq_true rfl), Nat.zero_le _, Nat.zero_le _⟩ dK_leastTime_28 ?_
        refine x_top (nI_min (by omega) (by omega)) ?_
        refine x_istore_n G 2 dK_leastTime_31 rfl (by decide) ?_
        refine x_iinc G (nI (k + 1)) dK_leastTime_32 rfl (nI_1 k) (by decide) ?_
        refine x_goto G 5 dK_leastTime_35 (by decide) ?_
        exact x_eq rfl (by rw [← e]; rfl) rfl rfl (ih (k + 1) (by omega))
  refine x_ldc G 1000000 dK_leastTime_0 (by decide +kernel) ?_
  refine x_istore_n G 2 dK_leastTime_2 rfl (by decide) ?_
  refine x_iconst G (0) dK_leastTime_3 (by decide) ?_
  refine x_istore_n G 3 dK_leastTime_4 rfl (by decide) ?_
  exact loop C 0 (by omega)
theorem abv_pos {ab : Nat → Bool} {mo mi : Nat → Nat} (h : ∀ c, 0 < mi c) (ho : ∀ c, 0 < mo c) : ∀ {k c : Nat}, c < k → ab c = true → 0 < abv ab mo mi k
  | 0, c, hc, _ => by omega
  | k + 1, c, hc, ha => by
    unfold abv
    by_cases hk : ab k = true
    · rw [if_pos hk]
      have := Nat.mul_pos (ho k) (prM_pos (ab := ab) h k)
      omega
    · rw [if_neg hk]
      rcases (show c < k ∨ c = k by omega) with q | q
      · exact abv_pos h ho q ha
      · rw [q] at ha; exact absurd ha hk
set_option maxHeartbeats 4000000 in
set_option maxRecDepth 100000 in
theorem cK_timeTogether {l : Launch} {D : va_G} {cI cZ cJ : ClassId} {ad : Nat → Nat} {σ : xSg} {C : Nat} {mo mi : Nat → Nat} {ou : Nat → Bool} (hK : PK σ C mo mi ou) {v : Nat} (hv : v ≤ 10000) (hab : ∃ c, c < C ∧ ou c = false) : xCi0 l D vCl (tyC cI cZ cJ) nwW (wC ad cI cZ cJ σ) yK_timeTogether (.code yK_timeTogether bK_timeTogether 7 (some .int) :: bigW) 2 [.ref (ad 2), .int (nI v)] (fun r => r = nI (cdv (v * prM (fun c => !ou c) mi C) (abv (fun c => !ou c) mo mi C))) := by
  refine xCi0.of (cc := bK_timeTogether) (nL := 7) (ret := (some .int)) rfl (by decide) [.ref (ad 2), .int (nI v), .null, .null, .null, .null, .null] rfl (Nat.le_of_ble_eq_true rfl) ?_
  intro pp ee ss mm aa bb me cde AA G hr hlk
  obtain ⟨hC1, hC4, hC, hrt, hbd⟩ := id hK
  have hp4 : ∀ k, k ≤ 4 → prM (fun c => !ou c) mi k ≤ 100000000 := fun k hk => Nat.le_trans (prM_le (fun c => (hbd c).2.2.2) k) (Nat.le_trans (Nat.pow_le_pow_right (by decide) hk) (by decide))
  have ha4 : ∀ k, k ≤ 4 → abv (fun c => !ou c) mo mi k ≤ 400000000 := fun k hk => Nat.le_trans (abv_le (fun c => (hbd c).2.2.2) (fun c => (hbd c).2.1) k) (Nat.le_trans (Nat.mul_le_mul hk (Nat.pow_le_pow_right (by decide) hk)) (by decide))
  have hpos : 0 < abv (fun c => !ou c) mo mi C := by obtain ⟨c0, q1, q2⟩ := hab; exact abv_pos (fun c => (hbd c).2.2.1) (fun c => (hbd c).1) q1 (by simp [q2])
  have loop : ∀ (j k : Nat), k + j = C → xJ pp l ee { frames := 2, cells := 0, slots := 0, locals := 40 * 2 } ss mm aa bb me cde 0 0 (MQ bb (vp_Si (fun r => r = nI (cdv (v * prM (fun c => !ou c) mi C) (abv (fun c => !ou c) mo mi C)))) aa ss 0 0 (fun _ => False)) D vCl AA 7 (fun H locs => H = ss.heap ∧ locs = []) (wC ad cI cZ cJ σ) [.ref (ad 2), .int (nI v), .long (lN (abv (fun c => !ou c) mo mi k)), .null, .long (lN (prM (fun c => !ou c) mi k)), .null, .int (nI k)] 8 [] := by
    intro j
    induction j with
    | zero =>
      intro k hk
      have hk : k = C := by omega
      subst hk
      have q1 := hp4 k hC4
      have q2 := ha4 k hC4
      have q3 : v * prM (fun c => !ou c) mi k ≤ 10000 * 100000000 := Nat.mul_le_mul hv q1
      refine x_iload G dK_timeTogether_8 rfl ?_
      refine x_aload_n G 0 dK_timeTogether_10 rfl rfl ?_
      refine x_get G 2 rfl rfl 0 (by decide) rfl (fun w h => .tail _ (iK_ok w h)) (.tail _ wd_110) rfl dK_timeTogether_11 ?_
      refine x_icmp_ge G 68 dK_timeTogether_14 (by decide) (fun h14 => ?_) (fun h14 => (by rw [hC] at h14; exact absurd (nI_le (by omega) (by omega)) h14))
      refine x_iload_n G 1 dK_timeTogether_68 rfl rfl ?_
      refine x_i2l G dK_timeTogether_69 ?_
      refine x_lload G dK_timeTogether_70 rfl ?_
      refine x_lmul G dK_timeTogether_72 ?_
      refine x_topl (z := lN (v * prM (fun c => !ou c) mi k)) (by rw [nI_l (by omega), lN_mul]) ?_
      refine x_lload_n G 2 dK_timeTogether_73 rfl rfl ?_
      refine x_call0SN2l G (cP_dividedUp hpos (by omega)) (cSN G.2.2.2.2.1 G.2.2.2.2.2.2.1 nd_308 wd_309 wd_48 wd_310 (by decide +kernel) ⟨(Nat.le_of_ble_eq_true rfl), (Nat.le_of_ble_eq_true rfl)⟩) dK_timeTogether_74 (Nat.le_of_ble_eq_true rfl) ⟨Nat.zero_le _, Nat.zero_le _⟩ (fun r74 e74 => ?_)
      subst e74
      refine x_l2i G dK_timeTogether_77 ?_
      exact x_ret0i G hr hlk rfl dK_timeTogether_78 (lN_i _)
    | succ j ih =>
      intro k hk
      have ho := hK.out (show k < C by omega)
      obtain ⟨h7, h8, h9⟩ := hrt k (by omega)
      obtain ⟨hm1, hm2, hi1, hi2⟩ := hbd k
      refine x_iload G dK_timeTogether_8 rfl ?_
      refine x_aload_n G 0 dK_timeTogether_10 rfl rfl ?_
      refine x_get G 2 rfl rfl 0 (by decide) rfl (fun w h => .tail _ (iK_ok w h)) (.tail _ wd_110) rfl dK_timeTogether_11 ?_
      refine x_icmp_ge G 68 dK_timeTogether_14 (by decide) (fun h14 => (by rw [hC] at h14; exact absurd h14 (nI_ge (by omega) (by omega)))) (fun h14 => ?_)
      refine x_aload_n G 0 dK_timeTogether_17 rfl rfl ?_
      refine x_iload G dK_timeTogether_18 rfl ?_
      refine x_call0V1i G (cK_isOut hC hC4 (by omega)) 2 rfl rfl (cV G.2.2.2.2.1 wd_342 wd_264 wd_4 wd_50 wd_265 (by decide +kernel) ⟨(Nat.le_of_ble_eq_true rfl), (Nat.le_of_ble_eq_true rfl)⟩) dK_timeTogether_20 (Nat.le_of_ble_eq_true rfl) ⟨Nat.zero_le _, Nat.zero_le _⟩ (fun r20 e20 => ?_)
      subst e20
      refine x_if_ne G 62 dK_timeTogether_23 (by decide) (fun h23 => ?_) (fun h23 => ?_)
      · have h23 := bI_ne0.mp h23
        have e1 : abv (fun c => !ou c) mo mi (k + 1) = abv (fun c => !ou c) mo mi k := by simp [abv, ho.mp h23]
        have e2 : prM (fun c => !ou c) mi (k + 1) = prM (fun c => !ou c) mi k := by simp [prM, ho.mp h23]
        refine x_iinc G (nI (k + 1)) dK_timeTogether_62 rfl (nI_1 k) (by decide) ?_
        refine x_goto G 8 dK_timeTogether_65 (by decide) ?_
        first | exact ih (k + 1) (by omega) | exact x_eq rfl (by rw [← e1, ← e2]; rfl) rfl rfl (ih (k + 1) (by omega))
      · have h23 := bI_eq0.mp h23
        have ho' : ou k = false := by cases h : ou k with | true => exact absurd (ho.mpr h) h23 | false => rfl
        have e1 : abv (fun c => !ou c) mo mi (k + 1) = abv (fun c => !ou c) mo mi k * mi k + mo k * prM (fun c => !ou c) mi k := by simp [abv, ho']
        have e2 : prM (fun c => !ou c) mi (k + 1) = prM (fun c => !ou c) mi k * mi k := by simp [prM, ho']
        refine x_lload_n G 2 dK_timeTogether_26 rfl rfl ?_
        refine x_aload_n G 0 dK_timeTogether_27 rfl rfl ?_
        refine x_get G 2 rfl rfl 3 (by decide) rfl (fun w h => .tail _ (iK_ok w h)) (.tail _ wd_114) rfl dK_timeTogether_28 ?_
        refine x_iload G dK_timeTogether_31 rfl ?_
        refine x_ialdN G 8 0 rfl rfl (by omega) (by decide) dK_timeTogether_33 ?_
        refine x_i2l G dK_timeTogether_34 ?_
        refine x_lmul G dK_timeTogether_35 ?_
        refine x_aload_n G 0 dK_timeTogether_36 rfl rfl ?_
        refine x_get G 2 rfl rfl 2 (by decide) rfl (fun w h => .tail _ (iK_ok w h)) (.tail _ wd_113) rfl dK_timeTogether_37 ?_
        refine x_iload G dK_timeTogether_40 rfl ?_
        refine x_ialdN G 7 0 rfl rfl (by omega) (by decide) dK_timeTogether_42 ?_
        refine x_i2l G dK_timeTogether_43 ?_
        refine x_lload G dK_timeTogether_44 rfl ?_
        refine x_lmul G dK_timeTogether_46 ?_
        refine x_ladd G dK_timeTogether_47 ?_
        refine x_topl (by rw [h7, h8, nI_l (by omega), nI_l (by omega), lN_mul, lN_mul, lN_add, ← e1]) ?_
        refine x_lstore_n G 2 dK_timeTogether_48 rfl (by decide) ?_
        refine x_lload G dK_timeTogether_49 rfl ?_
        refine x_aload_n G 0 dK_timeTogether_51 rfl rfl ?_
        refine x_get G 2 rfl rfl 3 (by decide) rfl (fun w h => .tail _ (iK_ok w h)) (.tail _ wd_114) rfl dK_timeTogether_52 ?_
        refine x_iload G dK_timeTogether_55 rfl ?_
        refine x_ialdN G 8 0 rfl rfl (by omega) (by decide) dK_timeTogether_57 ?_
        refine x_i2l G dK_timeTogether_58 ?_
        refine x_lmul G dK_timeTogether_59 ?_
        refine x_topl (by rw [h8, nI_l (by omega), lN_mul, ← e2]) ?_
        refine x_lstore G dK_timeTogether_60 (by decide) ?_
        refine x_iinc G (nI (k + 1)) dK_timeTogether_62 rfl (nI_1 k) (by decide) ?_
        refine x_goto G 8 dK_timeTogether_65 (by decide) ?_
        first | exact ih (k + 1) (by omega) | exact x_eq rfl (by rw [← e1, ← e2]; rfl) rfl rfl (ih (k + 1) (by omega))
  refine x_lconst G 0 dK_timeTogether_0 (by decide) ?_
  refine x_lstore_n G 2 dK_timeTogether_1 rfl (by decide) ?_
  refine x_lconst G 1 dK_timeTogether_2 (by decide) ?_
  refine x_lstore G dK_timeTogether_3 (by decide) ?_
  refine x_iconst G (0) dK_timeTogether_5 (by decide) ?_
  refine x_istore G dK_timeTogether_6 (by decide) ?_
  exact loop C 0 (by omega)
end
section
/-! Arrays.fill over int[], rows of the grid, Timetable (first part) -/
def yJ_fill : MethodName := ⟨"java/util/Arrays", "fill", "([II)V"⟩
abbrev bJ_fill : ByteArray := prog_18_method_103_code
theorem dJ_fill_0 : decode bJ_fill 0 = .ok (.iconst 0, 1) := by decide +kernel
theorem dJ_fill_1 : decode bJ_fill 1 = .ok (.istore_n 2, 1) := by decide +kernel
theorem dJ_fill_2 : decode bJ_fill 2 = .ok (.aload_n 0, 1) := by decide +kernel
theorem dJ_fill_3 : decode bJ_fill 3 = .ok (.arraylength, 1) := by decide +kernel
theorem dJ_fill_4 : decode bJ_fill 4 = .ok (.istore_n 3, 1) := by decide +kernel
theorem dJ_fill_5 : decode bJ_fill 5 = .ok (.iload_n 2, 1) := by decide +kernel
theorem dJ_fill_6 : decode bJ_fill 6 = .ok (.iload_n 3, 1) := by decide +kernel
theorem dJ_fill_7 : decode bJ_fill 7 = .ok (.if_icmp .ge 13, 3) := by decide +kernel
theorem dJ_fill_10 : decode bJ_fill 10 = .ok (.aload_n 0, 1) := by decide +kernel
theorem dJ_fill_11 : decode bJ_fill 11 = .ok (.iload_n 2, 1) := by decide +kernel
theorem dJ_fill_12 : decode bJ_fill 12 = .ok (.iload_n 1, 1) := by decide +kernel
theorem dJ_fill_13 : decode bJ_fill 13 = .ok (.iastore, 1) := by decide +kernel
theorem dJ_fill_14 : decode bJ_fill 14 = .ok (.iinc 2 1, 3) := by decide +kernel
theorem dJ_fill_17 : decode bJ_fill 17 = .ok (.goto (-12), 3) := by decide +kernel
theorem dJ_fill_20 : decode bJ_fill 20 = .ok (.return_, 1) := by decide +kernel
theorem set_self {α : Type} : ∀ {l : List α} {q : Nat} {x : α}, l[q]? = some x → l.set q x = l
  | [], q, x, h => by simp at h
  | a :: l, 0, x, h => by simp at h; rw [h]; rfl
  | a :: l, q + 1, x, h => by
    have h : l[q]? = some x := by simpa using h
    show a :: l.set q x = a :: l
    rw [set_self h]
def wFil (ws : va_W) (q a : Nat) (cA : ClassId) (n : Nat) (τ : xSg) : va_W := ws.set q (a, .inl (cA, n, .inl (τ 0)))
theorem wFil_get {ws : va_W} {q a : Nat} {cA : ClassId} {n : Nat} {τ : xSg} (hq : q < ws.length) : (wFil ws q a cA n τ)[q]? = some (a, .inl (cA, n, .inl (τ 0))) := by
  unfold wFil; simp [hq]
theorem wFil_set {ws : va_W} {q a : Nat} {cA : ClassId} {n : Nat} {τ υ : xSg} {f : Nat → Int32} (h : f = υ 0) : (wFil ws q a cA n τ).set q (a, .inl (cA, n, .inl f)) = wFil ws q a cA n υ := by
  unfold wFil; rw [List.set_set, h]
def fil (v : Int32) (k : Nat) (τ : xSg) : xSg := fun x j => if x = 0 ∧ j < k then v else τ x j
theorem fil_0 {v : Int32} {τ : xSg} : fil v 0 τ = τ := by funext x j; simp [fil]
theorem fil_up {v : Int32} {k : Nat} {τ : xSg} : upd (fil v k τ 0) k v = fil v (k + 1) τ 0 := by
  funext j
  unfold upd fil
  by_cases h : j = k
  · subst h; simp
  · rw [if_neg h]
    by_cases h2 : j < k
    · rw [if_pos ⟨rfl, h2⟩, if_pos ⟨rfl, by omega⟩]
    · rw [if_neg (fun q => h2 q.2), if_neg (fun q => h (by omega))]
set_option maxHeartbeats 4000000 in
set_option maxRecDepth 100000 in
theorem cJ_fill {l : Launch} {D : va_G} {cl : List vw_C} {tys : List (ClassId × FieldType)} {NW : List Cond} {ws : va_W} {q a n t0 : Nat} {cA : ClassId} {v : Int32} {τ : xSg} (hq : q < ws.length) (hn : n < 2 ^ 31) (ht : tys[t0]? = some (cA, .int)) : xCv l D cl tys NW (wFil ws q a cA n) yJ_fill (.code yJ_fill bJ_fill 4 none :: bigW) 0 [.ref a, .int v] τ (fun u => u = fil v n τ) := by
  refine xCv.of (cc := bJ_fill) (nL := 4) (ret := none) rfl (by decide) [.ref a, .int v, .null, .null] rfl (Nat.le_of_ble_eq_true rfl) ?_
  intro p e s m args below meth c A G hr hlk
  have loop : ∀ (j k : Nat), k + j = n → xJ p l e { frames := 0, cells := 0, slots := 0, locals := 40 * 0 } s m args below meth c 0 0 (MQ below (va_Qv (fun u => u = fil v n τ) (fun u t => va_P D cl (wFil ws q a cA n u) t.heap ∧ va_D A (wFil ws q a cA n u)) A) args s 0 0 A) D cl A 4 (va_S A s.heap) (wFil ws q a cA n (fil v k τ)) [.ref a, .int v, .int (nI k), .int (nI n)] 5 [] := by
    intro j
    induction j with
    | zero =>
      intro k hk
      refine x_iload_n G 2 dJ_fill_5 rfl rfl ?_
      refine x_iload_n G 3 dJ_fill_6 rfl rfl ?_
      refine x_icmp_ge G 20 dJ_fill_7 (by decide) (fun h7 => ?_) (fun h7 => absurd (nI_le (by omega) (by omega)) h7)
      exact x_retv G hr hlk dJ_fill_20 (by rw [show k = n by omega])
    | succ j ih =>
      intro k hk
      refine x_iload_n G 2 dJ_fill_5 rfl rfl ?_
      refine x_iload_n G 3 dJ_fill_6 rfl rfl ?_
      refine x_icmp_ge G 20 dJ_fill_7 (by decide) (fun h7 => absurd h7 (nI_ge (by omega) (by omega))) (fun h7 => ?_)
      refine x_aload_n G 0 dJ_fill_10 rfl rfl ?_
      refine x_iload_n G 2 dJ_fill_11 rfl rfl ?_
      refine x_iload_n G 1 dJ_fill_12 rfl rfl ?_
      refine x_iastN G q t0 (wFil_get hq) ht (wFil_set fil_up) (by omega) hn dJ_fill_13 ?_
      refine x_iinc G (nI (k + 1)) dJ_fill_14 rfl (nI_1 k) (by decide) ?_
      refine x_goto G 5 dJ_fill_17 (by decide) ?_
      exact ih (k + 1) (by omega)
  refine x_iconst G 0 dJ_fill_0 (by decide) ?_
  refine x_istore_n G 2 dJ_fill_1 rfl (by decide) ?_
  refine x_aload_n G 0 dJ_fill_2 rfl rfl ?_
  refine x_alen G q t0 (wFil_get hq) ht (nI n) rfl dJ_fill_3 ?_
  refine x_istore_n G 3 dJ_fill_4 rfl (by decide) ?_
  exact x_eq (by rw [fil_0]) rfl rfl rfl (loop n 0 (by omega))
section XF
variable {p : Program} {l : Launch} {e : Env} {R : Room} {s : State} {m : MethodId} {args : Array Value} {below : List Frame} {meth : Method} {c : Code} {cells slots : Nat} {Q : State → Prop} {D : va_G} {cl : List vw_C} {A : Nat → Prop} {nL : Nat} {ws : va_W} {vs : List Value} {pc : Nat} {st : List Value} {cc : ByteArray} {own : String} {NW : List Cond} {tys : List (ClassId × FieldType)} {c0 : Cond}
theorem x_fill (G : xG p s m args c cc nL own (c0 :: bigW) NW D cl tys A) {a n idx : Nat} {cA : ClassId} {f : Nat → Int32} {v : Int32} (q t0 : Nat) (ha : ws[q]? = some (a, .inl (cA, n, .inl f))) (ht : tys[t0]? = some (cA, .int)) (hn : n < 2 ^ 31) (hl : Cond.methodLink own idx yJ_fill ∈ bigW) (hR : 1 ≤ R.frames ∧ 23 ≤ R.locals) (dd : decode cc pc = .ok (.invokestatic idx, 3)) (hroom : (st.map fun v => v.category).sum ≤ 8) (hcs : cells ≤ R.cells ∧ slots ≤ R.slots)
    (k : xJ p l e R s m args below meth c cells slots Q D cl A nL (va_S A s.heap) (ws.set q (a, .inl (cA, n, .inl (fun j => if j < n then v else f j)))) vs (pc + 3) st) : xJ p l e R s m args below meth c cells slots Q D cl A nL (va_S A s.heap) ws vs pc (.int v :: .ref a :: st) := by
  have hq : q < ws.length := (List.getElem?_eq_some_iff.mp ha).1
  refine x_eq (ws2 := wFil ws q a cA n (fun _ => f)) (set_self ha).symm rfl rfl rfl ?_
  refine x_callS2v G (cJ_fill (t0 := t0) hq hn ht) (cSo G.2.2.2.2.1 hl wd_108 wd_52 wd_109 (by decide +kernel) ⟨hR.1, hR.2⟩) dd hroom hcs (fun u hu => ?_)
  subst hu
  refine x_eq ?_ rfl rfl rfl k
  unfold wFil
  have e : fil v n (fun _ => f) 0 = fun j => if j < n then v else f j := by funext j; simp [fil]
  rw [e]
theorem x_aald (G : xG p s m args c cc nL own (c0 :: bigW) NW D cl tys A) {S : Heap → List Loc → Prop} {a n x i : Nat} {cA : ClassId} {f : Nat → Option Nat} {ty : FieldType} (q0 t0 : Nat) (ha : ws[q0]? = some (a, .inl (cA, n, .inr (.inr (.inr (.inr f)))))) (ht : tys[t0]? = some (cA, ty)) (hty : ty.isReference = true) (hi : i < n) (hn : n < 2 ^ 31) (hf : f i = some x) (d : decode cc pc = .ok (.aaload, 1))
    (k : xJ p l e R s m args below meth c cells slots Q D cl A nL S ws vs (pc + 1) (.ref x :: st)) : xJ p l e R s m args below meth c cells slots Q D cl A nL S ws vs pc (.int (nI i) :: .ref a :: st) := fun H locs ls hP hD hS hl => by
  have hc : (nI i).toNatClampNeg = i := nI_clamp (by omega)
  exact W.aald (v := .ref x) (ty := ty) G.1 G.2.1 (hP q0 _ ha) ((G.2.2.2.2.2.1.2 t0 _ ht).1 n (fun j => va_rf (f j))) hty (fun q => by cases q) (by show ¬ (_ ∨ (arrV _ _ _).slots.size ≤ _); rw [arrV_size]; exact nI_in hi hn) (by show (arrV _ _ _).slots[_]? = _; rw [hc, arrV_read _ _ hi, hf]; rfl) rfl rfl d (k H locs ls hP hD hS hl)
end XF
/-- a whole row of the state anew -/
def rst (σ : xSg) (q : Nat) (f : Nat → Int32) : xSg := fun a => if a = q then f else σ a
theorem rst_same {σ : xSg} {q : Nat} {f : Nat → Int32} : rst σ q f q = f := by simp [rst]
theorem rst_ne {σ : xSg} {q a : Nat} {f : Nat → Int32} (h : a ≠ q) : rst σ q f a = σ a := by simp [rst, h]
section WR
variable {ad : Nat → Nat} {cI cZ cJ : ClassId} {σ : xSg} {f : Nat → Int32}
theorem wrow_10 : (wC ad cI cZ cJ σ).set 10 (ad 10, .inl (cI, 8, .inl f)) = wC ad cI cZ cJ (rst σ 10 f) := by rfl
theorem wrow_13 : (wC ad cI cZ cJ σ).set 13 (ad 13, .inl (cI, 4, .inl f)) = wC ad cI cZ cJ (rst σ 13 f) := by rfl
theorem wrow_14 : (wC ad cI cZ cJ σ).set 14 (ad 14, .inl (cI, 4, .inl f)) = wC ad cI cZ cJ (rst σ 14 f) := by rfl
theorem wrow_23 : (wC ad cI cZ cJ σ).set 23 (ad 23, .inl (cI, 8, .inl f)) = wC ad cI cZ cJ (rst σ 23 f) := by rfl
theorem wrow_24 : (wC ad cI cZ cJ σ).set 24 (ad 24, .inl (cI, 8, .inl f)) = wC ad cI cZ cJ (rst σ 24 f) := by rfl
theorem wC_row {c : Nat} (hc : c < 4) : (wC ad cI cZ cJ σ)[16 + c]? = some (ad (16 + c), .inl (cI, 8, .inl (σ (16 + c)))) := by
  rcases (show c = 0 ∨ c = 1 ∨ c = 2 ∨ c = 3 by omega) with rfl | rfl | rfl | rfl <;> rfl
theorem wC_rowSet {c i : Nat} {v : Int32} (hc : c < 4) : (wC ad cI cZ cJ σ).set (16 + c) (ad (16 + c), .inl (cI, 8, .inl (upd (σ (16 + c)) i v))) = wC ad cI cZ cJ (sst σ (16 + c) i v) := by
  rcases (show c = 0 ∨ c = 1 ∨ c = 2 ∨ c = 3 by omega) with rfl | rfl | rfl | rfl
  · exact warr_16
  · exact warr_17
  · exact warr_18
  · exact warr_19
end WR
def aI (a : Nat) : Int32 := if a < 4 then nI a else -1
def oI (x : Option Nat) : Int32 := match x with
  | none => -1
  | some b => nI b
theorem aI_t {a : Nat} (h : a < 4) : aI a = nI a := if_pos h
theorem aI_f {a : Nat} (h : ¬ a < 4) : aI a = -1 := if_neg h
theorem aI_m1 {a : Nat} : aI a = -1 ↔ ¬ a < 4 := by
  by_cases h : a < 4
  · rw [aI_t h]; exact ⟨fun q => absurd q (nI_m1 (by omega)), fun q => absurd h q⟩
  · rw [aI_f h]; simp [h]
theorem aI_eq {a c : Nat} (hc : c < 4) : aI a = nI c ↔ a = c := by
  by_cases h : a < 4
  · rw [aI_t h, nI_eq (by omega) (by omega)]
  · rw [aI_f h]
    constructor
    · intro q; exact absurd q.symm (nI_m1 (by omega))
    · intro q; omega
/-- the timetable's sharing is A -/
def TS (σ : xSg) (A : Nat → Nat) : Prop := (∀ b, b < 8 → σ 10 b = aI (A b)) ∧ (∀ c, c < 4 → σ 13 c = oI (fstA A c 8) ∧ σ 14 c = oI (lstA A c 8))
theorem TS.of {σ τ : xSg} {A : Nat → Nat} (h : TS σ A) (h1 : τ 10 = σ 10) (h2 : τ 13 = σ 13) (h3 : τ 14 = σ 14) : TS τ A := by
  unfold TS; rw [h1, h2, h3]; exact h
theorem fst_lt {A : Nat → Nat} {c f : Nat} (h : fstA A c 8 = some f) : f < 8 := (fstA_some h).1
theorem lst_lt {A : Nat → Nat} {c f : Nat} (h : lstA A c 8 = some f) : f < 8 := (lstA_some h).1
def clr (σ : xSg) : xSg := sst (sst (sst (rst (rst (rst σ 10 (fun j => if j < 8 then (-1) else σ 10 j)) 13 (fun j => if j < 4 then (-1) else σ 13 j)) 14 (fun j => if j < 4 then (-1) else σ 14 j)) 3 9 0) 3 10 0) 3 11 0
set_option maxHeartbeats 4000000 in
set_option maxRecDepth 100000 in
theorem cT_clear {l : Launch} {D : va_G} {cI cZ cJ : ClassId} {ad : Nat → Nat} {σ : xSg}  : xCv l D vCl (tyC cI cZ cJ) nwW (wC ad cI cZ cJ) yT_clear (.code yT_clear bT_clear 1 none :: bigW) 1 [.ref (ad 3)] σ (fun u => u = clr σ) := by
  refine xCv.of (cc := bT_clear) (nL := 1) (ret := none) rfl (by decide) [.ref (ad 3)] rfl (Nat.le_of_ble_eq_true rfl) ?_
  intro pp ee ss mm aa bb me cde AA G hr hlk
  refine x_aload_n G 0 dT_clear_0 rfl rfl ?_
  refine x_get G 3 rfl rfl 2 (by decide) rfl (fun w h => .tail _ (iT_ok w h)) (.tail _ wd_143) rfl dT_clear_1 ?_
  refine x_iconst G (-1) dT_clear_4 (by decide) ?_
  refine x_fill G 10 0 rfl rfl (by decide) wd_279 ⟨(Nat.le_of_ble_eq_true rfl), (Nat.le_of_ble_eq_true rfl)⟩ dT_clear_5 (Nat.le_of_ble_eq_true rfl) ⟨Nat.zero_le _, Nat.zero_le _⟩ ?_
  refine x_eq wrow_10 rfl rfl rfl ?_
  refine x_aload_n G 0 dT_clear_8 rfl rfl ?_
  refine x_get G 3 rfl rfl 5 (by decide) rfl (fun w h => .tail _ (iT_ok w h)) (.tail _ wd_147) rfl dT_clear_9 ?_
  refine x_iconst G (-1) dT_clear_12 (by decide) ?_
  refine x_fill G 13 0 rfl rfl (by decide) wd_279 ⟨(Nat.le_of_ble_eq_true rfl), (Nat.le_of_ble_eq_true rfl)⟩ dT_clear_13 (Nat.le_of_ble_eq_true rfl) ⟨Nat.zero_le _, Nat.zero_le _⟩ ?_
  refine x_eq wrow_13 rfl rfl rfl ?_
  refine x_aload_n G 0 dT_clear_16 rfl rfl ?_
  refine x_get G 3 rfl rfl 6 (by decide) rfl (fun w h => .tail _ (iT_ok w h)) (.tail _ wd_148) rfl dT_clear_17 ?_
  refine x_iconst G (-1) dT_clear_20 (by decide) ?_
  refine x_fill G 14 0 rfl rfl (by decide) wd_279 ⟨(Nat.le_of_ble_eq_true rfl), (Nat.le_of_ble_eq_true rfl)⟩ dT_clear_21 (Nat.le_of_ble_eq_true rfl) ⟨Nat.zero_le _, Nat.zero_le _⟩ ?_
  refine x_eq wrow_14 rfl rfl rfl ?_
  refine x_aload_n G 0 dT_clear_24 rfl rfl ?_
  refine x_iconst G (0) dT_clear_25 (by decide) ?_
  refine x_put G 3 rfl rfl 9 (by decide) (Nat.le_of_ble_eq_true rfl) wput_3_9 (fun w h => .tail _ (iT_ok w h)) tT_ok nT_ok (.tail _ wd_151) rfl rfl (tT_ok 9 (by decide)) rfl rfl dT_clear_26 ?_
  refine x_aload_n G 0 dT_clear_29 rfl rfl ?_
  refine x_iconst G (0) dT_clear_30 (by decide) ?_
  refine x_put G 3 rfl rfl 10 (by decide) (Nat.le_of_ble_eq_true rfl) wput_3_10 (fun w h => .tail _ (iT_ok w h)) tT_ok nT_ok (.tail _ wd_153) rfl rfl (tT_ok 10 (by decide)) rfl rfl dT_clear_31 ?_
  refine x_aload_n G 0 dT_clear_34 rfl rfl ?_
  refine x_iconst G (0) dT_clear_35 (by decide) ?_
  refine x_put G 3 rfl rfl 11 (by decide) (Nat.le_of_ble_eq_true rfl) wput_3_11 (fun w h => .tail _ (iT_ok w h)) tT_ok nT_ok (.tail _ wd_156) rfl rfl (tT_ok 11 (by decide)) rfl rfl dT_clear_36 ?_
  exact x_retv G hr hlk dT_clear_39 rfl
theorem clr_TS {σ : xSg} : TS (clr σ) (fun _ => 9) := by
  refine ⟨fun b hb => ?_, fun c hc => ?_⟩
  · have e : clr σ 10 b = -1 := by simp [clr, sst, rst, hb]
    rw [e]; rfl
  · have e1 : clr σ 13 c = -1 := by simp [clr, sst, rst, hc]
    have e2 : clr σ 14 c = -1 := by simp [clr, sst, rst, hc]
    rw [e1, e2, fstA_none.mpr (fun b _ => by show (9 : Nat) ≠ c; omega), lstA_none.mpr (fun b _ => by show (9 : Nat) ≠ c; omega)]
    exact ⟨rfl, rfl⟩
theorem clr_o {σ : xSg} {q : Nat} (h3 : q ≠ 3) (h10 : q ≠ 10) (h13 : q ≠ 13) (h14 : q ≠ 14) : clr σ q = σ q := by
  unfold clr; rw [sst_ne h3, sst_ne h3, sst_ne h3, rst_ne h14, rst_ne h13, rst_ne h10]
theorem clr_9 {σ : xSg} : clr σ 3 9 = 0 := by simp [clr, sst]
theorem clr_10 {σ : xSg} : clr σ 3 10 = 0 := by simp [clr, sst]
theorem clr_11 {σ : xSg} : clr σ 3 11 = 0 := by simp [clr, sst]
theorem oI_m1 {x : Option Nat} (h : ∀ b, x = some b → b < 2 ^ 31) : oI x = -1 ↔ x = none := by
  cases x with
  | none => simp [oI]
  | some b => exact ⟨fun q => absurd q (nI_m1 (h b rfl)), fun q => by cases q⟩
theorem give_TS {σ u : xSg} {A : Nat → Nat} {b c : Nat} (h : TS σ A) (hA : ∀ x, b ≤ x → 4 ≤ A x) (hb : b < 8) (hc : c < 4) (h10 : u 10 = upd (σ 10) b (nI c)) (h13 : u 13 = upd (σ 13) c (nI ((fstA A c 8).getD b))) (h14 : u 14 = upd (σ 14) c (nI b)) : TS u (upA A b c) := by
  refine ⟨fun x hx => ?_, fun d hd => ⟨?_, ?_⟩⟩
  · rw [h10]
    by_cases q : x = b
    · subst q; simp [upd, upA, aI_t hc]
    · simp [upd, upA, q, h.1 x hx]
  · rw [h13]
    by_cases q : d = c
    · subst q; rw [fstA_up hA hb hc]; simp [upd, oI]
    · rw [fstA_up' q (hA b (Nat.le_refl b)) hd]; simp [upd, q, (h.2 d hd).1]
  · rw [h14]
    by_cases q : d = c
    · subst q; rw [lstA_up hA hb hc]; simp [upd, oI]
    · rw [lstA_up' q (hA b (Nat.le_refl b)) hd]; simp [upd, q, (h.2 d hd).2]
set_option maxHeartbeats 4000000 in
set_option maxRecDepth 100000 in
theorem cT_give {l : Launch} {D : va_G} {cI cZ cJ : ClassId} {ad : Nat → Nat} {σ : xSg} {A : Nat → Nat} {n C b c sp : Nat} (ht : σ 1 2 = nI n) (hn : n ≤ 8) (hC : σ 2 0 = nI C) (hC4 : C ≤ 4) (hTS : TS σ A) (hsp : σ 3 11 = nI sp) (hb : b < n) (hc : c < C) (hA : ∀ x, b ≤ x → 4 ≤ A x) : xCv l D vCl (tyC cI cZ cJ) nwW (wC ad cI cZ cJ) yT_give (.code yT_give bT_give 3 none :: bigW) 1 [.ref (ad 3), .int (nI b), .int (nI c)] σ (fun u => TS u (upA A b c) ∧ u 3 11 = nI (sp + (b - (lstA A c 8).getD b)) ∧ u 3 9 = σ 3 9 ∧ u 3 10 = σ 3 10 ∧ ∀ q, q ≠ 3 → q ≠ 10 → q ≠ 13 → q ≠ 14 → u q = σ q) := by
  refine xCv.of (cc := bT_give) (nL := 3) (ret := none) rfl (by decide) [.ref (ad 3), .int (nI b), .int (nI c)] rfl (Nat.le_of_ble_eq_true rfl) ?_
  intro pp ee ss mm aa bb me cde AA G hr hlk
  have hc4 : c < 4 := by omega
  obtain ⟨hf, hl⟩ := hTS.2 c hc4
  refine x_aload_n G 0 dT_give_0 rfl rfl ?_
  refine x_get G 3 rfl rfl 0 (by decide) rfl (fun w h => .tail _ (iT_ok w h)) (.tail _ wd_141) rfl dT_give_1 ?_
  refine x_iload_n G 1 dT_give_4 rfl rfl ?_
  refine x_call0VN1i G (cB_hasN ht hn (by omega)) 1 rfl rfl (cVN G.2.2.2.2.1 G.2.2.2.2.2.2.1 nd_284 wd_260 wd_3 wd_49 wd_261 (by decide +kernel) ⟨(Nat.le_of_ble_eq_true rfl), (Nat.le_of_ble_eq_true rfl)⟩) dT_give_5 (Nat.le_of_ble_eq_true rfl) ⟨Nat.zero_le _, Nat.zero_le _⟩ (fun r5 e5 => ?_)
  subst e5
  refine x_if_eq G 22 dT_give_8 (by decide) (fun h8 => (by have h8 := bI_eq0.mp h8; omega)) (fun h8 => ?_)
  refine x_aload_n G 0 dT_give_11 rfl rfl ?_
  refine x_get G 3 rfl rfl 1 (by decide) rfl (fun w h => .tail _ (iT_ok w h)) (.tail _ wd_142) rfl dT_give_12 ?_
  refine x_iload_n G 2 dT_give_15 rfl rfl ?_
  refine x_call0VN1i G (cK_hasN hC hC4 (by omega)) 2 rfl rfl (cVN G.2.2.2.2.1 G.2.2.2.2.2.2.1 nd_285 wd_268 wd_5 wd_50 wd_269 (by decide +kernel) ⟨(Nat.le_of_ble_eq_true rfl), (Nat.le_of_ble_eq_true rfl)⟩) dT_give_16 (Nat.le_of_ble_eq_true rfl) ⟨Nat.zero_le _, Nat.zero_le _⟩ (fun r16 e16 => ?_)
  subst e16
  refine x_if_ne G 23 dT_give_19 (by decide) (fun h19 => ?_) (fun h19 => (by have h19 := bI_eq0.mp h19; omega))
  refine x_aload_n G 0 dT_give_23 rfl rfl ?_
  refine x_get G 3 rfl rfl 2 (by decide) rfl (fun w h => .tail _ (iT_ok w h)) (.tail _ wd_143) rfl dT_give_24 ?_
  refine x_iload_n G 1 dT_give_27 rfl rfl ?_
  refine x_iload_n G 2 dT_give_28 rfl rfl ?_
  refine x_iastN G 10 0 rfl rfl warr_10 (by omega) (by decide) dT_give_29 ?_
  refine x_aload_n G 0 dT_give_30 rfl rfl ?_
  refine x_get G 3 rfl rfl 5 (by decide) rfl (fun w h => .tail _ (iT_ok w h)) (.tail _ wd_147) rfl dT_give_31 ?_
  refine x_iload_n G 2 dT_give_34 rfl rfl ?_
  refine x_ialdN G 13 0 rfl rfl (by omega) (by decide) dT_give_35 ?_
  refine x_iconst G (-1) dT_give_36 (by decide) ?_
  refine x_icmp_ne G 50 dT_give_37 (by decide) (fun h37 => ?_) (fun h37 => ?_)
  · have h37 : ¬ oI (fstA A c 8) = -1 := fun q => h37 (by show σ 13 c = -1; rw [hf]; exact q)
    obtain ⟨f, hf1⟩ : ∃ f, fstA A c 8 = some f := by
      cases hq : fstA A c 8 with
      | none => rw [hq] at h37; exact absurd rfl h37
      | some f => exact ⟨f, rfl⟩
    obtain ⟨l0, hl1, hfl, hl8, hAl⟩ := lst_of_fst hf1
    have hlb : l0 < b := by
      rcases Nat.lt_or_ge l0 b with q | q
      · exact q
      · have := hA l0 q; omega
    refine x_aload_n G 0 dT_give_50 rfl rfl ?_
    refine x_dup G dT_give_51 rfl ?_
    refine x_get G 3 rfl rfl 11 (by decide) rfl (fun w h => .tail _ (iT_ok w h)) (.tail _ wd_156) rfl dT_give_52 ?_
    refine x_iload_n G 1 dT_give_55 rfl rfl ?_
    refine x_aload_n G 0 dT_give_56 rfl rfl ?_
    refine x_get G 3 rfl rfl 6 (by decide) rfl (fun w h => .tail _ (iT_ok w h)) (.tail _ wd_148) rfl dT_give_57 ?_
    refine x_iload_n G 2 dT_give_60 rfl rfl ?_
    refine x_ialdN G 14 0 rfl rfl (by omega) (by decide) dT_give_61 ?_
    refine x_isub G dT_give_62 ?_
    refine x_iadd G dT_give_63 ?_
    refine x_top (z := nI (sp + (b - l0))) (by show σ 3 11 + (nI b - σ 14 c) = _; rw [hsp, hl, hl1]; show nI sp + (nI b - nI l0) = _; rw [pk_sub (by omega), nI_add]) ?_
    refine x_put G 3 rfl rfl 11 (by decide) (Nat.le_of_ble_eq_true rfl) wput_3_11 (fun w h => .tail _ (iT_ok w h)) tT_ok nT_ok (.tail _ wd_156) rfl rfl (tT_ok 11 (by decide)) rfl rfl dT_give_64 ?_
    refine x_aload_n G 0 dT_give_67 rfl rfl ?_
    refine x_get G 3 rfl rfl 6 (by decide) rfl (fun w h => .tail _ (iT_ok w h)) (.tail _ wd_148) rfl dT_give_68 ?_
    refine x_iload_n G 2 dT_give_71 rfl rfl ?_
    refine x_iload_n G 1 dT_give_72 rfl rfl ?_
    refine x_iastN G 14 0 rfl rfl warr_14 (by omega) (by decide) dT_give_73 ?_
    exact x_retv G hr hlk dT_give_74 ⟨give_TS hTS hA (by omega) hc4 (by rw [sst_ne (by decide), sst_ne (by decide), sst_up]) (by rw [sst_ne (by decide), sst_ne (by decide), sst_ne (by decide), hf1]; funext j; by_cases q : j = c <;> simp [upd, q, hf, hf1, oI]) (by rw [sst_up, sst_ne (by decide), sst_ne (by decide)]), by rw [hl1]; rfl, rfl, rfl, fun q q3 q10 q13 q14 => by rw [sst_ne q14, sst_ne q3, sst_ne q10]⟩
  · have h37 : oI (fstA A c 8) = -1 := by rw [← hf]; exact h37
    have hf0 : fstA A c 8 = none := (oI_m1 (fun b hb => by have := fst_lt hb; omega)).mp h37
    have hl0 := lst_none_fst hf0
    refine x_aload_n G 0 dT_give_40 rfl rfl ?_
    refine x_get G 3 rfl rfl 5 (by decide) rfl (fun w h => .tail _ (iT_ok w h)) (.tail _ wd_147) rfl dT_give_41 ?_
    refine x_iload_n G 2 dT_give_44 rfl rfl ?_
    refine x_iload_n G 1 dT_give_45 rfl rfl ?_
    refine x_iastN G 13 0 rfl rfl warr_13 (by omega) (by decide) dT_give_46 ?_
    refine x_goto G 67 dT_give_47 (by decide) ?_
    refine x_aload_n G 0 dT_give_67 rfl rfl ?_
    refine x_get G 3 rfl rfl 6 (by decide) rfl (fun w h => .tail _ (iT_ok w h)) (.tail _ wd_148) rfl dT_give_68 ?_
    refine x_iload_n G 2 dT_give_71 rfl rfl ?_
    refine x_iload_n G 1 dT_give_72 rfl rfl ?_
    refine x_iastN G 14 0 rfl rfl warr_14 (by omega) (by decide) dT_give_73 ?_
    exact x_retv G hr hlk dT_give_74 ⟨give_TS hTS hA (by omega) hc4 (by rw [sst_ne (by decide), sst_ne (by decide), sst_up]) (by rw [sst_ne (by decide), sst_up, sst_ne (by decide), hf0]; rfl) (by rw [sst_up, sst_ne (by decide), sst_ne (by decide)]), by rw [hl0]; show σ 3 11 = nI (sp + (b - b)); rw [hsp, Nat.sub_self, Nat.add_zero], rfl, rfl, fun q q3 q10 q13 q14 => by rw [sst_ne q14, sst_ne q13, sst_ne q10]⟩
theorem near_nI {a b g : Nat} (ha : a < 2 ^ 30) (hb : b < 2 ^ 30) (hg : g < 2 ^ 30) : nI a - nI b ≤ nI g ↔ a ≤ b + g := by
  rw [i32_le, pk_sub_toInt ha hb, nI_toInt (by omega)]; omega
theorem near_lt {a b g : Nat} (ha : a < 2 ^ 30) (hb : b < 2 ^ 30) (hg : g < 2 ^ 30) : nI g < nI a - nI b ↔ b + g < a := by
  rw [i32_lt, pk_sub_toInt ha hb, nI_toInt (by omega)]; omega
set_option maxHeartbeats 4000000 in
set_option maxRecDepth 100000 in
theorem cT_tooNear {l : Launch} {D : va_G} {cI cZ cJ : ClassId} {ad : Nat → Nat} {σ : xSg} {g c d f1 f2 l1 l2 : Nat} (hg : σ 2 1 = nI g) (hg3 : g ≤ 3) (hc : c < 4) (hd : d < 4) (hf1 : σ 13 c = nI f1) (hf2 : σ 13 d = nI f2) (hl1 : σ 14 c = nI l1) (hl2 : σ 14 d = nI l2) (b1 : f1 < 8) (b2 : f2 < 8) (b3 : l1 < 8) (b4 : l2 < 8) : xCi0 l D vCl (tyC cI cZ cJ) nwW (wC ad cI cZ cJ σ) yT_tooNear (.code yT_tooNear bT_tooNear 3 (some .boolean) :: bigW) 0 [.ref (ad 3), .int (nI c), .int (nI d)] (fun r => r = bI (f2 ≤ f1 + g ∨ l2 ≤ l1 + g)) := by
  refine xCi0.of (cc := bT_tooNear) (nL := 3) (ret := (some .boolean)) rfl (by decide) [.ref (ad 3), .int (nI c), .int (nI d)] rfl (Nat.le_of_ble_eq_true rfl) ?_
  intro pp ee ss mm aa bb me cde AA G hr hlk
  refine x_aload_n G 0 dT_tooNear_0 rfl rfl ?_
  refine x_get G 3 rfl rfl 5 (by decide) rfl (fun w h => .tail _ (iT_ok w h)) (.tail _ wd_147) rfl dT_tooNear_1 ?_
  refine x_iload_n G 2 dT_tooNear_4 rfl rfl ?_
  refine x_ialdN G 13 0 rfl rfl (by omega) (by decide) dT_tooNear_5 ?_
  refine x_aload_n G 0 dT_tooNear_6 rfl rfl ?_
  refine x_get G 3 rfl rfl 5 (by decide) rfl (fun w h => .tail _ (iT_ok w h)) (.tail _ wd_147) rfl dT_tooNear_7 ?_
  refine x_iload_n G 1 dT_tooNear_10 rfl rfl ?_
  refine x_ialdN G 13 0 rfl rfl (by omega) (by decide) dT_tooNear_11 ?_
  refine x_isub G dT_tooNear_12 ?_
  refine x_aload_n G 0 dT_tooNear_13 rfl rfl ?_
  refine x_get G 3 rfl rfl 1 (by decide) rfl (fun w h => .tail _ (iT_ok w h)) (.tail _ wd_142) rfl dT_tooNear_14 ?_
  refine x_getN G 2 rfl rfl 1 (by decide) rfl (fun w h => .tail _ (iK_ok w h)) nd_112 rfl dT_tooNear_17 ?_
  refine x_icmp_le G 46 dT_tooNear_20 (by decide) (fun h20 => ?_) (fun h20 => ?_)
  · rw [hf1, hf2, hg, near_nI (by omega) (by omega) (by omega)] at h20
    refine x_iconst G (1) dT_tooNear_46 (by decide) ?_
    refine x_goto G 51 dT_tooNear_47 (by decide) ?_
    exact x_ret0i G hr hlk rfl dT_tooNear_51 (by first | rw [bI_t (by omega)] | rw [bI_f (by omega)])
  · rw [hf1, hf2, hg, near_nI (by omega) (by omega) (by omega)] at h20
    refine x_aload_n G 0 dT_tooNear_23 rfl rfl ?_
    refine x_get G 3 rfl rfl 6 (by decide) rfl (fun w h => .tail _ (iT_ok w h)) (.tail _ wd_148) rfl dT_tooNear_24 ?_
    refine x_iload_n G 2 dT_tooNear_27 rfl rfl ?_
    refine x_ialdN G 14 0 rfl rfl (by omega) (by decide) dT_tooNear_28 ?_
    refine x_aload_n G 0 dT_tooNear_29 rfl rfl ?_
    refine x_get G 3 rfl rfl 6 (by decide) rfl (fun w h => .tail _ (iT_ok w h)) (.tail _ wd_148) rfl dT_tooNear_30 ?_
    refine x_iload_n G 1 dT_tooNear_33 rfl rfl ?_
    refine x_ialdN G 14 0 rfl rfl (by omega) (by decide) dT_tooNear_34 ?_
    refine x_isub G dT_tooNear_35 ?_
    refine x_aload_n G 0 dT_tooNear_36 rfl rfl ?_
    refine x_get G 3 rfl rfl 1 (by decide) rfl (fun w h => .tail _ (iT_ok w h)) (.tail _ wd_142) rfl dT_tooNear_37 ?_
    refine x_getN G 2 rfl rfl 1 (by decide) rfl (fun w h => .tail _ (iK_ok w h)) nd_112 rfl dT_tooNear_40 ?_
    refine x_icmp_gt G 50 dT_tooNear_43 (by decide) (fun h43 => ?_) (fun h43 => ?_)
    · rw [hl1, hl2, hg, near_lt (by omega) (by omega) (by omega)] at h43
      refine x_iconst G (0) dT_tooNear_50 (by decide) ?_
      exact x_ret0i G hr hlk rfl dT_tooNear_51 (by first | rw [bI_t (by omega)] | rw [bI_f (by omega)])
    · rw [hl1, hl2, hg, near_lt (by omega) (by omega) (by omega)] at h43
      refine x_iconst G (1) dT_tooNear_46 (by decide) ?_
      refine x_goto G 51 dT_tooNear_47 (by decide) ?_
      exact x_ret0i G hr hlk rfl dT_tooNear_51 (by first | rw [bI_t (by omega)] | rw [bI_f (by omega)])
theorem apA_lt {A : Nat → Nat} {n g : Nat} : ∀ {k d : Nat}, (apA A n g k).1 = some d → d < k ∧ ∃ f, fstA A d n = some f
  | 0, d, h => by simp [apA] at h
  | k + 1, d, h => by
    unfold apA at h
    cases hf : fstA A k n with
    | none =>
      rw [hf] at h
      obtain ⟨h1, h2⟩ := apA_lt h
      exact ⟨by omega, h2⟩
    | some f =>
      rw [hf] at h
      cases h
      exact ⟨by omega, f, hf⟩
theorem apA_mono {A : Nat → Nat} {n g k : Nat} (h : (apA A n g k).2 = false) : ∀ (j : Nat), (apA A n g (k + j)).2 = false
  | 0 => h
  | j + 1 => by
    have ih := apA_mono h j
    show (apA A n g (k + j + 1)).2 = false
    unfold apA
    cases fstA A (k + j) n with
    | none => exact ih
    | some f => simp [ih]
theorem apA_none {A : Nat → Nat} {n g k : Nat} (h : fstA A k n = none) : apA A n g (k + 1) = apA A n g k := by simp [apA, h]
set_option maxHeartbeats 4000000 in
set_option maxRecDepth 100000 in
theorem cT_keepsApart {l : Launch} {D : va_G} {cI cZ cJ : ClassId} {ad : Nat → Nat} {σ : xSg} {A : Nat → Nat} {g : Nat} (hTS : TS σ A) (hg : σ 2 1 = nI g) (hg3 : g ≤ 3) : xCi0 l D vCl (tyC cI cZ cJ) nwW (wC ad cI cZ cJ σ) yT_keepsApart (.code yT_keepsApart bT_keepsApart 3 (some .boolean) :: bigW) 1 [.ref (ad 3)] (fun r => r = bI ((apA A 8 g 4).2 = true)) := by
  refine xCi0.of (cc := bT_keepsApart) (nL := 3) (ret := (some .boolean)) rfl (by decide) [.ref (ad 3), .null, .null] rfl (Nat.le_of_ble_eq_true rfl) ?_
  intro pp ee ss mm aa bb me cde AA G hr hlk
  have loop : ∀ (j k : Nat), k + j = 4 → (apA A 8 g k).2 = true → xJ pp l ee { frames := 1, cells := 0, slots := 0, locals := 40 * 1 } ss mm aa bb me cde 0 0 (MQ bb (vp_Si (fun r => r = bI ((apA A 8 g 4).2 = true))) aa ss 0 0 (fun _ => False)) D vCl AA 3 (fun H locs => H = ss.heap ∧ locs = []) (wC ad cI cZ cJ σ) [.ref (ad 3), .int (oI (apA A 8 g k).1), .int (nI k)] 4 [] := by
    intro j
    induction j with
    | zero =>
      intro k hk ha
      have hk : k = 4 := by omega
      subst hk
      refine x_iload_n G 2 dT_keepsApart_4 rfl rfl ?_
      refine x_iconst G (4) dT_keepsApart_5 (by decide) ?_
      refine x_icmp_ge G 43 dT_keepsApart_6 (by decide) (fun h6 => ?_) (fun h6 => (by exact absurd (nI_le (show 4 ≤ 4 by omega) (by omega)) h6))
      refine x_iconst G (1) dT_keepsApart_43 (by decide) ?_
      exact x_ret0i G hr hlk rfl dT_keepsApart_44 (by rw [bI_t ha])
    | succ j ih =>
      intro k hk ha
      obtain ⟨hf, hl⟩ := hTS.2 k (by omega)
      refine x_iload_n G 2 dT_keepsApart_4 rfl rfl ?_
      refine x_iconst G (4) dT_keepsApart_5 (by decide) ?_
      refine x_icmp_ge G 43 dT_keepsApart_6 (by decide) (fun h6 => (by exact absurd h6 (nI_ge (show k < 4 by omega) (by decide)))) (fun h6 => ?_)
      refine x_aload_n G 0 dT_keepsApart_9 rfl rfl ?_
      refine x_get G 3 rfl rfl 5 (by decide) rfl (fun w h => .tail _ (iT_ok w h)) (.tail _ wd_147) rfl dT_keepsApart_10 ?_
      refine x_iload_n G 2 dT_keepsApart_13 rfl rfl ?_
      refine x_ialdN G 13 0 rfl rfl (by omega) (by decide) dT_keepsApart_14 ?_
      refine x_iconst G (-1) dT_keepsApart_15 (by decide) ?_
      refine x_icmp_eq G 37 dT_keepsApart_16 (by decide) (fun h16 => ?_) (fun h16 => ?_)
      · have hf0 : fstA A k 8 = none := (oI_m1 (fun b hb => by have := fst_lt hb; omega)).mp (by rw [← hf]; exact h16)
        have e := apA_none (g := g) hf0
        refine x_iinc G (nI (k + 1)) dT_keepsApart_37 rfl (nI_1 k) (by decide) ?_
        refine x_goto G 4 dT_keepsApart_40 (by decide) ?_
        exact x_eq rfl (by first | (rw [e]; rfl) | (rw [← e]; rfl)) rfl rfl (ih (k + 1) (by omega) (by rw [e]; try exact ha))
      · obtain ⟨f, hf1⟩ : ∃ f, fstA A k 8 = some f := by
          cases hq : fstA A k 8 with
          | none => rw [hf, hq] at h16; exact absurd rfl h16
          | some f => exact ⟨f, rfl⟩
        obtain ⟨l0, hl1, hfl, hl8, -⟩ := lst_of_fst hf1
        have hf8 := fst_lt hf1
        refine x_iload_n G 1 dT_keepsApart_19 rfl rfl ?_
        refine x_iconst G (-1) dT_keepsApart_20 (by decide) ?_
        refine x_icmp_eq G 35 dT_keepsApart_21 (by decide) (fun h21 => ?_) (fun h21 => ?_)
        · have h21 : (apA A 8 g k).1 = none := (oI_m1 (fun b hb => by have := (apA_lt hb).1; omega)).mp h21
          have e : apA A 8 g (k + 1) = (some k, true) := by simp [apA, hf1, ha, h21]
          refine x_iload_n G 2 dT_keepsApart_35 rfl rfl ?_
          refine x_istore_n G 1 dT_keepsApart_36 rfl (by decide) ?_
          refine x_iinc G (nI (k + 1)) dT_keepsApart_37 rfl (nI_1 k) (by decide) ?_
          refine x_goto G 4 dT_keepsApart_40 (by decide) ?_
          exact x_eq rfl (by first | (rw [e]; rfl) | (rw [← e]; rfl)) rfl rfl (ih (k + 1) (by omega) (by rw [e]; try exact ha))
        · obtain ⟨d, hd1⟩ : ∃ d, (apA A 8 g k).1 = some d := by
            cases hq : (apA A 8 g k).1 with
            | none => rw [hq] at h21; exact absurd rfl h21
            | some d => exact ⟨d, rfl⟩
          obtain ⟨hdk, f2, hf2⟩ := apA_lt hd1
          obtain ⟨l2, hl2, hfl2, hl28, -⟩ := lst_of_fst hf2
          have hf28 := fst_lt hf2
          obtain ⟨qf, ql⟩ := hTS.2 d (by omega)
          rw [hf2] at qf
          rw [hl2] at ql
          rw [hf1] at hf
          rw [hl1] at hl
          refine x_eq rfl (vs2 := [.ref (ad 3), .int (nI d), .int (nI k)]) (by rw [hd1]; rfl) rfl rfl ?_
          refine x_aload_n G 0 dT_keepsApart_24 rfl rfl ?_
          refine x_iload_n G 1 dT_keepsApart_25 rfl rfl ?_
          refine x_iload_n G 2 dT_keepsApart_26 rfl rfl ?_
          refine x_call0V2i G (cT_tooNear hg hg3 (show d < 4 by omega) (show k < 4 by omega) qf hf ql hl hf28 hf8 hl28 hl8) 3 rfl rfl (cV G.2.2.2.2.1 wd_290 wd_292 wd_10 wd_53 wd_293 (by decide +kernel) ⟨(Nat.le_of_ble_eq_true rfl), (Nat.le_of_ble_eq_true rfl)⟩) dT_keepsApart_27 (Nat.le_of_ble_eq_true rfl) ⟨Nat.zero_le _, Nat.zero_le _⟩ (fun r27 e27 => ?_)
          subst e27
          refine x_if_eq G 35 dT_keepsApart_30 (by decide) (fun h30 => ?_) (fun h30 => ?_)
          · have h30 := bI_eq0.mp h30
            have e : apA A 8 g (k + 1) = (some k, true) := by simp only [apA, hf1, hd1, hf2, hl2, hl1, ha, Option.getD_some, Bool.true_and]; rw [decide_eq_true (by omega), decide_eq_true (by omega)]; rfl
            refine x_iload_n G 2 dT_keepsApart_35 rfl rfl ?_
            refine x_istore_n G 1 dT_keepsApart_36 rfl (by decide) ?_
            refine x_iinc G (nI (k + 1)) dT_keepsApart_37 rfl (nI_1 k) (by decide) ?_
            refine x_goto G 4 dT_keepsApart_40 (by decide) ?_
            exact x_eq rfl (by first | (rw [e]; rfl) | (rw [← e]; rfl)) rfl rfl (ih (k + 1) (by omega) (by rw [e]; try exact ha))
          · have h30 := bI_ne0.mp h30
            have e : (apA A 8 g (k + 1)).2 = false := by simp only [apA, hf1, hd1, hf2, hl2, hl1, ha, Option.getD_some, Bool.true_and]; rcases h30 with q | q; (· rw [decide_eq_false (by omega)]; rfl); (· rw [decide_eq_false (p := l2 + g < l0) (by omega), Bool.and_false])
            refine x_iconst G (0) dT_keepsApart_33 (by decide) ?_
            exact x_ret0i G hr hlk rfl dT_keepsApart_34 (by have := apA_mono e (3 - k); rw [show k + 1 + (3 - k) = 4 by omega] at this; rw [bI_f (by rw [this]; decide)])
  refine x_iconst G (-1) dT_keepsApart_0 (by decide) ?_
  refine x_istore_n G 1 dT_keepsApart_1 rfl (by decide) ?_
  refine x_iconst G (0) dT_keepsApart_2 (by decide) ?_
  refine x_istore_n G 2 dT_keepsApart_3 rfl (by decide) ?_
  exact loop 4 0 (by omega) rfl
set_option maxHeartbeats 4000000 in
set_option maxRecDepth 100000 in
theorem cT_isBetterThan {l : Launch} {D : va_G} {cI cZ cJ : ClassId} {ad : Nat → Nat} {σ : xSg} {f s f' s' : Nat} (hf : σ 3 10 = nI f) (hs : σ 3 11 = nI s) (b1 : f < 2 ^ 31) (b2 : s < 2 ^ 31) (b3 : f' < 2 ^ 31) (b4 : s' < 2 ^ 31) : xCi0 l D vCl (tyC cI cZ cJ) nwW (wC ad cI cZ cJ σ) yT_isBetterThan (.code yT_isBetterThan bT_isBetterThan 3 (some .boolean) :: bigW) 0 [.ref (ad 3), .int (nI f'), .int (nI s')] (fun r => r = bI (f < f' ∨ (f = f' ∧ s < s'))) := by
  refine xCi0.of (cc := bT_isBetterThan) (nL := 3) (ret := (some .boolean)) rfl (by decide) [.ref (ad 3), .int (nI f'), .int (nI s')] rfl (Nat.le_of_ble_eq_true rfl) ?_
  intro pp ee ss mm aa bb me cde AA G hr hlk
  refine x_aload_n G 0 dT_isBetterThan_0 rfl rfl ?_
  refine x_get G 3 rfl rfl 10 (by decide) rfl (fun w h => .tail _ (iT_ok w h)) (.tail _ wd_153) rfl dT_isBetterThan_1 ?_
  refine x_iload_n G 1 dT_isBetterThan_4 rfl rfl ?_
  refine x_icmp_eq G 24 dT_isBetterThan_5 (by decide) (fun h5 => ?_) (fun h5 => ?_)
  · rw [hf, nI_eq b1 b3] at h5
    refine x_aload_n G 0 dT_isBetterThan_24 rfl rfl ?_
    refine x_get G 3 rfl rfl 11 (by decide) rfl (fun w h => .tail _ (iT_ok w h)) (.tail _ wd_156) rfl dT_isBetterThan_25 ?_
    refine x_iload_n G 2 dT_isBetterThan_28 rfl rfl ?_
    refine x_icmp_ge G 36 dT_isBetterThan_29 (by decide) (fun h29 => ?_) (fun h29 => ?_)
    · rw [hs, nI_leI b4 b2] at h29
      refine x_iconst G (0) dT_isBetterThan_36 (by decide) ?_
      exact x_ret0i G hr hlk rfl dT_isBetterThan_37 (by first | rw [bI_t (by omega)] | rw [bI_f (by omega)])
    · rw [hs, nI_leI b4 b2] at h29
      refine x_iconst G (1) dT_isBetterThan_32 (by decide) ?_
      refine x_goto G 37 dT_isBetterThan_33 (by decide) ?_
      exact x_ret0i G hr hlk rfl dT_isBetterThan_37 (by first | rw [bI_t (by omega)] | rw [bI_f (by omega)])
  · rw [hf, nI_eq b1 b3] at h5
    refine x_aload_n G 0 dT_isBetterThan_8 rfl rfl ?_
    refine x_get G 3 rfl rfl 10 (by decide) rfl (fun w h => .tail _ (iT_ok w h)) (.tail _ wd_153) rfl dT_isBetterThan_9 ?_
    refine x_iload_n G 1 dT_isBetterThan_12 rfl rfl ?_
    refine x_icmp_ge G 20 dT_isBetterThan_13 (by decide) (fun h13 => ?_) (fun h13 => ?_)
    · rw [hf, nI_leI b3 b1] at h13
      refine x_iconst G (0) dT_isBetterThan_20 (by decide) ?_
      refine x_goto G 37 dT_isBetterThan_21 (by decide) ?_
      exact x_ret0i G hr hlk rfl dT_isBetterThan_37 (by first | rw [bI_t (by omega)] | rw [bI_f (by omega)])
    · rw [hf, nI_leI b3 b1] at h13
      refine x_iconst G (1) dT_isBetterThan_16 (by decide) ?_
      refine x_goto G 37 dT_isBetterThan_17 (by decide) ?_
      exact x_ret0i G hr hlk rfl dT_isBetterThan_37 (by first | rw [bI_t (by omega)] | rw [bI_f (by omega)])
end
section
/-! Timetable: the times -/
def PS (σ : xSg) (g s : Nat) : Prop := g ≤ 3 ∧ s ≤ 20 ∧ σ 2 1 = nI g ∧ σ 2 5 = nI s
theorem PB.of {σ τ : xSg} {n : Nat} {hh ww : Nat → Nat} (h : PB σ n hh ww) (h1 : τ 1 = σ 1) (h5 : τ 5 = σ 5) (h6 : τ 6 = σ 6) : PB τ n hh ww := by unfold PB; rw [h1, h5, h6]; exact h
theorem PK.of {σ τ : xSg} {C : Nat} {mo mi : Nat → Nat} {ou : Nat → Bool} (h : PK σ C mo mi ou) (h2 : τ 2 = σ 2) (h7 : τ 7 = σ 7) (h8 : τ 8 = σ 8) (h9 : τ 9 = σ 9) : PK τ C mo mi ou := by unfold PK; rw [h2, h7, h8, h9]; exact h
theorem PS.of {σ τ : xSg} {g s : Nat} (h : PS σ g s) (h2 : τ 2 = σ 2) : PS τ g s := by unfold PS; rw [h2]; exact h
def mvF (hh ww : Nat → Nat) (b : Nat) : Nat := hh b + ww b
theorem PB.mv {σ : xSg} {n : Nat} {hh ww : Nat → Nat} (h : PB σ n hh ww) (b : Nat) : mvF hh ww b ≤ 250 := by have := h.2.2.2.1 b; unfold mvF; omega
theorem PB.moves {σ : xSg} {n : Nat} {hh ww : Nat → Nat} (h : PB σ n hh ww) (b : Nat) : (if b < n then σ 5 b + σ 6 b else 0) = nI (mvF hh ww b) := by
  by_cases hb : b < n
  · rw [if_pos hb, (h.2.2.1 b hb).1, (h.2.2.1 b hb).2, nI_add]; rfl
  · rw [if_neg hb]; have := h.2.2.2.2 b (by omega); unfold mvF; rw [this.1, this.2]; rfl
/-- the next crane with bays among the j last ones of four -/
def nxA (A : Nat → Nat) : Nat → Option Nat
  | 0 => none
  | j + 1 => match fstA A (3 - j) 8 with
    | none => nxA A j
    | some _ => some (3 - j)
theorem nxA_none {A : Nat → Nat} {j : Nat} (h : fstA A (3 - j) 8 = none) : nxA A (j + 1) = nxA A j := by simp [nxA, h]
theorem nxA_here {A : Nat → Nat} {j f : Nat} (h : fstA A (3 - j) 8 = some f) : nxA A (j + 1) = some (3 - j) := by simp [nxA, h]
theorem nxA_some {A : Nat → Nat} : ∀ {j d : Nat}, j ≤ 4 → nxA A j = some d → 4 - j ≤ d ∧ d < 4 ∧ (∃ f, fstA A d 8 = some f) ∧ ∀ x, 4 - j ≤ x → x < d → fstA A x 8 = none
  | 0, d, _, h => by simp [nxA] at h
  | j + 1, d, hj, h => by
    cases hf : fstA A (3 - j) 8 with
    | none =>
      rw [nxA_none hf] at h
      obtain ⟨h1, h2, h3, h4⟩ := nxA_some (by omega) h
      refine ⟨by omega, h2, h3, fun x hx1 hx2 => ?_⟩
      rcases (show x = 3 - j ∨ 4 - j ≤ x by omega) with q | q
      · rw [q]; exact hf
      · exact h4 x q hx2
    | some f =>
      rw [nxA_here hf] at h
      cases h
      exact ⟨by omega, by omega, ⟨f, hf⟩, fun x h1 h2 => by omega⟩
theorem wtA_none {A mv mo mi : Nat → Nat} {g s : Nat} : ∀ {j : Nat}, nxA A j = none → wtA A mv mo mi 8 g s j = fun _ => 0
  | 0, _ => rfl
  | j + 1, h => by
    cases hf : fstA A (3 - j) 8 with
    | none =>
      rw [nxA_none hf] at h
      have := wtA_none (mv := mv) (mo := mo) (mi := mi) (g := g) (s := s) h
      unfold wtA
      simp only [hf]
      exact this
    | some f => rw [nxA_here hf] at h; cases h
theorem wtA_some {A mv mo mi : Nat → Nat} {g s : Nat} : ∀ {j d : Nat}, j ≤ 4 → nxA A j = some d → wtA A mv mo mi 8 g s j = cmA A mv mo mi 8 g s d
  | 0, d, _, h => by simp [nxA] at h
  | j + 1, d, hj, h => by
    cases hf : fstA A (3 - j) 8 with
    | none =>
      rw [nxA_none hf] at h
      have := wtA_some (mv := mv) (mo := mo) (mi := mi) (g := g) (s := s) (by omega) h
      unfold wtA
      simp only [hf]
      exact this
    | some f =>
      rw [nxA_here hf] at h
      cases h
      funext b
      unfold wtA cmA
      simp only [hf, Option.getD_some]
      rw [show 3 - (3 - j) = j by omega]
theorem apA_prev {A : Nat → Nat} {n g c f : Nat} (hc : fstA A c n = some f) : ∀ (j : Nat), (∀ x, c < x → x < c + 1 + j → fstA A x n = none) → (apA A n g (c + 1 + j)).1 = some c
  | 0, _ => by simp [apA, hc]
  | j + 1, h => by
    have ih := apA_prev (g := g) hc j (fun x h1 h2 => h x h1 (by omega))
    show (apA A n g (c + 1 + j + 1)).1 = some c
    rw [apA_none (h (c + 1 + j) (by omega) (by omega))]
    exact ih
theorem apA_ok {A : Nat → Nat} {n g : Nat} : ∀ {k : Nat} (j : Nat), (apA A n g (k + j)).2 = true → (apA A n g k).2 = true
  | k, j, h => by
    cases hk : (apA A n g k).2 with
    | true => rfl
    | false => rw [apA_mono hk j] at h; exact h
/-- of a crane and the next one with bays: the bounds that keep them apart -/
theorem apart_next {A : Nat → Nat} {g c d f : Nat} (hok : (apA A 8 g 4).2 = true) (hc : c < 4) (hf : fstA A c 8 = some f) (hd : nxA A (3 - c) = some d) : (lstA A c 8).getD 0 + g < (lstA A d 8).getD 0 := by
  obtain ⟨h1, h2, ⟨f2, h3⟩, h4⟩ := nxA_some (by omega) hd
  have hp : (apA A 8 g d).1 = some c := by
    have := apA_prev (g := g) hf (d - c - 1) (fun x q1 q2 => h4 x (by omega) (by omega))
    rw [show c + 1 + (d - c - 1) = d by omega] at this
    exact this
  have hk : (apA A 8 g (d + 1)).2 = true := apA_ok (3 - d) (by rw [show d + 1 + (3 - d) = 4 by omega]; exact hok)
  unfold apA at hk
  simp only [h3, hp, Bool.and_eq_true, decide_eq_true_eq] at hk
  exact hk.2.2
set_option maxHeartbeats 4000000 in
set_option maxRecDepth 100000 in
theorem cT_whenCame0 {l : Launch} {D : va_G} {cI cZ cJ : ClassId} {ad : Nat → Nat} {σ : xSg} {b : Int32} : xCi0 l D vCl (tyC cI cZ cJ) nwW (wC ad cI cZ cJ σ) yT_whenCame (.code yT_whenCame bT_whenCame 3 (some .int) :: bigW) 1 [.ref (ad 3), .int (-1), .int b] (fun r => r = 0) := by
  refine xCi0.of (cc := bT_whenCame) (nL := 3) (ret := (some .int)) rfl (by decide) [.ref (ad 3), .int (-1), .int b] rfl (Nat.le_of_ble_eq_true rfl) ?_
  intro pp ee ss mm aa bb me cde AA G hr hlk
  refine x_aload_n G 0 dT_whenCame_0 rfl rfl ?_
  refine x_get G 3 rfl rfl 1 (by decide) rfl (fun w h => .tail _ (iT_ok w h)) (.tail _ wd_142) rfl dT_whenCame_1 ?_
  refine x_iload_n G 1 dT_whenCame_4 rfl rfl ?_
  refine x_call0VN1i G cK_has 2 rfl rfl (cVN G.2.2.2.2.1 G.2.2.2.2.2.2.1 nd_285 wd_268 wd_5 wd_50 wd_269 (by decide +kernel) ⟨(Nat.le_of_ble_eq_true rfl), (Nat.le_of_ble_eq_true rfl)⟩) dT_whenCame_5 (Nat.le_of_ble_eq_true rfl) ⟨Nat.zero_le _, Nat.zero_le _⟩ (fun r5 e5 => ?_)
  subst e5
  refine x_if_eq G 37 dT_whenCame_8 (by decide) (fun h8 => ?_) (fun h8 => (by have h8 := bI_ne0.mp h8; exact absurd (by decide) h8.1))
  refine x_iconst G (0) dT_whenCame_37 (by decide) ?_
  exact x_ret0i G hr hlk rfl dT_whenCame_38 rfl
set_option maxHeartbeats 4000000 in
set_option maxRecDepth 100000 in
theorem cT_whenCame {l : Launch} {D : va_G} {cI cZ cJ : ClassId} {ad : Nat → Nat} {σ : xSg} {C d f l' b : Nat} (hC : σ 2 0 = nI C) (hC4 : C ≤ 4) (hd : d < C) (hf : σ 13 d = nI f) (hl : σ 14 d = nI l') (bf : f < 8) (bl : l' < 8) (hb : b < 2 ^ 30) : xCi0 l D vCl (tyC cI cZ cJ) nwW (wC ad cI cZ cJ σ) yT_whenCame (.code yT_whenCame bT_whenCame 3 (some .int) :: bigW) 1 [.ref (ad 3), .int (nI d), .int (nI b)] (fun r => r = if b ≤ f ∨ l' < b ∨ 8 ≤ b then 0 else σ (16 + d) b) := by
  refine xCi0.of (cc := bT_whenCame) (nL := 3) (ret := (some .int)) rfl (by decide) [.ref (ad 3), .int (nI d), .int (nI b)] rfl (Nat.le_of_ble_eq_true rfl) ?_
  intro pp ee ss mm aa bb me cde AA G hr hlk
  refine x_aload_n G 0 dT_whenCame_0 rfl rfl ?_
  refine x_get G 3 rfl rfl 1 (by decide) rfl (fun w h => .tail _ (iT_ok w h)) (.tail _ wd_142) rfl dT_whenCame_1 ?_
  refine x_iload_n G 1 dT_whenCame_4 rfl rfl ?_
  refine x_call0VN1i G (cK_hasN hC hC4 (by omega)) 2 rfl rfl (cVN G.2.2.2.2.1 G.2.2.2.2.2.2.1 nd_285 wd_268 wd_5 wd_50 wd_269 (by decide +kernel) ⟨(Nat.le_of_ble_eq_true rfl), (Nat.le_of_ble_eq_true rfl)⟩) dT_whenCame_5 (Nat.le_of_ble_eq_true rfl) ⟨Nat.zero_le _, Nat.zero_le _⟩ (fun r5 e5 => ?_)
  subst e5
  refine x_if_eq G 37 dT_whenCame_8 (by decide) (fun h8 => (by have h8 := bI_eq0.mp h8; omega)) (fun h8 => ?_)
  refine x_iload_n G 2 dT_whenCame_11 rfl rfl ?_
  refine x_aload_n G 0 dT_whenCame_12 rfl rfl ?_
  refine x_get G 3 rfl rfl 5 (by decide) rfl (fun w h => .tail _ (iT_ok w h)) (.tail _ wd_147) rfl dT_whenCame_13 ?_
  refine x_iload_n G 1 dT_whenCame_16 rfl rfl ?_
  refine x_ialdN G 13 0 rfl rfl (by omega) (by decide) dT_whenCame_17 ?_
  refine x_icmp_le G 37 dT_whenCame_18 (by decide) (fun h18 => ?_) (fun h18 => ?_)
  · rw [hf, nI_leI (by omega) (by omega)] at h18
    refine x_iconst G (0) dT_whenCame_37 (by decide) ?_
    exact x_ret0i G hr hlk rfl dT_whenCame_38 (by rw [if_pos (by omega)])
  · rw [hf, nI_leI (by omega) (by omega)] at h18
    refine x_iload_n G 2 dT_whenCame_21 rfl rfl ?_
    refine x_aload_n G 0 dT_whenCame_22 rfl rfl ?_
    refine x_get G 3 rfl rfl 6 (by decide) rfl (fun w h => .tail _ (iT_ok w h)) (.tail _ wd_148) rfl dT_whenCame_23 ?_
    refine x_iload_n G 1 dT_whenCame_26 rfl rfl ?_
    refine x_ialdN G 14 0 rfl rfl (by omega) (by decide) dT_whenCame_27 ?_
    refine x_icmp_gt G 37 dT_whenCame_28 (by decide) (fun h28 => ?_) (fun h28 => ?_)
    · rw [hl, nI_ltI (by omega) (by omega)] at h28
      refine x_iconst G (0) dT_whenCame_37 (by decide) ?_
      exact x_ret0i G hr hlk rfl dT_whenCame_38 (by rw [if_pos (by omega)])
    · rw [hl, nI_ltI (by omega) (by omega)] at h28
      refine x_iload_n G 2 dT_whenCame_31 rfl rfl ?_
      refine x_bipush G (8) dT_whenCame_32 (by decide) ?_
      refine x_icmp_lt G 39 dT_whenCame_34 (by decide) (fun h34 => ?_) (fun h34 => ?_)
      · rw [show (8 : Int32) = nI 8 from rfl, nI_ltI (by omega) (by omega)] at h34
        refine x_aload_n G 0 dT_whenCame_39 rfl rfl ?_
        refine x_get G 3 rfl rfl 7 (by decide) rfl (fun w h => .tail _ (iT_ok w h)) (.tail _ wd_149) rfl dT_whenCame_40 ?_
        refine x_iload_n G 1 dT_whenCame_43 rfl rfl ?_
        refine x_aald G 15 2 rfl rfl rfl (show d < 4 by omega) (by decide) (if_pos (by omega)) dT_whenCame_44 ?_
        refine x_iload_n G 2 dT_whenCame_45 rfl rfl ?_
        refine x_ialdN G (16 + d) 0 (wC_row (by omega)) rfl (by omega) (by decide) dT_whenCame_46 ?_
        exact x_ret0i G hr hlk rfl dT_whenCame_47 (by rw [if_neg (by omega)])
      · rw [show (8 : Int32) = nI 8 from rfl, nI_ltI (by omega) (by omega)] at h34
        refine x_iconst G (0) dT_whenCame_37 (by decide) ?_
        exact x_ret0i G hr hlk rfl dT_whenCame_38 (by rw [if_pos (by omega)])
/-- the end of a bay's work by the sharing -/
def enA (A mv mo mi : Nat → Nat) (g s b : Nat) : Nat := cmA A mv mo mi 8 g s (A b) b + tkA mv mo mi (A b) b
/-- the times of the cranes from c on stand: their rows, the bays' begins and ends, the finish -/
def TM (σ : xSg) (A mv mo mi : Nat → Nat) (g s c : Nat) : Prop :=
  (∀ d f l', c ≤ d → d < 4 → fstA A d 8 = some f → lstA A d 8 = some l' → ∀ b, f ≤ b → b ≤ l' → σ (16 + d) b = nI (cmA A mv mo mi 8 g s d b)) ∧
  (∀ b, b < 8 → c ≤ A b → A b < 4 → σ 11 b = nI (cmA A mv mo mi 8 g s (A b) b) ∧ σ 12 b = nI (enA A mv mo mi g s b)) ∧
  σ 3 10 = nI (fiG (fun b => decide (c ≤ A b ∧ A b < 4)) (enA A mv mo mi g s) 8)
/-- .. and of crane c the bays below k -/
def TMk (σ : xSg) (A mv mo mi : Nat → Nat) (g s c f k : Nat) : Prop :=
  (∀ b, f ≤ b → b < k → σ (16 + c) b = nI (cmA A mv mo mi 8 g s c b)) ∧
  (∀ d f l', c + 1 ≤ d → d < 4 → fstA A d 8 = some f → lstA A d 8 = some l' → ∀ b, f ≤ b → b ≤ l' → σ (16 + d) b = nI (cmA A mv mo mi 8 g s d b)) ∧
  (∀ b, b < 8 → ((c + 1 ≤ A b ∧ A b < 4) ∨ (A b = c ∧ b < k)) → σ 11 b = nI (cmA A mv mo mi 8 g s (A b) b) ∧ σ 12 b = nI (enA A mv mo mi g s b)) ∧
  σ 3 10 = nI (fiG (fun b => decide ((c + 1 ≤ A b ∧ A b < 4) ∨ (A b = c ∧ b < k))) (enA A mv mo mi g s) 8)
/-- what the times leave as it was -/
def TO (σ u : xSg) : Prop := u 3 9 = σ 3 9 ∧ u 3 11 = σ 3 11 ∧ ∀ q, q ≠ 3 → q ≠ 11 → q ≠ 12 → (∀ c, c < 4 → q ≠ 16 + c) → u q = σ q
theorem TO.rf {σ : xSg} : TO σ σ := ⟨rfl, rfl, fun _ _ _ _ _ => rfl⟩
theorem TO.tr {σ u v : xSg} (h1 : TO σ u) (h2 : TO u v) : TO σ v := ⟨h2.1.trans h1.1, h2.2.1.trans h1.2.1, fun q a b c d => (h2.2.2 q a b c d).trans (h1.2.2 q a b c d)⟩
theorem TO.o {σ u : xSg} (h : TO σ u) {q : Nat} (hq : q < 11 ∧ q ≠ 3 ∨ (12 < q ∧ q < 16) ∨ 20 ≤ q) : u q = σ q := h.2.2 q (by omega) (by omega) (by omega) (fun c hc => by omega)
theorem TO.TS {σ u : xSg} {A : Nat → Nat} (h : TO σ u) (hT : TS σ A) : TS u A := hT.of (h.o (by omega)) (h.o (by omega)) (h.o (by omega))
/-- one bay more, its work there or not -/
theorem TMk.step {σ u : xSg} {A mv mo mi : Nat → Nat} {g s c f k : Nat} (h : TMk σ A mv mo mi g s c f k) (hk : k < 8) (hc : c < 4)
    (hr : u (16 + c) = upd (σ (16 + c)) k (nI (cmA A mv mo mi 8 g s c k))) (hro : ∀ d, d < 4 → d ≠ c → u (16 + d) = σ (16 + d))
    (h1 : A k ≠ c → u 11 = σ 11 ∧ u 12 = σ 12 ∧ u 3 10 = σ 3 10)
    (h2 : A k = c → u 11 = upd (σ 11) k (nI (cmA A mv mo mi 8 g s c k)) ∧ u 12 = upd (σ 12) k (nI (enA A mv mo mi g s k)) ∧ u 3 10 = nI (max (fiG (fun b => decide ((c + 1 ≤ A b ∧ A b < 4) ∨ (A b = c ∧ b < k))) (enA A mv mo mi g s) 8) (enA A mv mo mi g s k))) : TMk u A mv mo mi g s c f (k + 1) := by
  obtain ⟨q1, q2, q3, q4⟩ := h
  refine ⟨fun b hb1 hb2 => ?_, fun d f' l' hd1 hd2 hf hl b hb1 hb2 => ?_, fun b hb hd => ?_, ?_⟩
  · rw [hr]
    by_cases e : b = k
    · subst e; simp [upd]
    · simp [upd, e]; exact q1 b hb1 (by omega)
  · rw [hro d hd2 (by omega)]; exact q2 d f' l' hd1 hd2 hf hl b hb1 hb2
  · by_cases hA : A k = c
    · obtain ⟨e1, e2, -⟩ := h2 hA
      rw [e1, e2]
      by_cases e : b = k
      · subst e; simp [upd, hA]
      · simp [upd, e]; exact q3 b hb (by omega)
    · obtain ⟨e1, e2, -⟩ := h1 hA
      rw [e1, e2]
      refine q3 b hb ?_
      rcases hd with q | ⟨q, r⟩
      · exact Or.inl q
      · refine Or.inr ⟨q, ?_⟩
        rcases (show b < k ∨ b = k by omega) with z | z
        · exact z
        · rw [z] at q; exact absurd q hA
  · by_cases hA : A k = c
    · rw [(h2 hA).2.2]
      have e : fiG (fun b => decide ((c + 1 ≤ A b ∧ A b < 4) ∨ (A b = c ∧ b < k + 1))) (enA A mv mo mi g s) 8 = fiG (fun b => decide ((c + 1 ≤ A b ∧ A b < 4) ∨ (A b = c ∧ b < k)) || b == k) (enA A mv mo mi g s) 8 := by
        refine fiG_congr (fun b hb => ?_) (fun _ _ _ => rfl)
        by_cases e : b = k
        · subst e; simp [hA]
        · have e2 : (b < k + 1) = (b < k) := by apply propext; omega
          simp [e, e2]
      rw [e, fiG_add, if_pos hk]
    · rw [(h1 hA).2.2, q4]
      congr 1
      refine fiG_congr (fun b hb => ?_) (fun _ _ _ => rfl)
      by_cases e : b = k
      · subst e; simp [hA]
      · have e2 : (b < k + 1) = (b < k) := by apply propext; omega
        simp [e2]
set_option maxHeartbeats 4000000 in
set_option maxRecDepth 100000 in
theorem cT_setTimesOf {l : Launch} {D : va_G} {cI cZ cJ : ClassId} {ad : Nat → Nat} {σ : xSg} {A : Nat → Nat} {n C g s : Nat} {hh ww mo mi : Nat → Nat} {ou : Nat → Bool} (hB : PB σ n hh ww) (hK : PK σ C mo mi ou) (hS : PS σ g s) (hTS : TS σ A) (hok : (apA A 8 g 4).2 = true) (hAC : ∀ b, A b < 4 → A b < C) {c f l' : Nat} (hc : c < 4) (hf : fstA A c 8 = some f) (hlc : lstA A c 8 = some l') (hM0 : TMk σ A (mvF hh ww) mo mi g s c f f) : xCv l D vCl (tyC cI cZ cJ) nwW (wC ad cI cZ cJ) yT_setTimesOf (.code yT_setTimesOf bT_setTimesOf 5 none :: bigW) 2 [.ref (ad 3), .int (nI c), .int (oI (nxA A (3 - c)))] σ (fun u => TMk u A (mvF hh ww) mo mi g s c f (l' + 1) ∧ TO σ u) := by
  refine xCv.of (cc := bT_setTimesOf) (nL := 5) (ret := none) rfl (by decide) [.ref (ad 3), .int (nI c), .int (oI (nxA A (3 - c))), .null, .null] rfl (Nat.le_of_ble_eq_true rfl) ?_
  intro pp ee ss mm aa bb me cde AA G hr hlk
  obtain ⟨hn8, hnt, hbw, hbb, hb0⟩ := id hB
  obtain ⟨hC1, hC4, hC, hrt, hbd⟩ := id hK
  obtain ⟨hg3, hs20, hg, hs⟩ := id hS
  have hmv := hB.mv
  obtain ⟨l0, hl1, hfl, hl8, hAl⟩ := lst_of_fst hf
  rw [hlc] at hl1; cases hl1
  have hf8 := fst_lt hf
  have hc4 : c < 4 := hc
  have hcC : c < C := by have := hAC l' (by rw [hAl]; exact hc); rw [hAl] at this; exact this
  have hcmle : ∀ d b, d < 4 → b < 8 → cmA A (mvF hh ww) mo mi 8 g s d b ≤ 675540 := fun d b q1 q2 => cmA_le hmv (fun c _ => (hbd c).2.2.2) (fun c _ => (hbd c).1) hg3 hs20 q1 q2
  have htkle : ∀ d b, tkA (mvF hh ww) mo mi d b ≤ 25000 := fun d b => tkA_le (hmv b) (hbd d).2.2.2 (hbd d).1
  have hfile : ∀ (P : Nat → Bool), (∀ b, P b = true → A b < 4) → fiG P (enA A (mvF hh ww) mo mi g s) 8 ≤ 700540 := fun P hP => fiG_le (fun b hb hp => by have q1 := hcmle (A b) b (hP b hp) hb; have q2 := htkle (A b) b; unfold enA; omega)
  have fin : ∀ (σ1 : xSg) (tz : Int32), TMk σ1 A (mvF hh ww) mo mi g s c f (l' + 1) → TO σ σ1 → xJ pp l ee { frames := 2, cells := 0, slots := 0, locals := 40 * 2 } ss mm aa bb me cde 0 0 (MQ bb (va_Qv (fun u => TMk u A (mvF hh ww) mo mi g s c f (l' + 1) ∧ TO σ u) (fun u t => va_P D vCl (wC ad cI cZ cJ u) t.heap ∧ va_D AA (wC ad cI cZ cJ u)) AA) aa ss 0 0 AA) D vCl AA 5 (va_S AA ss.heap) (wC ad cI cZ cJ σ1) [.ref (ad 3), .int (nI c), .int (oI (nxA A (3 - c))), .int tz, .int (nI (l' + 1))] 14 [] := by
    intro σ1 tz hM hO
    have hl14 : σ1 14 c = nI l' := by rw [hO.o (by omega), (hTS.2 c hc4).2, hlc]; rfl
    refine x_iload G dT_setTimesOf_14 rfl ?_
    refine x_aload_n G 0 dT_setTimesOf_16 rfl rfl ?_
    refine x_get G 3 rfl rfl 6 (by decide) rfl (fun w h => .tail _ (iT_ok w h)) (.tail _ wd_148) rfl dT_setTimesOf_17 ?_
    refine x_iload_n G 1 dT_setTimesOf_20 rfl rfl ?_
    refine x_ialdN G 14 0 rfl rfl (by omega) (by decide) dT_setTimesOf_21 ?_
    refine x_icmp_gt G 137 dT_setTimesOf_22 (by decide) (fun h22 => ?_) (fun h22 => (by rw [hl14] at h22; exact absurd (nI_lt (by omega) (by omega)) h22))
    exact x_retv G hr hlk dT_setTimesOf_137 ⟨hM, hO⟩
  have loop : ∀ (j k : Nat), k + j = l' → f ≤ k → ∀ (σ1 : xSg), TMk σ1 A (mvF hh ww) mo mi g s c f k → TO σ σ1 → xJ pp l ee { frames := 2, cells := 0, slots := 0, locals := 40 * 2 } ss mm aa bb me cde 0 0 (MQ bb (va_Qv (fun u => TMk u A (mvF hh ww) mo mi g s c f (l' + 1) ∧ TO σ u) (fun u t => va_P D vCl (wC ad cI cZ cJ u) t.heap ∧ va_D AA (wC ad cI cZ cJ u)) AA) aa ss 0 0 AA) D vCl AA 5 (va_S AA ss.heap) (wC ad cI cZ cJ σ1) [.ref (ad 3), .int (nI c), .int (oI (nxA A (3 - c))), .int (nI (cmA A (mvF hh ww) mo mi 8 g s c k)), .int (nI k)] 14 [] := by
    intro j
    induction j with
    | zero =>
      intro k hk hfk σ1 hM hO
      have hB1 := hB.of (hO.o (q := 1) (by omega)) (hO.o (q := 5) (by omega)) (hO.o (q := 6) (by omega))
      have hK1 := hK.of (hO.o (q := 2) (by omega)) (hO.o (q := 7) (by omega)) (hO.o (q := 8) (by omega)) (hO.o (q := 9) (by omega))
      have h210 : σ1 2 = σ 2 := hO.o (by omega)
      have hl14 : σ1 14 c = nI l' := by rw [hO.o (by omega), (hTS.2 c hc4).2, hlc]; rfl
      have h10 : σ1 10 k = aI (A k) := by rw [hO.o (by omega)]; exact hTS.1 k (by omega)
      have hcmk := hcmle c k hc4 (by omega)
      refine x_iload G dT_setTimesOf_14 rfl ?_
      refine x_aload_n G 0 dT_setTimesOf_16 rfl rfl ?_
      refine x_get G 3 rfl rfl 6 (by decide) rfl (fun w h => .tail _ (iT_ok w h)) (.tail _ wd_148) rfl dT_setTimesOf_17 ?_
      refine x_iload_n G 1 dT_setTimesOf_20 rfl rfl ?_
      refine x_ialdN G 14 0 rfl rfl (by omega) (by decide) dT_setTimesOf_21 ?_
      refine x_icmp_gt G 137 dT_setTimesOf_22 (by decide) (fun h22 => (by rw [hl14, nI_ltI (by omega) (by omega)] at h22; omega)) (fun h22 => ?_)
      refine x_iload G dT_setTimesOf_25 rfl ?_
      refine x_bipush G (8) dT_setTimesOf_27 (by decide) ?_
      refine x_icmp_ge G 137 dT_setTimesOf_29 (by decide) (fun h29 => (by exact absurd h29 (nI_ge (show k < 8 by omega) (by decide)))) (fun h29 => ?_)
      refine x_aload_n G 0 dT_setTimesOf_32 rfl rfl ?_
      refine x_get G 3 rfl rfl 7 (by decide) rfl (fun w h => .tail _ (iT_ok w h)) (.tail _ wd_149) rfl dT_setTimesOf_33 ?_
      refine x_iload_n G 1 dT_setTimesOf_36 rfl rfl ?_
      refine x_aald G 15 2 rfl rfl rfl hc4 (by decide) (if_pos hc4) dT_setTimesOf_37 ?_
      refine x_iload G dT_setTimesOf_38 rfl ?_
      refine x_iload_n G 3 dT_setTimesOf_40 rfl rfl ?_
      refine x_iastN G (16 + c) 0 (wC_row hc4) rfl (wC_rowSet hc4) (by omega) (by decide) dT_setTimesOf_41 ?_
      refine x_aload_n G 0 dT_setTimesOf_42 rfl rfl ?_
      refine x_get G 3 rfl rfl 2 (by decide) rfl (fun w h => .tail _ (iT_ok w h)) (.tail _ wd_143) rfl dT_setTimesOf_43 ?_
      refine x_iload G dT_setTimesOf_46 rfl ?_
      refine x_ialdN G 10 0 rfl rfl (by omega) (by decide) dT_setTimesOf_48 ?_
      refine x_iload_n G 1 dT_setTimesOf_49 rfl rfl ?_
      refine x_icmp_ne G 101 dT_setTimesOf_50 (by decide) (fun h50 => ?_) (fun h50 => ?_)
      · have hAk : A k ≠ c := fun q => h50 (by show sst σ1 (16 + c) k _ 10 k = nI c; rw [sst_q (by omega), h10]; exact (aI_eq hc4).mpr q)
        have hM2 : TMk (sst σ1 (16 + c) k (nI (cmA A (mvF hh ww) mo mi 8 g s c k))) A (mvF hh ww) mo mi g s c f (k + 1) := hM.step (by omega) hc4 sst_up (fun d hd1 hd2 => sst_ne (by omega)) (fun _ => ⟨sst_ne (by omega), sst_ne (by omega), sst_q (by omega)⟩) (fun q => absurd q hAk)
        have hO2 : TO σ (sst σ1 (16 + c) k (nI (cmA A (mvF hh ww) mo mi 8 g s c k))) := hO.tr ⟨sst_q (by omega), sst_q (by omega), fun q q3 q11 q12 q16 => sst_ne (q16 c hc4)⟩
        have hdu : duA A (mvF hh ww) mo mi c k = 0 := by simp [duA, hAk]
        have e2 : (sst σ1 (16 + c) k (nI (cmA A (mvF hh ww) mo mi 8 g s c k))) 2 = σ 2 := hO2.o (by omega)
        generalize sst σ1 (16 + c) k (nI (cmA A (mvF hh ww) mo mi 8 g s c k)) = σ2 at hM2 hO2 e2 ⊢
        have hcmd : cmA A (mvF hh ww) mo mi 8 g s c k = cmA A (mvF hh ww) mo mi 8 g s c k + duA A (mvF hh ww) mo mi c k := by rw [hdu]; rfl
        refine x_iload_n G 3 dT_setTimesOf_101 rfl rfl ?_
        refine x_aload_n G 0 dT_setTimesOf_102 rfl rfl ?_
        refine x_iload_n G 2 dT_setTimesOf_103 rfl rfl ?_
        refine x_iload G dT_setTimesOf_104 rfl ?_
        refine x_iconst G (2) dT_setTimesOf_106 (by decide) ?_
        refine x_iadd G dT_setTimesOf_107 ?_
        refine x_aload_n G 0 dT_setTimesOf_108 rfl rfl ?_
        refine x_get G 3 rfl rfl 1 (by decide) rfl (fun w h => .tail _ (iT_ok w h)) (.tail _ wd_142) rfl dT_setTimesOf_109 ?_
        refine x_getN G 2 rfl rfl 1 (by decide) rfl (fun w h => .tail _ (iK_ok w h)) nd_112 rfl dT_setTimesOf_112 ?_
        refine x_iadd G dT_setTimesOf_115 ?_
        refine x_top (z := nI (k + 2 + g)) (by rw [e2, hg]; show nI k + nI 2 + nI g = _; rw [nI_add, nI_add]) ?_
        have hwc : xCi0 l D vCl (tyC cI cZ cJ) nwW (wC ad cI cZ cJ σ2) yT_whenCame (.code yT_whenCame bT_whenCame 3 (some .int) :: bigW) 1 [.ref (ad 3), .int (oI (nxA A (3 - c))), .int (nI (k + 2 + g))] (fun r => k < l' → r = nI (wtA A (mvF hh ww) mo mi 8 g s (3 - c) (k + 2 + g))) := by
          cases hnx : nxA A (3 - c) with
          | none => exact cT_whenCame0.mono (fun r hr _ => by rw [hr, wtA_none hnx]; rfl)
          | some d =>
            obtain ⟨d1, d2, ⟨fd, d3⟩, d4⟩ := nxA_some (by omega) hnx
            obtain ⟨ld, d5, d6, d7, d8⟩ := lst_of_fst d3
            have hap := apart_next hok hc4 hf hnx
            rw [hlc, d5] at hap
            have hap : l' + g < ld := hap
            have hdC : d < C := by have := hAC ld (by rw [d8]; exact d2); rw [d8] at this; exact this
            refine (cT_whenCame (C := C) (f := fd) (l' := ld) (by rw [e2]; exact hC) hC4 hdC (by rw [hO2.o (by omega), (hTS.2 d d2).1, d3]; rfl) (by rw [hO2.o (by omega), (hTS.2 d d2).2, d5]; rfl) (fst_lt d3) d7 (by omega)).mono (fun r hr hkl => ?_)
            rw [hr, wtA_some (by omega) hnx]
            by_cases hq : k + 2 + g ≤ fd
            · rw [if_pos (Or.inl hq)]; unfold cmA; rw [d3, Option.getD_some, tim_low hq]; rfl
            · rw [if_neg (by omega)]; exact hM2.2.1 d fd ld (by omega) d2 d3 d5 _ (by omega) (by omega)
        refine x_call0V2i G hwc 3 rfl rfl (cV G.2.2.2.2.1 wd_311 wd_313 wd_14 wd_53 wd_314 (by decide +kernel) ⟨(Nat.le_of_ble_eq_true rfl), (Nat.le_of_ble_eq_true rfl)⟩) dT_setTimesOf_116 (Nat.le_of_ble_eq_true rfl) ⟨Nat.zero_le _, Nat.zero_le _⟩ (fun r116 e116 => ?_)
        refine x_mmax G (.tail _ wd_302) (.tail _ wd_101) (.tail _ wd_51) (.tail _ wd_102) ⟨(Nat.le_of_ble_eq_true rfl), (Nat.le_of_ble_eq_true rfl), Nat.zero_le _, Nat.zero_le _⟩ dT_setTimesOf_119 ?_
        refine x_aload_n G 0 dT_setTimesOf_122 rfl rfl ?_
        refine x_get G 3 rfl rfl 1 (by decide) rfl (fun w h => .tail _ (iT_ok w h)) (.tail _ wd_142) rfl dT_setTimesOf_123 ?_
        refine x_getN G 2 rfl rfl 5 (by decide) rfl (fun w h => .tail _ (iK_ok w h)) nd_118 rfl dT_setTimesOf_126 ?_
        rw [e2, hs]
        refine x_iadd G dT_setTimesOf_129 ?_
        refine x_istore_n G 3 dT_setTimesOf_130 rfl (by decide) ?_
        refine x_iinc G (nI (k + 1)) dT_setTimesOf_131 rfl (nI_1 k) (by decide) ?_
        refine x_goto G 14 dT_setTimesOf_134 (by decide) ?_
        exact x_eq rfl (by rw [show l' = k by omega]; rfl) rfl rfl (fin σ2 _ (by rw [show l' + 1 = k + 1 by omega]; exact hM2) hO2)
      · have hAk : A k = c := by rw [show sst σ1 (16 + c) k (nI (cmA A (mvF hh ww) mo mi 8 g s c k)) 10 k = σ1 10 k from sst_q (by omega), h10] at h50; exact (aI_eq hc4).mp h50
        have htk := htkle c k
        have hdu : duA A (mvF hh ww) mo mi c k = tkA (mvF hh ww) mo mi c k := by simp [duA, hAk]
        have hen : enA A (mvF hh ww) mo mi g s k = cmA A (mvF hh ww) mo mi 8 g s c k + tkA (mvF hh ww) mo mi c k := by unfold enA; rw [hAk]
        have hfl2 := hfile (fun b => decide ((c + 1 ≤ A b ∧ A b < 4) ∨ (A b = c ∧ b < k))) (fun b q => by simp at q; omega)
        refine x_aload_n G 0 dT_setTimesOf_53 rfl rfl ?_
        refine x_get G 3 rfl rfl 3 (by decide) rfl (fun w h => .tail _ (iT_ok w h)) (.tail _ wd_145) rfl dT_setTimesOf_54 ?_
        refine x_iload G dT_setTimesOf_57 rfl ?_
        refine x_iload_n G 3 dT_setTimesOf_59 rfl rfl ?_
        refine x_iastN G 11 0 rfl rfl warr_11 (by omega) (by decide) dT_setTimesOf_60 ?_
        refine x_iload_n G 3 dT_setTimesOf_61 rfl rfl ?_
        refine x_aload_n G 0 dT_setTimesOf_62 rfl rfl ?_
        refine x_get G 3 rfl rfl 1 (by decide) rfl (fun w h => .tail _ (iT_ok w h)) (.tail _ wd_142) rfl dT_setTimesOf_63 ?_
        refine x_iload_n G 1 dT_setTimesOf_66 rfl rfl ?_
        refine x_aload_n G 0 dT_setTimesOf_67 rfl rfl ?_
        refine x_get G 3 rfl rfl 0 (by decide) rfl (fun w h => .tail _ (iT_ok w h)) (.tail _ wd_141) rfl dT_setTimesOf_68 ?_
        refine x_iload G dT_setTimesOf_71 rfl ?_
        refine x_call0VN1i G (cB_movesOf (σ := sst (sst σ1 (16 + c) k (nI (cmA A (mvF hh ww) mo mi 8 g s c k))) 11 k (nI (cmA A (mvF hh ww) mo mi 8 g s c k))) (n := n) (by rw [sst_q (by omega), sst_q (by omega)]; exact hB1.2.1) hn8 (by omega)) 1 rfl rfl (cVN G.2.2.2.2.1 G.2.2.2.2.2.2.1 nd_303 wd_256 wd_2 wd_49 wd_257 (by decide +kernel) ⟨(Nat.le_of_ble_eq_true rfl), (Nat.le_of_ble_eq_true rfl)⟩) dT_setTimesOf_73 (Nat.le_of_ble_eq_true rfl) ⟨Nat.zero_le _, Nat.zero_le _⟩ (fun r73 e73 => ?_)
        refine x_top (z := nI (mvF hh ww k)) (by rw [e73, ← hB1.moves k, sst_q (by omega), sst_q (by omega), sst_q (by omega), sst_q (by omega)]) ?_
        refine x_call0VN2i G (cK_timeFor (hK1.of (by rw [sst_ne (by omega), sst_ne (by omega)]) (by rw [sst_ne (by omega), sst_ne (by omega)]) (by rw [sst_ne (by omega), sst_ne (by omega)]) (by rw [sst_ne (by omega), sst_ne (by omega)])) hcC (by have := hmv k; omega)) 2 rfl rfl (cVN G.2.2.2.2.1 G.2.2.2.2.2.2.1 nd_304 wd_306 wd_13 wd_50 wd_307 (by decide +kernel) ⟨(Nat.le_of_ble_eq_true rfl), (Nat.le_of_ble_eq_true rfl)⟩) dT_setTimesOf_76 (Nat.le_of_ble_eq_true rfl) ⟨Nat.zero_le _, Nat.zero_le _⟩ (fun r76 e76 => ?_)
        subst e76
        refine x_iadd G dT_setTimesOf_79 ?_
        refine x_top (z := nI (enA A (mvF hh ww) mo mi g s k)) (by rw [hen]; exact nI_add _ _) ?_
        refine x_istore_n G 3 dT_setTimesOf_80 rfl (by decide) ?_
        refine x_aload_n G 0 dT_setTimesOf_81 rfl rfl ?_
        refine x_get G 3 rfl rfl 4 (by decide) rfl (fun w h => .tail _ (iT_ok w h)) (.tail _ wd_146) rfl dT_setTimesOf_82 ?_
        refine x_iload G dT_setTimesOf_85 rfl ?_
        refine x_iload_n G 3 dT_setTimesOf_87 rfl rfl ?_
        refine x_iastN G 12 0 rfl rfl warr_12 (by omega) (by decide) dT_setTimesOf_88 ?_
        refine x_aload_n G 0 dT_setTimesOf_89 rfl rfl ?_
        refine x_aload_n G 0 dT_setTimesOf_90 rfl rfl ?_
        refine x_get G 3 rfl rfl 10 (by decide) rfl (fun w h => .tail _ (iT_ok w h)) (.tail _ wd_153) rfl dT_setTimesOf_91 ?_
        refine x_iload_n G 3 dT_setTimesOf_94 rfl rfl ?_
        refine x_mmax G (.tail _ wd_302) (.tail _ wd_101) (.tail _ wd_51) (.tail _ wd_102) ⟨(Nat.le_of_ble_eq_true rfl), (Nat.le_of_ble_eq_true rfl), Nat.zero_le _, Nat.zero_le _⟩ dT_setTimesOf_95 ?_
        refine x_top (z := nI (max (fiG (fun b => decide ((c + 1 ≤ A b ∧ A b < 4) ∨ (A b = c ∧ b < k))) (enA A (mvF hh ww) mo mi g s) 8) (enA A (mvF hh ww) mo mi g s k))) (by rw [← nI_max (by omega) (by omega)]; rw [show sst (sst (sst σ1 (16 + c) k (nI (cmA A (mvF hh ww) mo mi 8 g s c k))) 11 k (nI (cmA A (mvF hh ww) mo mi 8 g s c k))) 12 k (nI (enA A (mvF hh ww) mo mi g s k)) 3 10 = σ1 3 10 by rw [sst_q (by omega), sst_q (by omega), sst_q (by omega)], hM.2.2.2]) ?_
        refine x_put G 3 rfl rfl 10 (by decide) (Nat.le_of_ble_eq_true rfl) wput_3_10 (fun w h => .tail _ (iT_ok w h)) tT_ok nT_ok (.tail _ wd_153) rfl rfl (tT_ok 10 (by decide)) rfl rfl dT_setTimesOf_98 ?_
        have hM2 : TMk (sst (sst (sst (sst σ1 (16 + c) k (nI (cmA A (mvF hh ww) mo mi 8 g s c k))) 11 k (nI (cmA A (mvF hh ww) mo mi 8 g s c k))) 12 k (nI (enA A (mvF hh ww) mo mi g s k))) 3 10 (nI (max (fiG (fun b => decide ((c + 1 ≤ A b ∧ A b < 4) ∨ (A b = c ∧ b < k))) (enA A (mvF hh ww) mo mi g s) 8) (enA A (mvF hh ww) mo mi g s k)))) A (mvF hh ww) mo mi g s c f (k + 1) := hM.step (by omega) hc4 (by rw [sst_ne (by omega), sst_ne (by omega), sst_ne (by omega), sst_up]) (fun d hd1 hd2 => by rw [sst_ne (by omega), sst_ne (by omega), sst_ne (by omega), sst_ne (by omega)]) (fun q => absurd hAk q) (fun _ => ⟨by rw [sst_ne (by omega), sst_ne (by omega), sst_up, sst_ne (by omega)], by rw [sst_ne (by omega), sst_up, sst_ne (by omega), sst_ne (by omega)], sst_same⟩)
        have hO2 : TO σ (sst (sst (sst (sst σ1 (16 + c) k (nI (cmA A (mvF hh ww) mo mi 8 g s c k))) 11 k (nI (cmA A (mvF hh ww) mo mi 8 g s c k))) 12 k (nI (enA A (mvF hh ww) mo mi g s k))) 3 10 (nI (max (fiG (fun b => decide ((c + 1 ≤ A b ∧ A b < 4) ∨ (A b = c ∧ b < k))) (enA A (mvF hh ww) mo mi g s) 8) (enA A (mvF hh ww) mo mi g s k)))) := hO.tr ⟨by rw [sst_i (by omega), sst_q (by omega), sst_q (by omega), sst_q (by omega)], by rw [sst_i (by omega), sst_q (by omega), sst_q (by omega), sst_q (by omega)], fun q q3 q11 q12 q16 => by rw [sst_ne q3, sst_ne q12, sst_ne q11, sst_ne (q16 c hc4)]⟩
        have e2 : (sst (sst (sst (sst σ1 (16 + c) k (nI (cmA A (mvF hh ww) mo mi 8 g s c k))) 11 k (nI (cmA A (mvF hh ww) mo mi 8 g s c k))) 12 k (nI (enA A (mvF hh ww) mo mi g s k))) 3 10 (nI (max (fiG (fun b => decide ((c + 1 ≤ A b ∧ A b < 4) ∨ (A b = c ∧ b < k))) (enA A (mvF hh ww) mo mi g s) 8) (enA A (mvF hh ww) mo mi g s k)))) 2 = σ 2 := hO2.o (by omega)
        generalize sst (sst (sst (sst σ1 (16 + c) k (nI (cmA A (mvF hh ww) mo mi 8 g s c k))) 11 k (nI (cmA A (mvF hh ww) mo mi 8 g s c k))) 12 k (nI (enA A (mvF hh ww) mo mi g s k))) 3 10 (nI (max (fiG (fun b => decide ((c + 1 ≤ A b ∧ A b < 4) ∨ (A b = c ∧ b < k))) (enA A (mvF hh ww) mo mi g s) 8) (enA A (mvF hh ww) mo mi g s k))) = σ2 at hM2 hO2 e2 ⊢
        have hcmd : enA A (mvF hh ww) mo mi g s k = cmA A (mvF hh ww) mo mi 8 g s c k + duA A (mvF hh ww) mo mi c k := by rw [hdu]; exact hen
        refine x_iload_n G 3 dT_setTimesOf_101 rfl rfl ?_
        refine x_aload_n G 0 dT_setTimesOf_102 rfl rfl ?_
        refine x_iload_n G 2 dT_setTimesOf_103 rfl rfl ?_
        refine x_iload G dT_setTimesOf_104 rfl ?_
        refine x_iconst G (2) dT_setTimesOf_106 (by decide) ?_
        refine x_iadd G dT_setTimesOf_107 ?_
        refine x_aload_n G 0 dT_setTimesOf_108 rfl rfl ?_
        refine x_get G 3 rfl rfl 1 (by decide) rfl (fun w h => .tail _ (iT_ok w h)) (.tail _ wd_142) rfl dT_setTimesOf_109 ?_
        refine x_getN G 2 rfl rfl 1 (by decide) rfl (fun w h => .tail _ (iK_ok w h)) nd_112 rfl dT_setTimesOf_112 ?_
        refine x_iadd G dT_setTimesOf_115 ?_
        refine x_top (z := nI (k + 2 + g)) (by rw [e2, hg]; show nI k + nI 2 + nI g = _; rw [nI_add, nI_add]) ?_
        have hwc : xCi0 l D vCl (tyC cI cZ cJ) nwW (wC ad cI cZ cJ σ2) yT_whenCame (.code yT_whenCame bT_whenCame 3 (some .int) :: bigW) 1 [.ref (ad 3), .int (oI (nxA A (3 - c))), .int (nI (k + 2 + g))] (fun r => k < l' → r = nI (wtA A (mvF hh ww) mo mi 8 g s (3 - c) (k + 2 + g))) := by
          cases hnx : nxA A (3 - c) with
          | none => exact cT_whenCame0.mono (fun r hr _ => by rw [hr, wtA_none hnx]; rfl)
          | some d =>
            obtain ⟨d1, d2, ⟨fd, d3⟩, d4⟩ := nxA_some (by omega) hnx
            obtain ⟨ld, d5, d6, d7, d8⟩ := lst_of_fst d3
            have hap := apart_next hok hc4 hf hnx
            rw [hlc, d5] at hap
            have hap : l' + g < ld := hap
            have hdC : d < C := by have := hAC ld (by rw [d8]; exact d2); rw [d8] at this; exact this
            refine (cT_whenCame (C := C) (f := fd) (l' := ld) (by rw [e2]; exact hC) hC4 hdC (by rw [hO2.o (by omega), (hTS.2 d d2).1, d3]; rfl) (by rw [hO2.o (by omega), (hTS.2 d d2).2, d5]; rfl) (fst_lt d3) d7 (by omega)).mono (fun r hr hkl => ?_)
            rw [hr, wtA_some (by omega) hnx]
            by_cases hq : k + 2 + g ≤ fd
            · rw [if_pos (Or.inl hq)]; unfold cmA; rw [d3, Option.getD_some, tim_low hq]; rfl
            · rw [if_neg (by omega)]; exact hM2.2.1 d fd ld (by omega) d2 d3 d5 _ (by omega) (by omega)
        refine x_call0V2i G hwc 3 rfl rfl (cV G.2.2.2.2.1 wd_311 wd_313 wd_14 wd_53 wd_314 (by decide +kernel) ⟨(Nat.le_of_ble_eq_true rfl), (Nat.le_of_ble_eq_true rfl)⟩) dT_setTimesOf_116 (Nat.le_of_ble_eq_true rfl) ⟨Nat.zero_le _, Nat.zero_le _⟩ (fun r116 e116 => ?_)
        refine x_mmax G (.tail _ wd_302) (.tail _ wd_101) (.tail _ wd_51) (.tail _ wd_102) ⟨(Nat.le_of_ble_eq_true rfl), (Nat.le_of_ble_eq_true rfl), Nat.zero_le _, Nat.zero_le _⟩ dT_setTimesOf_119 ?_
        refine x_aload_n G 0 dT_setTimesOf_122 rfl rfl ?_
        refine x_get G 3 rfl rfl 1 (by decide) rfl (fun w h => .tail _ (iT_ok w h)) (.tail _ wd_142) rfl dT_setTimesOf_123 ?_
        refine x_getN G 2 rfl rfl 5 (by decide) rfl (fun w h => .tail _ (iK_ok w h)) nd_118 rfl dT_setTimesOf_126 ?_
        rw [e2, hs]
        refine x_iadd G dT_setTimesOf_129 ?_
        refine x_istore_n G 3 dT_setTimesOf_130 rfl (by decide) ?_
        refine x_iinc G (nI (k + 1)) dT_setTimesOf_131 rfl (nI_1 k) (by decide) ?_
        refine x_goto G 14 dT_setTimesOf_134 (by decide) ?_
        exact x_eq rfl (by rw [show l' = k by omega]; rfl) rfl rfl (fin σ2 _ (by rw [show l' + 1 = k + 1 by omega]; exact hM2) hO2)
    | succ j ih =>
      intro k hk hfk σ1 hM hO
      have hB1 := hB.of (hO.o (q := 1) (by omega)) (hO.o (q := 5) (by omega)) (hO.o (q := 6) (by omega))
      have hK1 := hK.of (hO.o (q := 2) (by omega)) (hO.o (q := 7) (by omega)) (hO.o (q := 8) (by omega)) (hO.o (q := 9) (by omega))
      have h210 : σ1 2 = σ 2 := hO.o (by omega)
      have hl14 : σ1 14 c = nI l' := by rw [hO.o (by omega), (hTS.2 c hc4).2, hlc]; rfl
      have h10 : σ1 10 k = aI (A k) := by rw [hO.o (by omega)]; exact hTS.1 k (by omega)
      have hcmk := hcmle c k hc4 (by omega)
      refine x_iload G dT_setTimesOf_14 rfl ?_
      refine x_aload_n G 0 dT_setTimesOf_16 rfl rfl ?_
      refine x_get G 3 rfl rfl 6 (by decide) rfl (fun w h => .tail _ (iT_ok w h)) (.tail _ wd_148) rfl dT_setTimesOf_17 ?_
      refine x_iload_n G 1 dT_setTimesOf_20 rfl rfl ?_
      refine x_ialdN G 14 0 rfl rfl (by omega) (by decide) dT_setTimesOf_21 ?_
      refine x_icmp_gt G 137 dT_setTimesOf_22 (by decide) (fun h22 => (by rw [hl14, nI_ltI (by omega) (by omega)] at h22; omega)) (fun h22 => ?_)
      refine x_iload G dT_setTimesOf_25 rfl ?_
      refine x_bipush G (8) dT_setTimesOf_27 (by decide) ?_
      refine x_icmp_ge G 137 dT_setTimesOf_29 (by decide) (fun h29 => (by exact absurd h29 (nI_ge (show k < 8 by omega) (by decide)))) (fun h29 => ?_)
      refine x_aload_n G 0 dT_setTimesOf_32 rfl rfl ?_
      refine x_get G 3 rfl rfl 7 (by decide) rfl (fun w h => .tail _ (iT_ok w h)) (.tail _ wd_149) rfl dT_setTimesOf_33 ?_
      refine x_iload_n G 1 dT_setTimesOf_36 rfl rfl ?_
      refine x_aald G 15 2 rfl rfl rfl hc4 (by decide) (if_pos hc4) dT_setTimesOf_37 ?_
      refine x_iload G dT_setTimesOf_38 rfl ?_
      refine x_iload_n G 3 dT_setTimesOf_40 rfl rfl ?_
      refine x_iastN G (16 + c) 0 (wC_row hc4) rfl (wC_rowSet hc4) (by omega) (by decide) dT_setTimesOf_41 ?_
      refine x_aload_n G 0 dT_setTimesOf_42 rfl rfl ?_
      refine x_get G 3 rfl rfl 2 (by decide) rfl (fun w h => .tail _ (iT_ok w h)) (.tail _ wd_143) rfl dT_setTimesOf_43 ?_
      refine x_iload G dT_setTimesOf_46 rfl ?_
      refine x_ialdN G 10 0 rfl rfl (by omega) (by decide) dT_setTimesOf_48 ?_
      refine x_iload_n G 1 dT_setTimesOf_49 rfl rfl ?_
      refine x_icmp_ne G 101 dT_setTimesOf_50 (by decide) (fun h50 => ?_) (fun h50 => ?_)
      · have hAk : A k ≠ c := fun q => h50 (by show sst σ1 (16 + c) k _ 10 k = nI c; rw [sst_q (by omega), h10]; exact (aI_eq hc4).mpr q)
        have hM2 : TMk (sst σ1 (16 + c) k (nI (cmA A (mvF hh ww) mo mi 8 g s c k))) A (mvF hh ww) mo mi g s c f (k + 1) := hM.step (by omega) hc4 sst_up (fun d hd1 hd2 => sst_ne (by omega)) (fun _ => ⟨sst_ne (by omega), sst_ne (by omega), sst_q (by omega)⟩) (fun q => absurd q hAk)
        have hO2 : TO σ (sst σ1 (16 + c) k (nI (cmA A (mvF hh ww) mo mi 8 g s c k))) := hO.tr ⟨sst_q (by omega), sst_q (by omega), fun q q3 q11 q12 q16 => sst_ne (q16 c hc4)⟩
        have hdu : duA A (mvF hh ww) mo mi c k = 0 := by simp [duA, hAk]
        have e2 : (sst σ1 (16 + c) k (nI (cmA A (mvF hh ww) mo mi 8 g s c k))) 2 = σ 2 := hO2.o (by omega)
        generalize sst σ1 (16 + c) k (nI (cmA A (mvF hh ww) mo mi 8 g s c k)) = σ2 at hM2 hO2 e2 ⊢
        have hcmd : cmA A (mvF hh ww) mo mi 8 g s c k = cmA A (mvF hh ww) mo mi 8 g s c k + duA A (mvF hh ww) mo mi c k := by rw [hdu]; rfl
        refine x_iload_n G 3 dT_setTimesOf_101 rfl rfl ?_
        refine x_aload_n G 0 dT_setTimesOf_102 rfl rfl ?_
        refine x_iload_n G 2 dT_setTimesOf_103 rfl rfl ?_
        refine x_iload G dT_setTimesOf_104 rfl ?_
        refine x_iconst G (2) dT_setTimesOf_106 (by decide) ?_
        refine x_iadd G dT_setTimesOf_107 ?_
        refine x_aload_n G 0 dT_setTimesOf_108 rfl rfl ?_
        refine x_get G 3 rfl rfl 1 (by decide) rfl (fun w h => .tail _ (iT_ok w h)) (.tail _ wd_142) rfl dT_setTimesOf_109 ?_
        refine x_getN G 2 rfl rfl 1 (by decide) rfl (fun w h => .tail _ (iK_ok w h)) nd_112 rfl dT_setTimesOf_112 ?_
        refine x_iadd G dT_setTimesOf_115 ?_
        refine x_top (z := nI (k + 2 + g)) (by rw [e2, hg]; show nI k + nI 2 + nI g = _; rw [nI_add, nI_add]) ?_
        have hwc : xCi0 l D vCl (tyC cI cZ cJ) nwW (wC ad cI cZ cJ σ2) yT_whenCame (.code yT_whenCame bT_whenCame 3 (some .int) :: bigW) 1 [.ref (ad 3), .int (oI (nxA A (3 - c))), .int (nI (k + 2 + g))] (fun r => k < l' → r = nI (wtA A (mvF hh ww) mo mi 8 g s (3 - c) (k + 2 + g))) := by
          cases hnx : nxA A (3 - c) with
          | none => exact cT_whenCame0.mono (fun r hr _ => by rw [hr, wtA_none hnx]; rfl)
          | some d =>
            obtain ⟨d1, d2, ⟨fd, d3⟩, d4⟩ := nxA_some (by omega) hnx
            obtain ⟨ld, d5, d6, d7, d8⟩ := lst_of_fst d3
            have hap := apart_next hok hc4 hf hnx
            rw [hlc, d5] at hap
            have hap : l' + g < ld := hap
            have hdC : d < C := by have := hAC ld (by rw [d8]; exact d2); rw [d8] at this; exact this
            refine (cT_whenCame (C := C) (f := fd) (l' := ld) (by rw [e2]; exact hC) hC4 hdC (by rw [hO2.o (by omega), (hTS.2 d d2).1, d3]; rfl) (by rw [hO2.o (by omega), (hTS.2 d d2).2, d5]; rfl) (fst_lt d3) d7 (by omega)).mono (fun r hr hkl => ?_)
            rw [hr, wtA_some (by omega) hnx]
            by_cases hq : k + 2 + g ≤ fd
            · rw [if_pos (Or.inl hq)]; unfold cmA; rw [d3, Option.getD_some, tim_low hq]; rfl
            · rw [if_neg (by omega)]; exact hM2.2.1 d fd ld (by omega) d2 d3 d5 _ (by omega) (by omega)
        refine x_call0V2i G hwc 3 rfl rfl (cV G.2.2.2.2.1 wd_311 wd_313 wd_14 wd_53 wd_314 (by decide +kernel) ⟨(Nat.le_of_ble_eq_true rfl), (Nat.le_of_ble_eq_true rfl)⟩) dT_setTimesOf_116 (Nat.le_of_ble_eq_true rfl) ⟨Nat.zero_le _, Nat.zero_le _⟩ (fun r116 e116 => ?_)
        rw [e116 (by omega)]
        have hwle := wtA_le (A := A) (mv := mvF hh ww) (n := 8) hmv (fun c _ => (hbd c).2.2.2) (fun c _ => (hbd c).1) hg3 hs20 (3 - c) (by omega) (k + 2 + g)
        refine x_mmax G (.tail _ wd_302) (.tail _ wd_101) (.tail _ wd_51) (.tail _ wd_102) ⟨(Nat.le_of_ble_eq_true rfl), (Nat.le_of_ble_eq_true rfl), Nat.zero_le _, Nat.zero_le _⟩ dT_setTimesOf_119 ?_
        refine x_aload_n G 0 dT_setTimesOf_122 rfl rfl ?_
        refine x_get G 3 rfl rfl 1 (by decide) rfl (fun w h => .tail _ (iT_ok w h)) (.tail _ wd_142) rfl dT_setTimesOf_123 ?_
        refine x_getN G 2 rfl rfl 5 (by decide) rfl (fun w h => .tail _ (iK_ok w h)) nd_118 rfl dT_setTimesOf_126 ?_
        rw [e2, hs]
        refine x_iadd G dT_setTimesOf_129 ?_
        refine x_top (z := nI (cmA A (mvF hh ww) mo mi 8 g s c (k + 1))) ?_ ?_
        · rw [show cmA A (mvF hh ww) mo mi 8 g s c (k + 1) = max (cmA A (mvF hh ww) mo mi 8 g s c k) (wtA A (mvF hh ww) mo mi 8 g s (3 - c) (k + 2 + g)) + s from by rw [hcmd]; unfold cmA; rw [hf]; exact tim_up hfk, ← nI_add, ← nI_max (by first | omega | (have := hfile; have := htkle c k; omega)) (by omega)]
        refine x_istore_n G 3 dT_setTimesOf_130 rfl (by decide) ?_
        refine x_iinc G (nI (k + 1)) dT_setTimesOf_131 rfl (nI_1 k) (by decide) ?_
        refine x_goto G 14 dT_setTimesOf_134 (by decide) ?_
        exact ih (k + 1) (by omega) (by omega) σ2 hM2 hO2
      · have hAk : A k = c := by rw [show sst σ1 (16 + c) k (nI (cmA A (mvF hh ww) mo mi 8 g s c k)) 10 k = σ1 10 k from sst_q (by omega), h10] at h50; exact (aI_eq hc4).mp h50
        have htk := htkle c k
        have hdu : duA A (mvF hh ww) mo mi c k = tkA (mvF hh ww) mo mi c k := by simp [duA, hAk]
        have hen : enA A (mvF hh ww) mo mi g s k = cmA A (mvF hh ww) mo mi 8 g s c k + tkA (mvF hh ww) mo mi c k := by unfold enA; rw [hAk]
        have hfl2 := hfile (fun b => decide ((c + 1 ≤ A b ∧ A b < 4) ∨ (A b = c ∧ b < k))) (fun b q => by simp at q; omega)
        refine x_aload_n G 0 dT_setTimesOf_53 rfl rfl ?_
        refine x_get G 3 rfl rfl 3 (by decide) rfl (fun w h => .tail _ (iT_ok w h)) (.tail _ wd_145) rfl dT_setTimesOf_54 ?_
        refine x_iload G dT_setTimesOf_57 rfl ?_
        refine x_iload_n G 3 dT_setTimesOf_59 rfl rfl ?_
        refine x_iastN G 11 0 rfl rfl warr_11 (by omega) (by decide) dT_setTimesOf_60 ?_
        refine x_iload_n G 3 dT_setTimesOf_61 rfl rfl ?_
        refine x_aload_n G 0 dT_setTimesOf_62 rfl rfl ?_
        refine x_get G 3 rfl rfl 1 (by decide) rfl (fun w h => .tail _ (iT_ok w h)) (.tail _ wd_142) rfl dT_setTimesOf_63 ?_
        refine x_iload_n G 1 dT_setTimesOf_66 rfl rfl ?_
        refine x_aload_n G 0 dT_setTimesOf_67 rfl rfl ?_
        refine x_get G 3 rfl rfl 0 (by decide) rfl (fun w h => .tail _ (iT_ok w h)) (.tail _ wd_141) rfl dT_setTimesOf_68 ?_
        refine x_iload G dT_setTimesOf_71 rfl ?_
        refine x_call0VN1i G (cB_movesOf (σ := sst (sst σ1 (16 + c) k (nI (cmA A (mvF hh ww) mo mi 8 g s c k))) 11 k (nI (cmA A (mvF hh ww) mo mi 8 g s c k))) (n := n) (by rw [sst_q (by omega), sst_q (by omega)]; exact hB1.2.1) hn8 (by omega)) 1 rfl rfl (cVN G.2.2.2.2.1 G.2.2.2.2.2.2.1 nd_303 wd_256 wd_2 wd_49 wd_257 (by decide +kernel) ⟨(Nat.le_of_ble_eq_true rfl), (Nat.le_of_ble_eq_true rfl)⟩) dT_setTimesOf_73 (Nat.le_of_ble_eq_true rfl) ⟨Nat.zero_le _, Nat.zero_le _⟩ (fun r73 e73 => ?_)
        refine x_top (z := nI (mvF hh ww k)) (by rw [e73, ← hB1.moves k, sst_q (by omega), sst_q (by omega), sst_q (by omega), sst_q (by omega)]) ?_
        refine x_call0VN2i G (cK_timeFor (hK1.of (by rw [sst_ne (by omega), sst_ne (by omega)]) (by rw [sst_ne (by omega), sst_ne (by omega)]) (by rw [sst_ne (by omega), sst_ne (by omega)]) (by rw [sst_ne (by omega), sst_ne (by omega)])) hcC (by have := hmv k; omega)) 2 rfl rfl (cVN G.2.2.2.2.1 G.2.2.2.2.2.2.1 nd_304 wd_306 wd_13 wd_50 wd_307 (by decide +kernel) ⟨(Nat.le_of_ble_eq_true rfl), (Nat.le_of_ble_eq_true rfl)⟩) dT_setTimesOf_76 (Nat.le_of_ble_eq_true rfl) ⟨Nat.zero_le _, Nat.zero_le _⟩ (fun r76 e76 => ?_)
        subst e76
        refine x_iadd G dT_setTimesOf_79 ?_
        refine x_top (z := nI (enA A (mvF hh ww) mo mi g s k)) (by rw [hen]; exact nI_add _ _) ?_
        refine x_istore_n G 3 dT_setTimesOf_80 rfl (by decide) ?_
        refine x_aload_n G 0 dT_setTimesOf_81 rfl rfl ?_
        refine x_get G 3 rfl rfl 4 (by decide) rfl (fun w h => .tail _ (iT_ok w h)) (.tail _ wd_146) rfl dT_setTimesOf_82 ?_
        refine x_iload G dT_setTimesOf_85 rfl ?_
        refine x_iload_n G 3 dT_setTimesOf_87 rfl rfl ?_
        refine x_iastN G 12 0 rfl rfl warr_12 (by omega) (by decide) dT_setTimesOf_88 ?_
        refine x_aload_n G 0 dT_setTimesOf_89 rfl rfl ?_
        refine x_aload_n G 0 dT_setTimesOf_90 rfl rfl ?_
        refine x_get G 3 rfl rfl 10 (by decide) rfl (fun w h => .tail _ (iT_ok w h)) (.tail _ wd_153) rfl dT_setTimesOf_91 ?_
        refine x_iload_n G 3 dT_setTimesOf_94 rfl rfl ?_
        refine x_mmax G (.tail _ wd_302) (.tail _ wd_101) (.tail _ wd_51) (.tail _ wd_102) ⟨(Nat.le_of_ble_eq_true rfl), (Nat.le_of_ble_eq_true rfl), Nat.zero_le _, Nat.zero_le _⟩ dT_setTimesOf_95 ?_
        refine x_top (z := nI (max (fiG (fun b => decide ((c + 1 ≤ A b ∧ A b < 4) ∨ (A b = c ∧ b < k))) (enA A (mvF hh ww) mo mi g s) 8) (enA A (mvF hh ww) mo mi g s k))) (by rw [← nI_max (by omega) (by omega)]; rw [show sst (sst (sst σ1 (16 + c) k (nI (cmA A (mvF hh ww) mo mi 8 g s c k))) 11 k (nI (cmA A (mvF hh ww) mo mi 8 g s c k))) 12 k (nI (enA A (mvF hh ww) mo mi g s k)) 3 10 = σ1 3 10 by rw [sst_q (by omega), sst_q (by omega), sst_q (by omega)], hM.2.2.2]) ?_
        refine x_put G 3 rfl rfl 10 (by decide) (Nat.le_of_ble_eq_true rfl) wput_3_10 (fun w h => .tail _ (iT_ok w h)) tT_ok nT_ok (.tail _ wd_153) rfl rfl (tT_ok 10 (by decide)) rfl rfl dT_setTimesOf_98 ?_
        have hM2 : TMk (sst (sst (sst (sst σ1 (16 + c) k (nI (cmA A (mvF hh ww) mo mi 8 g s c k))) 11 k (nI (cmA A (mvF hh ww) mo mi 8 g s c k))) 12 k (nI (enA A (mvF hh ww) mo mi g s k))) 3 10 (nI (max (fiG (fun b => decide ((c + 1 ≤ A b ∧ A b < 4) ∨ (A b = c ∧ b < k))) (enA A (mvF hh ww) mo mi g s) 8) (enA A (mvF hh ww) mo mi g s k)))) A (mvF hh ww) mo mi g s c f (k + 1) := hM.step (by omega) hc4 (by rw [sst_ne (by omega), sst_ne (by omega), sst_ne (by omega), sst_up]) (fun d hd1 hd2 => by rw [sst_ne (by omega), sst_ne (by omega), sst_ne (by omega), sst_ne (by omega)]) (fun q => absurd hAk q) (fun _ => ⟨by rw [sst_ne (by omega), sst_ne (by omega), sst_up, sst_ne (by omega)], by rw [sst_ne (by omega), sst_up, sst_ne (by omega), sst_ne (by omega)], sst_same⟩)
        have hO2 : TO σ (sst (sst (sst (sst σ1 (16 + c) k (nI (cmA A (mvF hh ww) mo mi 8 g s c k))) 11 k (nI (cmA A (mvF hh ww) mo mi 8 g s c k))) 12 k (nI (enA A (mvF hh ww) mo mi g s k))) 3 10 (nI (max (fiG (fun b => decide ((c + 1 ≤ A b ∧ A b < 4) ∨ (A b = c ∧ b < k))) (enA A (mvF hh ww) mo mi g s) 8) (enA A (mvF hh ww) mo mi g s k)))) := hO.tr ⟨by rw [sst_i (by omega), sst_q (by omega), sst_q (by omega), sst_q (by omega)], by rw [sst_i (by omega), sst_q (by omega), sst_q (by omega), sst_q (by omega)], fun q q3 q11 q12 q16 => by rw [sst_ne q3, sst_ne q12, sst_ne q11, sst_ne (q16 c hc4)]⟩
        have e2 : (sst (sst (sst (sst σ1 (16 + c) k (nI (cmA A (mvF hh ww) mo mi 8 g s c k))) 11 k (nI (cmA A (mvF hh ww) mo mi 8 g s c k))) 12 k (nI (enA A (mvF hh ww) mo mi g s k))) 3 10 (nI (max (fiG (fun b => decide ((c + 1 ≤ A b ∧ A b < 4) ∨ (A b = c ∧ b < k))) (enA A (mvF hh ww) mo mi g s) 8) (enA A (mvF hh ww) mo mi g s k)))) 2 = σ 2 := hO2.o (by omega)
        generalize sst (sst (sst (sst σ1 (16 + c) k (nI (cmA A (mvF hh ww) mo mi 8 g s c k))) 11 k (nI (cmA A (mvF hh ww) mo mi 8 g s c k))) 12 k (nI (enA A (mvF hh ww) mo mi g s k))) 3 10 (nI (max (fiG (fun b => decide ((c + 1 ≤ A b ∧ A b < 4) ∨ (A b = c ∧ b < k))) (enA A (mvF hh ww) mo mi g s) 8) (enA A (mvF hh ww) mo mi g s k))) = σ2 at hM2 hO2 e2 ⊢
        have hcmd : enA A (mvF hh ww) mo mi g s k = cmA A (mvF hh ww) mo mi 8 g s c k + duA A (mvF hh ww) mo mi c k := by rw [hdu]; exact hen
        refine x_iload_n G 3 dT_setTimesOf_101 rfl rfl ?_
        refine x_aload_n G 0 dT_setTimesOf_102 rfl rfl ?_
        refine x_iload_n G 2 dT_setTimesOf_103 rfl rfl ?_
        refine x_iload G dT_setTimesOf_104 rfl ?_
        refine x_iconst G (2) dT_setTimesOf_106 (by decide) ?_
        refine x_iadd G dT_setTimesOf_107 ?_
        refine x_aload_n G 0 dT_setTimesOf_108 rfl rfl ?_
        refine x_get G 3 rfl rfl 1 (by decide) rfl (fun w h => .tail _ (iT_ok w h)) (.tail _ wd_142) rfl dT_setTimesOf_109 ?_
        refine x_getN G 2 rfl rfl 1 (by decide) rfl (fun w h => .tail _ (iK_ok w h)) nd_112 rfl dT_setTimesOf_112 ?_
        refine x_iadd G dT_setTimesOf_115 ?_
        refine x_top (z := nI (k + 2 + g)) (by rw [e2, hg]; show nI k + nI 2 + nI g = _; rw [nI_add, nI_add]) ?_
        have hwc : xCi0 l D vCl (tyC cI cZ cJ) nwW (wC ad cI cZ cJ σ2) yT_whenCame (.code yT_whenCame bT_whenCame 3 (some .int) :: bigW) 1 [.ref (ad 3), .int (oI (nxA A (3 - c))), .int (nI (k + 2 + g))] (fun r => k < l' → r = nI (wtA A (mvF hh ww) mo mi 8 g s (3 - c) (k + 2 + g))) := by
          cases hnx : nxA A (3 - c) with
          | none => exact cT_whenCame0.mono (fun r hr _ => by rw [hr, wtA_none hnx]; rfl)
          | some d =>
            obtain ⟨d1, d2, ⟨fd, d3⟩, d4⟩ := nxA_some (by omega) hnx
            obtain ⟨ld, d5, d6, d7, d8⟩ := lst_of_fst d3
            have hap := apart_next hok hc4 hf hnx
            rw [hlc, d5] at hap
            have hap : l' + g < ld := hap
            have hdC : d < C := by have := hAC ld (by rw [d8]; exact d2); rw [d8] at this; exact this
            refine (cT_whenCame (C := C) (f := fd) (l' := ld) (by rw [e2]; exact hC) hC4 hdC (by rw [hO2.o (by omega), (hTS.2 d d2).1, d3]; rfl) (by rw [hO2.o (by omega), (hTS.2 d d2).2, d5]; rfl) (fst_lt d3) d7 (by omega)).mono (fun r hr hkl => ?_)
            rw [hr, wtA_some (by omega) hnx]
            by_cases hq : k + 2 + g ≤ fd
            · rw [if_pos (Or.inl hq)]; unfold cmA; rw [d3, Option.getD_some, tim_low hq]; rfl
            · rw [if_neg (by omega)]; exact hM2.2.1 d fd ld (by omega) d2 d3 d5 _ (by omega) (by omega)
        refine x_call0V2i G hwc 3 rfl rfl (cV G.2.2.2.2.1 wd_311 wd_313 wd_14 wd_53 wd_314 (by decide +kernel) ⟨(Nat.le_of_ble_eq_true rfl), (Nat.le_of_ble_eq_true rfl)⟩) dT_setTimesOf_116 (Nat.le_of_ble_eq_true rfl) ⟨Nat.zero_le _, Nat.zero_le _⟩ (fun r116 e116 => ?_)
        rw [e116 (by omega)]
        have hwle := wtA_le (A := A) (mv := mvF hh ww) (n := 8) hmv (fun c _ => (hbd c).2.2.2) (fun c _ => (hbd c).1) hg3 hs20 (3 - c) (by omega) (k + 2 + g)
        refine x_mmax G (.tail _ wd_302) (.tail _ wd_101) (.tail _ wd_51) (.tail _ wd_102) ⟨(Nat.le_of_ble_eq_true rfl), (Nat.le_of_ble_eq_true rfl), Nat.zero_le _, Nat.zero_le _⟩ dT_setTimesOf_119 ?_
        refine x_aload_n G 0 dT_setTimesOf_122 rfl rfl ?_
        refine x_get G 3 rfl rfl 1 (by decide) rfl (fun w h => .tail _ (iT_ok w h)) (.tail _ wd_142) rfl dT_setTimesOf_123 ?_
        refine x_getN G 2 rfl rfl 5 (by decide) rfl (fun w h => .tail _ (iK_ok w h)) nd_118 rfl dT_setTimesOf_126 ?_
        rw [e2, hs]
        refine x_iadd G dT_setTimesOf_129 ?_
        refine x_top (z := nI (cmA A (mvF hh ww) mo mi 8 g s c (k + 1))) ?_ ?_
        · rw [show cmA A (mvF hh ww) mo mi 8 g s c (k + 1) = max (enA A (mvF hh ww) mo mi g s k) (wtA A (mvF hh ww) mo mi 8 g s (3 - c) (k + 2 + g)) + s from by rw [hcmd]; unfold cmA; rw [hf]; exact tim_up hfk, ← nI_add, ← nI_max (by first | omega | (have := hfile; have := htkle c k; omega)) (by omega)]
        refine x_istore_n G 3 dT_setTimesOf_130 rfl (by decide) ?_
        refine x_iinc G (nI (k + 1)) dT_setTimesOf_131 rfl (nI_1 k) (by decide) ?_
        refine x_goto G 14 dT_setTimesOf_134 (by decide) ?_
        exact ih (k + 1) (by omega) (by omega) σ2 hM2 hO2
  refine x_iconst G (0) dT_setTimesOf_0 (by decide) ?_
  refine x_istore_n G 3 dT_setTimesOf_1 rfl (by decide) ?_
  refine x_iconst G (0) dT_setTimesOf_2 (by decide) ?_
  refine x_aload_n G 0 dT_setTimesOf_3 rfl rfl ?_
  refine x_get G 3 rfl rfl 5 (by decide) rfl (fun w h => .tail _ (iT_ok w h)) (.tail _ wd_147) rfl dT_setTimesOf_4 ?_
  refine x_iload_n G 1 dT_setTimesOf_7 rfl rfl ?_
  refine x_ialdN G 13 0 rfl rfl (by omega) (by decide) dT_setTimesOf_8 ?_
  refine x_mmax G (.tail _ wd_302) (.tail _ wd_101) (.tail _ wd_51) (.tail _ wd_102) ⟨(Nat.le_of_ble_eq_true rfl), (Nat.le_of_ble_eq_true rfl), Nat.zero_le _, Nat.zero_le _⟩ dT_setTimesOf_9 ?_
  refine x_top (z := nI f) (by rw [(hTS.2 c hc4).1, hf]; show (if nI 0 < nI f then nI f else nI 0) = _; rw [nI_max (by omega) (by omega), Nat.zero_max]) ?_
  refine x_istore G dT_setTimesOf_12 (by decide) ?_
  exact x_eq rfl (by rw [show cmA A (mvF hh ww) mo mi 8 g s c f = 0 from by unfold cmA; rw [hf]; exact tim_low (Nat.le_refl f)]; rfl) rfl rfl (loop (l' - f) f (by omega) (Nat.le_refl f) σ hM0 TO.rf)
end
section
/-! Timetable: all times; what they answer -/
theorem TM.toK {σ : xSg} {A mv mo mi : Nat → Nat} {g s c f : Nat} (h : TM σ A mv mo mi g s (c + 1)) (hf : fstA A c 8 = some f) : TMk σ A mv mo mi g s c f f := by
  obtain ⟨h1, h2, h3⟩ := h
  obtain ⟨-, -, q3⟩ := fstA_some hf
  have no : ∀ b, ¬ (A b = c ∧ b < f) := fun b q => q3 b q.2 q.1
  refine ⟨fun b a1 a2 => by omega, h1, fun b hb hd => ?_, ?_⟩
  · rcases hd with q | q
    · exact h2 b hb q.1 q.2
    · exact absurd q (no b)
  · rw [h3]
    congr 1
    refine fiG_congr (fun b _ => ?_) (fun _ _ _ => rfl)
    have := no b
    simp [this]
theorem TMk.toM {σ : xSg} {A mv mo mi : Nat → Nat} {g s c f l' : Nat} (h : TMk σ A mv mo mi g s c f (l' + 1)) (hc : c < 4) (hf : fstA A c 8 = some f) (hl : lstA A c 8 = some l') : TM σ A mv mo mi g s c := by
  obtain ⟨h1, h2, h3, h4⟩ := h
  obtain ⟨-, -, q3⟩ := lstA_some hl
  have lo : ∀ b, b < 8 → A b = c → b < l' + 1 := fun b hb q => by
    rcases Nat.lt_or_ge l' b with z | z
    · exact absurd q (q3 b z hb)
    · omega
  refine ⟨fun d f' l2 hd1 hd2 hf' hl' b a1 a2 => ?_, fun b hb hd1 hd2 => ?_, ?_⟩
  · rcases (show c + 1 ≤ d ∨ d = c by omega) with z | z
    · exact h2 d f' l2 z hd2 hf' hl' b a1 a2
    · subst z
      rw [hf] at hf'; rw [hl] at hl'
      cases hf'; cases hl'
      exact h1 b a1 (by omega)
  · refine h3 b hb ?_
    rcases (show c + 1 ≤ A b ∨ A b = c by omega) with z | z
    · exact Or.inl ⟨z, hd2⟩
    · exact Or.inr ⟨z, lo b hb z⟩
  · rw [h4]
    congr 1
    refine fiG_congr (fun b hb => ?_) (fun _ _ _ => rfl)
    have e : ((c + 1 ≤ A b ∧ A b < 4) ∨ (A b = c ∧ b < l' + 1)) ↔ (c ≤ A b ∧ A b < 4) := by
      constructor
      · rintro (q | q)
        · omega
        · omega
      · intro q
        rcases (show c + 1 ≤ A b ∨ A b = c by omega) with z | z
        · exact Or.inl ⟨z, q.2⟩
        · exact Or.inr ⟨z, lo b hb z⟩
    exact decide_eq_decide.mpr e
theorem TM.skip {σ : xSg} {A mv mo mi : Nat → Nat} {g s c : Nat} (h : TM σ A mv mo mi g s (c + 1)) (hf : fstA A c 8 = none) : TM σ A mv mo mi g s c := by
  obtain ⟨h1, h2, h3⟩ := h
  have no := fstA_none.mp hf
  refine ⟨fun d f' l2 hd1 hd2 hf' hl' b a1 a2 => ?_, fun b hb hd1 hd2 => ?_, ?_⟩
  · rcases (show c + 1 ≤ d ∨ d = c by omega) with z | z
    · exact h1 d f' l2 z hd2 hf' hl' b a1 a2
    · subst z; rw [hf] at hf'; cases hf'
  · have := no b hb
    exact h2 b hb (by omega) hd2
  · rw [h3]
    congr 1
    refine fiG_congr (fun b hb => ?_) (fun _ _ _ => rfl)
    have := no b hb
    exact decide_eq_decide.mpr (by omega)
theorem TM.top {σ : xSg} {A mv mo mi : Nat → Nat} {g s : Nat} (h : σ 3 10 = 0) : TM σ A mv mo mi g s 4 := by
  refine ⟨fun d _ _ h1 h2 => by omega, fun b _ h1 h2 => by omega, ?_⟩
  rw [h]
  have e : ∀ k, fiG (fun b => decide (4 ≤ A b ∧ A b < 4)) (enA A mv mo mi g s) k = 0 := by
    intro k
    induction k with
    | zero => rfl
    | succ k ih => unfold fiG; rw [if_neg (by simp), ih]
  rw [e]; rfl
def cvJ (j : Nat) : Int32 := if j ≤ 3 then nI (3 - j) else -1
theorem cvJ_next {j : Nat} (h : j ≤ 3) : cvJ j + (-1) = cvJ (j + 1) := by
  rcases (show j = 0 ∨ j = 1 ∨ j = 2 ∨ j = 3 by omega) with rfl | rfl | rfl | rfl <;> decide
set_option maxHeartbeats 4000000 in
set_option maxRecDepth 100000 in
theorem cT_setTimes {l : Launch} {D : va_G} {cI cZ cJ : ClassId} {ad : Nat → Nat} {σ : xSg} {A : Nat → Nat} {n C g s : Nat} {hh ww mo mi : Nat → Nat} {ou : Nat → Bool} (hB : PB σ n hh ww) (hK : PK σ C mo mi ou) (hS : PS σ g s) (hTS : TS σ A) (hok : (apA A 8 g 4).2 = true) (hAC : ∀ b, A b < 4 → A b < C) (hfin : σ 3 10 = 0) : xCv l D vCl (tyC cI cZ cJ) nwW (wC ad cI cZ cJ) yT_setTimes (.code yT_setTimes bT_setTimes 3 none :: bigW) 3 [.ref (ad 3)] σ (fun u => TM u A (mvF hh ww) mo mi g s 0 ∧ TO σ u) := by
  refine xCv.of (cc := bT_setTimes) (nL := 3) (ret := none) rfl (by decide) [.ref (ad 3), .null, .null] rfl (Nat.le_of_ble_eq_true rfl) ?_
  intro pp ee ss mm aa bb me cde AA G hr hlk
  have loop : ∀ (i j : Nat), j + i = 4 → ∀ (σ1 : xSg), TM σ1 A (mvF hh ww) mo mi g s (4 - j) → TO σ σ1 → xJ pp l ee { frames := 3, cells := 0, slots := 0, locals := 40 * 3 } ss mm aa bb me cde 0 0 (MQ bb (va_Qv (fun u => TM u A (mvF hh ww) mo mi g s 0 ∧ TO σ u) (fun u t => va_P D vCl (wC ad cI cZ cJ u) t.heap ∧ va_D AA (wC ad cI cZ cJ u)) AA) aa ss 0 0 AA) D vCl AA 3 (va_S AA ss.heap) (wC ad cI cZ cJ σ1) [.ref (ad 3), .int (oI (nxA A j)), .int (cvJ j)] 4 [] := by
    intro i
    induction i with
    | zero =>
      intro j hj σ1 hM hO
      have hj : j = 4 := by omega
      subst hj
      refine x_iload_n G 2 dT_setTimes_4 rfl rfl ?_
      refine x_if_lt G 32 dT_setTimes_5 (by decide) (fun h5 => ?_) (fun h5 => (by exact absurd (by decide) h5))
      exact x_retv G hr hlk dT_setTimes_32 ⟨hM, hO⟩
    | succ i ih =>
      intro j hj σ1 hM hO
      have e4 : 4 - j = 3 - j + 1 := by omega
      rw [e4] at hM
      have hcv : cvJ j = nI (3 - j) := if_pos (by omega)
      refine x_eq rfl (vs2 := [.ref (ad 3), .int (oI (nxA A j)), .int (nI (3 - j))]) (by rw [hcv]) rfl rfl ?_
      have h13 : σ1 13 (3 - j) = oI (fstA A (3 - j) 8) := by rw [hO.o (by omega)]; exact (hTS.2 (3 - j) (by omega)).1
      refine x_iload_n G 2 dT_setTimes_4 rfl rfl ?_
      refine x_if_lt G 32 dT_setTimes_5 (by decide) (fun h5 => (by exact absurd h5 (nI_pos (by omega)))) (fun h5 => ?_)
      refine x_aload_n G 0 dT_setTimes_8 rfl rfl ?_
      refine x_get G 3 rfl rfl 5 (by decide) rfl (fun w h => .tail _ (iT_ok w h)) (.tail _ wd_147) rfl dT_setTimes_9 ?_
      refine x_iload_n G 2 dT_setTimes_12 rfl rfl ?_
      refine x_ialdN G 13 0 rfl rfl (by omega) (by decide) dT_setTimes_13 ?_
      refine x_iconst G (-1) dT_setTimes_14 (by decide) ?_
      refine x_icmp_eq G 26 dT_setTimes_15 (by decide) (fun h15 => ?_) (fun h15 => ?_)
      · have hf : fstA A (3 - j) 8 = none := (oI_m1 (fun b hb => by have := fst_lt hb; omega)).mp (by rw [← h13]; exact h15)
        have hM2 := hM.skip hf
        have hO2 := hO
        have e := nxA_none hf
        refine x_iinc G (cvJ (j + 1)) dT_setTimes_26 rfl (by rw [← hcv]; exact cvJ_next (by omega)) (by decide) ?_
        refine x_goto G 4 dT_setTimes_29 (by decide) ?_
        exact x_eq rfl (by rw [e]; rfl) rfl rfl (ih (j + 1) (by omega) _ (by rw [show 4 - (j + 1) = 3 - j by omega]; exact hM2) hO2)
      · obtain ⟨f, hf⟩ : ∃ f, fstA A (3 - j) 8 = some f := by
          cases hq : fstA A (3 - j) 8 with
          | none => rw [h13, hq] at h15; exact absurd rfl h15
          | some f => exact ⟨f, rfl⟩
        obtain ⟨l', hl', -, -, -⟩ := lst_of_fst hf
        have e := nxA_here hf
        refine x_aload_n G 0 dT_setTimes_18 rfl rfl ?_
        refine x_iload_n G 2 dT_setTimes_19 rfl rfl ?_
        refine x_eq (st2 := [.int (nI (3 - j)), .ref (ad 3)]) rfl rfl rfl rfl ?_
        refine x_iload_n G 1 dT_setTimes_20 rfl rfl ?_
        refine x_top (z := oI (nxA A (3 - (3 - j)))) (by rw [show 3 - (3 - j) = j by omega]) ?_
        refine x_callV2v G (cT_setTimesOf (c := 3 - j) (hB.of (hO.o (by omega)) (hO.o (by omega)) (hO.o (by omega))) (hK.of (hO.o (by omega)) (hO.o (by omega)) (hO.o (by omega)) (hO.o (by omega))) (hS.of (hO.o (by omega))) (hO.TS hTS) hok hAC (by omega) hf hl' (hM.toK hf)) 3 rfl rfl (cV G.2.2.2.2.1 wd_298 wd_300 wd_12 wd_53 wd_301 (by decide +kernel) ⟨(Nat.le_of_ble_eq_true rfl), (Nat.le_of_ble_eq_true rfl)⟩) dT_setTimes_21 (Nat.le_of_ble_eq_true rfl) ⟨Nat.zero_le _, Nat.zero_le _⟩ (fun u21 e21 => ?_)
        obtain ⟨hMk, hO1⟩ := e21
        have hM2 := hMk.toM (by omega) hf hl'
        have hO2 := hO.tr hO1
        refine x_iload_n G 2 dT_setTimes_24 rfl rfl ?_
        refine x_istore_n G 1 dT_setTimes_25 rfl (by decide) ?_
        refine x_iinc G (cvJ (j + 1)) dT_setTimes_26 rfl (by rw [← hcv]; exact cvJ_next (by omega)) (by decide) ?_
        refine x_goto G 4 dT_setTimes_29 (by decide) ?_
        exact x_eq rfl (by rw [e]; rfl) rfl rfl (ih (j + 1) (by omega) _ (by rw [show 4 - (j + 1) = 3 - j by omega]; exact hM2) hO2)
  refine x_iconst G (-1) dT_setTimes_0 (by decide) ?_
  refine x_istore_n G 1 dT_setTimes_1 rfl (by decide) ?_
  refine x_iconst G (3) dT_setTimes_2 (by decide) ?_
  refine x_istore_n G 2 dT_setTimes_3 rfl (by decide) ?_
  exact loop 4 0 (by omega) σ (TM.top hfin) TO.rf
/-- the timetable of a plan stands: sharing, times, steps -/
def TP (σ : xSg) (A mv mo mi : Nat → Nat) (g s : Nat) : Prop := TS σ A ∧ TM σ A mv mo mi g s 0 ∧ σ 3 11 = nI (spA A 8 4)
set_option maxHeartbeats 4000000 in
set_option maxRecDepth 100000 in
theorem cT_beginsAhead {l : Launch} {D : va_G} {cI cZ cJ : ClassId} {ad : Nat → Nat} {σ : xSg} {n b d x y : Nat} {cx cy : Nat} (ht : σ 1 2 = nI n) (hn : n ≤ 8) (hb : b < n) (hd : d < n) (h1 : σ 11 b = nI x) (h2 : σ 11 d = nI y) (h3 : σ 10 b = nI cx) (h4 : σ 10 d = nI cy) (b1 : x < 2 ^ 31) (b2 : y < 2 ^ 31) (b3 : cx < 4) (b4 : cy < 4) : xCi0 l D vCl (tyC cI cZ cJ) nwW (wC ad cI cZ cJ σ) yT_beginsAhead (.code yT_beginsAhead bT_beginsAhead 3 (some .boolean) :: bigW) 1 [.ref (ad 3), .int (nI b), .int (nI d)] (fun r => r = bI (x < y ∨ (x = y ∧ cx < cy))) := by
  refine xCi0.of (cc := bT_beginsAhead) (nL := 3) (ret := (some .boolean)) rfl (by decide) [.ref (ad 3), .int (nI b), .int (nI d)] rfl (Nat.le_of_ble_eq_true rfl) ?_
  intro pp ee ss mm aa bb me cde AA G hr hlk
  refine x_aload_n G 0 dT_beginsAhead_0 rfl rfl ?_
  refine x_get G 3 rfl rfl 0 (by decide) rfl (fun w h => .tail _ (iT_ok w h)) (.tail _ wd_141) rfl dT_beginsAhead_1 ?_
  refine x_iload_n G 1 dT_beginsAhead_4 rfl rfl ?_
  refine x_call0VN1i G (cB_hasN ht hn (by omega)) 1 rfl rfl (cVN G.2.2.2.2.1 G.2.2.2.2.2.2.1 nd_284 wd_260 wd_3 wd_49 wd_261 (by decide +kernel) ⟨(Nat.le_of_ble_eq_true rfl), (Nat.le_of_ble_eq_true rfl)⟩) dT_beginsAhead_5 (Nat.le_of_ble_eq_true rfl) ⟨Nat.zero_le _, Nat.zero_le _⟩ (fun r5 e5 => ?_)
  subst e5
  refine x_if_eq G 22 dT_beginsAhead_8 (by decide) (fun h8 => (by have h8 := bI_eq0.mp h8; omega)) (fun h8 => ?_)
  refine x_aload_n G 0 dT_beginsAhead_11 rfl rfl ?_
  refine x_get G 3 rfl rfl 0 (by decide) rfl (fun w h => .tail _ (iT_ok w h)) (.tail _ wd_141) rfl dT_beginsAhead_12 ?_
  refine x_iload_n G 2 dT_beginsAhead_15 rfl rfl ?_
  refine x_call0VN1i G (cB_hasN ht hn (by omega)) 1 rfl rfl (cVN G.2.2.2.2.1 G.2.2.2.2.2.2.1 nd_284 wd_260 wd_3 wd_49 wd_261 (by decide +kernel) ⟨(Nat.le_of_ble_eq_true rfl), (Nat.le_of_ble_eq_true rfl)⟩) dT_beginsAhead_16 (Nat.le_of_ble_eq_true rfl) ⟨Nat.zero_le _, Nat.zero_le _⟩ (fun r16 e16 => ?_)
  subst e16
  refine x_if_ne G 24 dT_beginsAhead_19 (by decide) (fun h19 => ?_) (fun h19 => (by have h19 := bI_eq0.mp h19; omega))
  refine x_aload_n G 0 dT_beginsAhead_24 rfl rfl ?_
  refine x_get G 3 rfl rfl 3 (by decide) rfl (fun w h => .tail _ (iT_ok w h)) (.tail _ wd_145) rfl dT_beginsAhead_25 ?_
  refine x_iload_n G 1 dT_beginsAhead_28 rfl rfl ?_
  refine x_ialdN G 11 0 rfl rfl (by omega) (by decide) dT_beginsAhead_29 ?_
  refine x_aload_n G 0 dT_beginsAhead_30 rfl rfl ?_
  refine x_get G 3 rfl rfl 3 (by decide) rfl (fun w h => .tail _ (iT_ok w h)) (.tail _ wd_145) rfl dT_beginsAhead_31 ?_
  refine x_iload_n G 2 dT_beginsAhead_34 rfl rfl ?_
  refine x_ialdN G 11 0 rfl rfl (by omega) (by decide) dT_beginsAhead_35 ?_
  refine x_icmp_eq G 62 dT_beginsAhead_36 (by decide) (fun h36 => ?_) (fun h36 => ?_)
  · rw [h1, h2, nI_eq b1 b2] at h36
    refine x_aload_n G 0 dT_beginsAhead_62 rfl rfl ?_
    refine x_get G 3 rfl rfl 2 (by decide) rfl (fun w h => .tail _ (iT_ok w h)) (.tail _ wd_143) rfl dT_beginsAhead_63 ?_
    refine x_iload_n G 1 dT_beginsAhead_66 rfl rfl ?_
    refine x_ialdN G 10 0 rfl rfl (by omega) (by decide) dT_beginsAhead_67 ?_
    refine x_aload_n G 0 dT_beginsAhead_68 rfl rfl ?_
    refine x_get G 3 rfl rfl 2 (by decide) rfl (fun w h => .tail _ (iT_ok w h)) (.tail _ wd_143) rfl dT_beginsAhead_69 ?_
    refine x_iload_n G 2 dT_beginsAhead_72 rfl rfl ?_
    refine x_ialdN G 10 0 rfl rfl (by omega) (by decide) dT_beginsAhead_73 ?_
    refine x_icmp_ge G 81 dT_beginsAhead_74 (by decide) (fun h74 => ?_) (fun h74 => ?_)
    · rw [h3, h4, nI_leI (by omega) (by omega)] at h74
      refine x_iconst G (0) dT_beginsAhead_81 (by decide) ?_
      exact x_ret0i G hr hlk rfl dT_beginsAhead_82 (by first | rw [bI_t (by omega)] | rw [bI_f (by omega)])
    · rw [h3, h4, nI_leI (by omega) (by omega)] at h74
      refine x_iconst G (1) dT_beginsAhead_77 (by decide) ?_
      refine x_goto G 82 dT_beginsAhead_78 (by decide) ?_
      exact x_ret0i G hr hlk rfl dT_beginsAhead_82 (by first | rw [bI_t (by omega)] | rw [bI_f (by omega)])
  · rw [h1, h2, nI_eq b1 b2] at h36
    refine x_aload_n G 0 dT_beginsAhead_39 rfl rfl ?_
    refine x_get G 3 rfl rfl 3 (by decide) rfl (fun w h => .tail _ (iT_ok w h)) (.tail _ wd_145) rfl dT_beginsAhead_40 ?_
    refine x_iload_n G 1 dT_beginsAhead_43 rfl rfl ?_
    refine x_ialdN G 11 0 rfl rfl (by omega) (by decide) dT_beginsAhead_44 ?_
    refine x_aload_n G 0 dT_beginsAhead_45 rfl rfl ?_
    refine x_get G 3 rfl rfl 3 (by decide) rfl (fun w h => .tail _ (iT_ok w h)) (.tail _ wd_145) rfl dT_beginsAhead_46 ?_
    refine x_iload_n G 2 dT_beginsAhead_49 rfl rfl ?_
    refine x_ialdN G 11 0 rfl rfl (by omega) (by decide) dT_beginsAhead_50 ?_
    refine x_icmp_ge G 58 dT_beginsAhead_51 (by decide) (fun h51 => ?_) (fun h51 => ?_)
    · rw [h1, h2, nI_leI b2 b1] at h51
      refine x_iconst G (0) dT_beginsAhead_58 (by decide) ?_
      refine x_goto G 82 dT_beginsAhead_59 (by decide) ?_
      exact x_ret0i G hr hlk rfl dT_beginsAhead_82 (by first | rw [bI_t (by omega)] | rw [bI_f (by omega)])
    · rw [h1, h2, nI_leI b2 b1] at h51
      refine x_iconst G (1) dT_beginsAhead_54 (by decide) ?_
      refine x_goto G 82 dT_beginsAhead_55 (by decide) ?_
      exact x_ret0i G hr hlk rfl dT_beginsAhead_82 (by first | rw [bI_t (by omega)] | rw [bI_f (by omega)])
/-- the first bay below k.. that a crane works at at a time: found from j bays before the end -/
def wkA (A bg en : Nat → Nat) (c : Nat) (t : Int) : Nat → Option Nat
  | 0 => none
  | j + 1 => if A (7 - j) = c ∧ (bg (7 - j) : Int) ≤ t ∧ t < (en (7 - j) : Int) then some (7 - j) else wkA A bg en c t j
set_option maxHeartbeats 4000000 in
set_option maxRecDepth 100000 in
theorem cT_bayWorkedAt {l : Launch} {D : va_G} {cI cZ cJ : ClassId} {ad : Nat → Nat} {σ : xSg} {A bg en : Nat → Nat} {c : Nat} {t : Int32} (hTS : TS σ A) (hc : c < 4) (hbe : ∀ b, b < 8 → A b = c → σ 11 b = nI (bg b) ∧ σ 12 b = nI (en b) ∧ bg b < 2 ^ 31 ∧ en b < 2 ^ 31) : xCi0 l D vCl (tyC cI cZ cJ) nwW (wC ad cI cZ cJ σ) yT_bayWorkedAt (.code yT_bayWorkedAt bT_bayWorkedAt 4 (some .int) :: bigW) 0 [.ref (ad 3), .int (nI c), .int t] (fun r => r = oI (wkA A bg en c t.toInt 8)) := by
  refine xCi0.of (cc := bT_bayWorkedAt) (nL := 4) (ret := (some .int)) rfl (by decide) [.ref (ad 3), .int (nI c), .int t, .null] rfl (Nat.le_of_ble_eq_true rfl) ?_
  intro pp ee ss mm aa bb me cde AA G hr hlk
  have loop : ∀ (j k : Nat), k + j = 8 → wkA A bg en c t.toInt j = wkA A bg en c t.toInt 8 → xJ pp l ee { frames := 0, cells := 0, slots := 0, locals := 40 * 0 } ss mm aa bb me cde 0 0 (MQ bb (vp_Si (fun r => r = oI (wkA A bg en c t.toInt 8))) aa ss 0 0 (fun _ => False)) D vCl AA 4 (fun H locs => H = ss.heap ∧ locs = []) (wC ad cI cZ cJ σ) [.ref (ad 3), .int (nI c), .int t, .int (nI k)] 2 [] := by
    intro j
    induction j with
    | zero =>
      intro k hk he
      have hk : k = 8 := by omega
      subst hk
      refine x_iload_n G 3 dT_bayWorkedAt_2 rfl rfl ?_
      refine x_bipush G (8) dT_bayWorkedAt_3 (by decide) ?_
      refine x_icmp_ge G 46 dT_bayWorkedAt_5 (by decide) (fun h5 => ?_) (fun h5 => (by exact absurd (nI_le (show 8 ≤ 8 by omega) (by decide)) h5))
      refine x_iconst G (-1) dT_bayWorkedAt_46 (by decide) ?_
      exact x_ret0i G hr hlk rfl dT_bayWorkedAt_47 (by rw [← he]; rfl)
    | succ j ih =>
      intro k hk he
      have e7 : 7 - j = k := by omega
      have hA := hTS.1 k (by omega)
      refine x_iload_n G 3 dT_bayWorkedAt_2 rfl rfl ?_
      refine x_bipush G (8) dT_bayWorkedAt_3 (by decide) ?_
      refine x_icmp_ge G 46 dT_bayWorkedAt_5 (by decide) (fun h5 => (by exact absurd h5 (nI_ge (show k < 8 by omega) (by decide)))) (fun h5 => ?_)
      refine x_aload_n G 0 dT_bayWorkedAt_8 rfl rfl ?_
      refine x_get G 3 rfl rfl 2 (by decide) rfl (fun w h => .tail _ (iT_ok w h)) (.tail _ wd_143) rfl dT_bayWorkedAt_9 ?_
      refine x_iload_n G 3 dT_bayWorkedAt_12 rfl rfl ?_
      refine x_ialdN G 10 0 rfl rfl (by omega) (by decide) dT_bayWorkedAt_13 ?_
      refine x_iload_n G 1 dT_bayWorkedAt_14 rfl rfl ?_
      refine x_icmp_ne G 40 dT_bayWorkedAt_15 (by decide) (fun h15 => ?_) (fun h15 => ?_)
      · rw [hA, aI_eq hc] at h15
        have e : wkA A bg en c t.toInt (j + 1) = wkA A bg en c t.toInt j := by rw [wkA, e7, if_neg (fun q => h15 q.1)]
        refine x_iinc G (nI (k + 1)) dT_bayWorkedAt_40 rfl (nI_1 k) (by decide) ?_
        refine x_goto G 2 dT_bayWorkedAt_43 (by decide) ?_
        exact ih (k + 1) (by omega) (by rw [← he, e])
      · rw [hA, aI_eq hc] at h15
        obtain ⟨q1, q2, q3, q4⟩ := hbe k (by omega) h15
        refine x_aload_n G 0 dT_bayWorkedAt_18 rfl rfl ?_
        refine x_get G 3 rfl rfl 3 (by decide) rfl (fun w h => .tail _ (iT_ok w h)) (.tail _ wd_145) rfl dT_bayWorkedAt_19 ?_
        refine x_iload_n G 3 dT_bayWorkedAt_22 rfl rfl ?_
        refine x_ialdN G 11 0 rfl rfl (by omega) (by decide) dT_bayWorkedAt_23 ?_
        refine x_iload_n G 2 dT_bayWorkedAt_24 rfl rfl ?_
        refine x_icmp_gt G 40 dT_bayWorkedAt_25 (by decide) (fun h25 => ?_) (fun h25 => ?_)
        · rw [q1, i32_lt, nI_toInt q3] at h25
          have e : wkA A bg en c t.toInt (j + 1) = wkA A bg en c t.toInt j := by rw [wkA, e7, if_neg (by omega)]
          refine x_iinc G (nI (k + 1)) dT_bayWorkedAt_40 rfl (nI_1 k) (by decide) ?_
          refine x_goto G 2 dT_bayWorkedAt_43 (by decide) ?_
          exact ih (k + 1) (by omega) (by rw [← he, e])
        · rw [q1, i32_lt, nI_toInt q3] at h25
          refine x_iload_n G 2 dT_bayWorkedAt_28 rfl rfl ?_
          refine x_aload_n G 0 dT_bayWorkedAt_29 rfl rfl ?_
          refine x_get G 3 rfl rfl 4 (by decide) rfl (fun w h => .tail _ (iT_ok w h)) (.tail _ wd_146) rfl dT_bayWorkedAt_30 ?_
          refine x_iload_n G 3 dT_bayWorkedAt_33 rfl rfl ?_
          refine x_ialdN G 12 0 rfl rfl (by omega) (by decide) dT_bayWorkedAt_34 ?_
          refine x_icmp_ge G 40 dT_bayWorkedAt_35 (by decide) (fun h35 => ?_) (fun h35 => ?_)
          · rw [q2, i32_le, nI_toInt q4] at h35
            have e : wkA A bg en c t.toInt (j + 1) = wkA A bg en c t.toInt j := by rw [wkA, e7, if_neg (by omega)]
            refine x_iinc G (nI (k + 1)) dT_bayWorkedAt_40 rfl (nI_1 k) (by decide) ?_
            refine x_goto G 2 dT_bayWorkedAt_43 (by decide) ?_
            exact ih (k + 1) (by omega) (by rw [← he, e])
          · rw [q2, i32_le, nI_toInt q4] at h35
            have e : wkA A bg en c t.toInt (j + 1) = some k := by rw [wkA, e7, if_pos (by omega)]
            refine x_iload_n G 3 dT_bayWorkedAt_38 rfl rfl ?_
            exact x_ret0i G hr hlk rfl dT_bayWorkedAt_39 (by rw [← he, e]; rfl)
  refine x_iconst G (0) dT_bayWorkedAt_0 (by decide) ?_
  refine x_istore_n G 3 dT_bayWorkedAt_1 rfl (by decide) ?_
  exact loop 8 0 (by omega) rfl
/-- the bay to which a crane came last by a time: of the bays from f on, k of them -/
def ctA (cm : Nat → Nat) (f t : Nat) : Nat → Nat
  | 0 => f
  | k + 1 => if cm (f + k) ≤ t then f + k else ctA cm f t k
set_option maxHeartbeats 4000000 in
set_option maxRecDepth 100000 in
theorem cT_bayCameTo {l : Launch} {D : va_G} {cI cZ cJ : ClassId} {ad : Nat → Nat} {σ : xSg} {C c f l' t : Nat} {cm : Nat → Nat} (hC : σ 2 0 = nI C) (hC4 : C ≤ 4) (hc : c < C) (hf : σ 13 c = nI f) (hl : σ 14 c = nI l') (hfl : f ≤ l') (hl8 : l' < 8) (ht : t < 2 ^ 31) (hcm : ∀ b, f ≤ b → b ≤ l' → σ (16 + c) b = nI (cm b) ∧ cm b < 2 ^ 31) : xCi0 l D vCl (tyC cI cZ cJ) nwW (wC ad cI cZ cJ σ) yT_bayCameTo (.code yT_bayCameTo bT_bayCameTo 5 (some .int) :: bigW) 1 [.ref (ad 3), .int (nI c), .int (nI t)] (fun r => r = nI (ctA cm f t (l' + 1 - f))) := by
  refine xCi0.of (cc := bT_bayCameTo) (nL := 5) (ret := (some .int)) rfl (by decide) [.ref (ad 3), .int (nI c), .int (nI t), .null, .null] rfl (Nat.le_of_ble_eq_true rfl) ?_
  intro pp ee ss mm aa bb me cde AA G hr hlk
  have hcC : c < 4 := by omega
  have hl14 : σ 14 c = nI l' := hl
  have loop : ∀ (j k : Nat), f + k + j = l' + 1 → xJ pp l ee { frames := 1, cells := 0, slots := 0, locals := 40 * 1 } ss mm aa bb me cde 0 0 (MQ bb (vp_Si (fun r => r = nI (ctA cm f t (l' + 1 - f)))) aa ss 0 0 (fun _ => False)) D vCl AA 5 (fun H locs => H = ss.heap ∧ locs = []) (wC ad cI cZ cJ σ) [.ref (ad 3), .int (nI c), .int (nI t), .int (nI (ctA cm f t k)), .int (nI (f + k))] 37 [] := by
    intro j
    induction j with
    | zero =>
      intro k hk
      refine x_iload G dT_bayCameTo_37 rfl ?_
      refine x_aload_n G 0 dT_bayCameTo_39 rfl rfl ?_
      refine x_get G 3 rfl rfl 6 (by decide) rfl (fun w h => .tail _ (iT_ok w h)) (.tail _ wd_148) rfl dT_bayCameTo_40 ?_
      refine x_iload_n G 1 dT_bayCameTo_43 rfl rfl ?_
      refine x_ialdN G 14 0 rfl rfl (by omega) (by decide) dT_bayCameTo_44 ?_
      refine x_icmp_gt G 77 dT_bayCameTo_45 (by decide) (fun h45 => ?_) (fun h45 => (by rw [hl14] at h45; exact absurd (nI_lt (by omega) (by omega)) h45))
      refine x_iload_n G 3 dT_bayCameTo_77 rfl rfl ?_
      exact x_ret0i G hr hlk rfl dT_bayCameTo_78 (by rw [show l' + 1 - f = k by omega])
    | succ j ih =>
      intro k hk
      obtain ⟨hq1, hq2⟩ := hcm (f + k) (by omega) (by omega)
      refine x_iload G dT_bayCameTo_37 rfl ?_
      refine x_aload_n G 0 dT_bayCameTo_39 rfl rfl ?_
      refine x_get G 3 rfl rfl 6 (by decide) rfl (fun w h => .tail _ (iT_ok w h)) (.tail _ wd_148) rfl dT_bayCameTo_40 ?_
      refine x_iload_n G 1 dT_bayCameTo_43 rfl rfl ?_
      refine x_ialdN G 14 0 rfl rfl (by omega) (by decide) dT_bayCameTo_44 ?_
      refine x_icmp_gt G 77 dT_bayCameTo_45 (by decide) (fun h45 => (by rw [hl14, nI_ltI (by omega) (by omega)] at h45; omega)) (fun h45 => ?_)
      refine x_iload G dT_bayCameTo_48 rfl ?_
      refine x_bipush G (8) dT_bayCameTo_50 (by decide) ?_
      refine x_icmp_ge G 77 dT_bayCameTo_52 (by decide) (fun h52 => (by exact absurd h52 (nI_ge (show f + k < 8 by omega) (by decide)))) (fun h52 => ?_)
      refine x_aload_n G 0 dT_bayCameTo_55 rfl rfl ?_
      refine x_get G 3 rfl rfl 7 (by decide) rfl (fun w h => .tail _ (iT_ok w h)) (.tail _ wd_149) rfl dT_bayCameTo_56 ?_
      refine x_iload_n G 1 dT_bayCameTo_59 rfl rfl ?_
      refine x_aald G 15 2 rfl rfl rfl hcC (by decide) (if_pos hcC) dT_bayCameTo_60 ?_
      refine x_iload G dT_bayCameTo_61 rfl ?_
      refine x_ialdN G (16 + c) 0 (wC_row hcC) rfl (by omega) (by decide) dT_bayCameTo_63 ?_
      refine x_iload_n G 2 dT_bayCameTo_64 rfl rfl ?_
      refine x_icmp_gt G 71 dT_bayCameTo_65 (by decide) (fun h65 => ?_) (fun h65 => ?_)
      · rw [hq1, nI_ltI (by omega) (by omega)] at h65
        have e : ctA cm f t (k + 1) = ctA cm f t k := by rw [ctA, if_neg (by omega)]
        refine x_iinc G (nI (f + (k + 1))) dT_bayCameTo_71 rfl (nI_1 (f + k)) (by decide) ?_
        refine x_goto G 37 dT_bayCameTo_74 (by decide) ?_
        exact x_eq rfl (by rw [e]; rfl) rfl rfl (ih (k + 1) (by omega))
      · rw [hq1, nI_ltI (by omega) (by omega)] at h65
        have e : ctA cm f t (k + 1) = f + k := by rw [ctA, if_pos (by omega)]
        refine x_iload G dT_bayCameTo_68 rfl ?_
        refine x_istore_n G 3 dT_bayCameTo_70 rfl (by decide) ?_
        refine x_iinc G (nI (f + (k + 1))) dT_bayCameTo_71 rfl (nI_1 (f + k)) (by decide) ?_
        refine x_goto G 37 dT_bayCameTo_74 (by decide) ?_
        exact x_eq rfl (by rw [e]; rfl) rfl rfl (ih (k + 1) (by omega))
  refine x_aload_n G 0 dT_bayCameTo_0 rfl rfl ?_
  refine x_get G 3 rfl rfl 1 (by decide) rfl (fun w h => .tail _ (iT_ok w h)) (.tail _ wd_142) rfl dT_bayCameTo_1 ?_
  refine x_iload_n G 1 dT_bayCameTo_4 rfl rfl ?_
  refine x_call0VN1i G (cK_hasN hC hC4 (by omega)) 2 rfl rfl (cVN G.2.2.2.2.1 G.2.2.2.2.2.2.1 nd_285 wd_268 wd_5 wd_50 wd_269 (by decide +kernel) ⟨(Nat.le_of_ble_eq_true rfl), (Nat.le_of_ble_eq_true rfl)⟩) dT_bayCameTo_5 (Nat.le_of_ble_eq_true rfl) ⟨Nat.zero_le _, Nat.zero_le _⟩ (fun r5 e5 => ?_)
  subst e5
  refine x_if_eq G 21 dT_bayCameTo_8 (by decide) (fun h8 => (by have h8 := bI_eq0.mp h8; omega)) (fun h8 => ?_)
  refine x_aload_n G 0 dT_bayCameTo_11 rfl rfl ?_
  refine x_get G 3 rfl rfl 5 (by decide) rfl (fun w h => .tail _ (iT_ok w h)) (.tail _ wd_147) rfl dT_bayCameTo_12 ?_
  refine x_iload_n G 1 dT_bayCameTo_15 rfl rfl ?_
  refine x_ialdN G 13 0 rfl rfl (by omega) (by decide) dT_bayCameTo_16 ?_
  refine x_iconst G (-1) dT_bayCameTo_17 (by decide) ?_
  refine x_icmp_ne G 23 dT_bayCameTo_18 (by decide) (fun h18 => ?_) (fun h18 => (by rw [hf] at h18; exact absurd h18 (nI_m1 (by omega))))
  refine x_aload_n G 0 dT_bayCameTo_23 rfl rfl ?_
  refine x_get G 3 rfl rfl 5 (by decide) rfl (fun w h => .tail _ (iT_ok w h)) (.tail _ wd_147) rfl dT_bayCameTo_24 ?_
  refine x_iload_n G 1 dT_bayCameTo_27 rfl rfl ?_
  refine x_ialdN G 13 0 rfl rfl (by omega) (by decide) dT_bayCameTo_28 ?_
  refine x_top hf ?_
  refine x_istore_n G 3 dT_bayCameTo_29 rfl (by decide) ?_
  refine x_iconst G (0) dT_bayCameTo_30 (by decide) ?_
  refine x_iload_n G 3 dT_bayCameTo_31 rfl rfl ?_
  refine x_mmax G (.tail _ wd_302) (.tail _ wd_101) (.tail _ wd_51) (.tail _ wd_102) ⟨(Nat.le_of_ble_eq_true rfl), (Nat.le_of_ble_eq_true rfl), Nat.zero_le _, Nat.zero_le _⟩ dT_bayCameTo_32 ?_
  refine x_top (z := nI f) (by show (if nI 0 < nI f then nI f else nI 0) = _; rw [nI_max (by omega) (by omega), Nat.zero_max]) ?_
  refine x_istore G dT_bayCameTo_35 (by decide) ?_
  exact loop (l' + 1 - f) 0 (by omega)
set_option maxHeartbeats 4000000 in
set_option maxRecDepth 100000 in
theorem cT_bayCameTo0 {l : Launch} {D : va_G} {cI cZ cJ : ClassId} {ad : Nat → Nat} {σ : xSg} {C c : Nat} {t : Int32} (hC : σ 2 0 = nI C) (hC4 : C ≤ 4) (hc : c < C) (hf : σ 13 c = -1) : xCi0 l D vCl (tyC cI cZ cJ) nwW (wC ad cI cZ cJ σ) yT_bayCameTo (.code yT_bayCameTo bT_bayCameTo 5 (some .int) :: bigW) 1 [.ref (ad 3), .int (nI c), .int t] (fun r => r = -1) := by
  refine xCi0.of (cc := bT_bayCameTo) (nL := 5) (ret := (some .int)) rfl (by decide) [.ref (ad 3), .int (nI c), .int t, .null, .null] rfl (Nat.le_of_ble_eq_true rfl) ?_
  intro pp ee ss mm aa bb me cde AA G hr hlk
  refine x_aload_n G 0 dT_bayCameTo_0 rfl rfl ?_
  refine x_get G 3 rfl rfl 1 (by decide) rfl (fun w h => .tail _ (iT_ok w h)) (.tail _ wd_142) rfl dT_bayCameTo_1 ?_
  refine x_iload_n G 1 dT_bayCameTo_4 rfl rfl ?_
  refine x_call0VN1i G (cK_hasN hC hC4 (by omega)) 2 rfl rfl (cVN G.2.2.2.2.1 G.2.2.2.2.2.2.1 nd_285 wd_268 wd_5 wd_50 wd_269 (by decide +kernel) ⟨(Nat.le_of_ble_eq_true rfl), (Nat.le_of_ble_eq_true rfl)⟩) dT_bayCameTo_5 (Nat.le_of_ble_eq_true rfl) ⟨Nat.zero_le _, Nat.zero_le _⟩ (fun r5 e5 => ?_)
  subst e5
  refine x_if_eq G 21 dT_bayCameTo_8 (by decide) (fun h8 => (by have h8 := bI_eq0.mp h8; omega)) (fun h8 => ?_)
  refine x_aload_n G 0 dT_bayCameTo_11 rfl rfl ?_
  refine x_get G 3 rfl rfl 5 (by decide) rfl (fun w h => .tail _ (iT_ok w h)) (.tail _ wd_147) rfl dT_bayCameTo_12 ?_
  refine x_iload_n G 1 dT_bayCameTo_15 rfl rfl ?_
  refine x_ialdN G 13 0 rfl rfl (by omega) (by decide) dT_bayCameTo_16 ?_
  refine x_iconst G (-1) dT_bayCameTo_17 (by decide) ?_
  refine x_icmp_ne G 23 dT_bayCameTo_18 (by decide) (fun h18 => (by exact absurd hf h18)) (fun h18 => ?_)
  refine x_iconst G (-1) dT_bayCameTo_21 (by decide) ?_
  exact x_ret0i G hr hlk rfl dT_bayCameTo_22 rfl
/-- the moves that are done at a bay by a time -/
def dnA (A mv mo mi bg en : Nat → Nat) (b t : Nat) : Nat := if ¬ A b < 4 ∨ t ≤ bg b then 0 else if en b ≤ t then mv b else (t - bg b) * mo (A b) / mi (A b)
set_option maxHeartbeats 4000000 in
set_option maxRecDepth 100000 in
theorem cT_doneBy {l : Launch} {D : va_G} {cI cZ cJ : ClassId} {ad : Nat → Nat} {σ : xSg} {A bg en : Nat → Nat} {n C b t : Nat} {hh ww mo mi : Nat → Nat} {ou : Nat → Bool} (hB : PB σ n hh ww) (hK : PK σ C mo mi ou) (hAC : ∀ b, A b < 4 → A b < C) (hb : b < n) (ht : t < 2 ^ 31) (h10 : σ 10 b = aI (A b)) (hbe : A b < 4 → σ 11 b = nI (bg b) ∧ σ 12 b = nI (en b) ∧ bg b ≤ 1000000 ∧ en b ≤ 1000000) : xCi0 l D vCl (tyC cI cZ cJ) nwW (wC ad cI cZ cJ σ) yT_doneBy (.code yT_doneBy bT_doneBy 3 (some .int) :: bigW) 2 [.ref (ad 3), .int (nI b), .int (nI t)] (fun r => r = nI (dnA A (mvF hh ww) mo mi bg en b t)) := by
  refine xCi0.of (cc := bT_doneBy) (nL := 3) (ret := (some .int)) rfl (by decide) [.ref (ad 3), .int (nI b), .int (nI t)] rfl (Nat.le_of_ble_eq_true rfl) ?_
  intro pp ee ss mm aa bb me cde AA G hr hlk
  obtain ⟨hn8, hnt, hbw, hbb, hb0⟩ := id hB
  refine x_aload_n G 0 dT_doneBy_0 rfl rfl ?_
  refine x_get G 3 rfl rfl 0 (by decide) rfl (fun w h => .tail _ (iT_ok w h)) (.tail _ wd_141) rfl dT_doneBy_1 ?_
  refine x_iload_n G 1 dT_doneBy_4 rfl rfl ?_
  refine x_call0VN1i G (cB_hasN hnt hn8 (by omega)) 1 rfl rfl (cVN G.2.2.2.2.1 G.2.2.2.2.2.2.1 nd_284 wd_260 wd_3 wd_49 wd_261 (by decide +kernel) ⟨(Nat.le_of_ble_eq_true rfl), (Nat.le_of_ble_eq_true rfl)⟩) dT_doneBy_5 (Nat.le_of_ble_eq_true rfl) ⟨Nat.zero_le _, Nat.zero_le _⟩ (fun r5 e5 => ?_)
  subst e5
  refine x_if_eq G 31 dT_doneBy_8 (by decide) (fun h8 => (by have h8 := bI_eq0.mp h8; omega)) (fun h8 => ?_)
  refine x_aload_n G 0 dT_doneBy_11 rfl rfl ?_
  refine x_get G 3 rfl rfl 2 (by decide) rfl (fun w h => .tail _ (iT_ok w h)) (.tail _ wd_143) rfl dT_doneBy_12 ?_
  refine x_iload_n G 1 dT_doneBy_15 rfl rfl ?_
  refine x_ialdN G 10 0 rfl rfl (by omega) (by decide) dT_doneBy_16 ?_
  refine x_iconst G (-1) dT_doneBy_17 (by decide) ?_
  refine x_icmp_eq G 31 dT_doneBy_18 (by decide) (fun h18 => ?_) (fun h18 => ?_)
  · rw [h10, aI_m1] at h18
    have e : dnA A (mvF hh ww) mo mi bg en b t = 0 := if_pos (Or.inl h18)
    refine x_iconst G (0) dT_doneBy_31 (by decide) ?_
    exact x_ret0i G hr hlk rfl dT_doneBy_32 (by rw [e]; rfl)
  · rw [h10, aI_m1, Decidable.not_not] at h18
    have hA := h18
    obtain ⟨q1, q2, q3, q4⟩ := hbe hA
    refine x_iload_n G 2 dT_doneBy_21 rfl rfl ?_
    refine x_aload_n G 0 dT_doneBy_22 rfl rfl ?_
    refine x_get G 3 rfl rfl 3 (by decide) rfl (fun w h => .tail _ (iT_ok w h)) (.tail _ wd_145) rfl dT_doneBy_23 ?_
    refine x_iload_n G 1 dT_doneBy_26 rfl rfl ?_
    refine x_ialdN G 11 0 rfl rfl (by omega) (by decide) dT_doneBy_27 ?_
    refine x_icmp_gt G 33 dT_doneBy_28 (by decide) (fun h28 => ?_) (fun h28 => ?_)
    · rw [q1, nI_ltI (by omega) (by omega)] at h28
      refine x_iload_n G 2 dT_doneBy_33 rfl rfl ?_
      refine x_aload_n G 0 dT_doneBy_34 rfl rfl ?_
      refine x_get G 3 rfl rfl 4 (by decide) rfl (fun w h => .tail _ (iT_ok w h)) (.tail _ wd_146) rfl dT_doneBy_35 ?_
      refine x_iload_n G 1 dT_doneBy_38 rfl rfl ?_
      refine x_ialdN G 12 0 rfl rfl (by omega) (by decide) dT_doneBy_39 ?_
      refine x_icmp_lt G 52 dT_doneBy_40 (by decide) (fun h40 => ?_) (fun h40 => ?_)
      · rw [q2, nI_ltI (by omega) (by omega)] at h40
        have e : dnA A (mvF hh ww) mo mi bg en b t = (t - bg b) * mo (A b) / mi (A b) := by unfold dnA; rw [if_neg (by omega), if_neg (by omega)]
        refine x_aload_n G 0 dT_doneBy_52 rfl rfl ?_
        refine x_get G 3 rfl rfl 1 (by decide) rfl (fun w h => .tail _ (iT_ok w h)) (.tail _ wd_142) rfl dT_doneBy_53 ?_
        refine x_aload_n G 0 dT_doneBy_56 rfl rfl ?_
        refine x_get G 3 rfl rfl 2 (by decide) rfl (fun w h => .tail _ (iT_ok w h)) (.tail _ wd_143) rfl dT_doneBy_57 ?_
        refine x_iload_n G 1 dT_doneBy_60 rfl rfl ?_
        refine x_ialdN G 10 0 rfl rfl (by omega) (by decide) dT_doneBy_61 ?_
        refine x_top (z := nI (A b)) (by rw [h10, aI_t hA]) ?_
        refine x_iload_n G 2 dT_doneBy_62 rfl rfl ?_
        refine x_aload_n G 0 dT_doneBy_63 rfl rfl ?_
        refine x_get G 3 rfl rfl 3 (by decide) rfl (fun w h => .tail _ (iT_ok w h)) (.tail _ wd_145) rfl dT_doneBy_64 ?_
        refine x_iload_n G 1 dT_doneBy_67 rfl rfl ?_
        refine x_ialdN G 11 0 rfl rfl (by omega) (by decide) dT_doneBy_68 ?_
        refine x_isub G dT_doneBy_69 ?_
        refine x_top (z := nI (t - bg b)) (by rw [q1]; exact pk_sub (by omega)) ?_
        refine x_call0VN2i G (cK_movesIn hK (hAC b hA) (by omega)) 2 rfl rfl (cVN G.2.2.2.2.1 G.2.2.2.2.2.2.1 nd_554 wd_556 wd_30 wd_50 wd_557 (by decide +kernel) ⟨(Nat.le_of_ble_eq_true rfl), (Nat.le_of_ble_eq_true rfl)⟩) dT_doneBy_70 (Nat.le_of_ble_eq_true rfl) ⟨Nat.zero_le _, Nat.zero_le _⟩ (fun r70 e70 => ?_)
        subst e70
        exact x_ret0i G hr hlk rfl dT_doneBy_73 (by rw [e])
      · rw [q2, nI_ltI (by omega) (by omega)] at h40
        have e : dnA A (mvF hh ww) mo mi bg en b t = mvF hh ww b := by unfold dnA; rw [if_neg (by omega), if_pos (by omega)]
        refine x_aload_n G 0 dT_doneBy_43 rfl rfl ?_
        refine x_get G 3 rfl rfl 0 (by decide) rfl (fun w h => .tail _ (iT_ok w h)) (.tail _ wd_141) rfl dT_doneBy_44 ?_
        refine x_iload_n G 1 dT_doneBy_47 rfl rfl ?_
        refine x_call0VN1i G (cB_movesOf hnt hn8 (by omega)) 1 rfl rfl (cVN G.2.2.2.2.1 G.2.2.2.2.2.2.1 nd_303 wd_256 wd_2 wd_49 wd_257 (by decide +kernel) ⟨(Nat.le_of_ble_eq_true rfl), (Nat.le_of_ble_eq_true rfl)⟩) dT_doneBy_48 (Nat.le_of_ble_eq_true rfl) ⟨Nat.zero_le _, Nat.zero_le _⟩ (fun r48 e48 => ?_)
        subst e48
        exact x_ret0i G hr hlk rfl dT_doneBy_51 (by rw [e]; exact hB.moves b)
    · rw [q1, nI_ltI (by omega) (by omega)] at h28
      have e : dnA A (mvF hh ww) mo mi bg en b t = 0 := if_pos (Or.inr (by omega))
      refine x_iconst G (0) dT_doneBy_31 (by decide) ?_
      exact x_ret0i G hr hlk rfl dT_doneBy_32 (by rw [e]; rfl)
set_option maxHeartbeats 4000000 in
set_option maxRecDepth 100000 in
theorem cT_ofRow0 {l : Launch} {D : va_G} {cI cZ cJ : ClassId} {ad : Nat → Nat} {σ : xSg} {n i b rw' : Nat} (ht : σ 1 2 = nI n) (hn : n ≤ 8) (hr9 : σ 3 9 = nI rw') (hi : i < rw') (hr8 : rw' ≤ 8) (hb20 : σ 20 i = nI b) (hb : b < n) : xCi0 l D vCl (tyC cI cZ cJ) nwW (wC ad cI cZ cJ σ) yT_ofRow (.code yT_ofRow bT_ofRow 4 (some .int) :: bigW) 1 [.ref (ad 3), .int (nI i), .int 0] (fun r => r = σ 11 b) := by
  refine xCi0.of (cc := bT_ofRow) (nL := 4) (ret := (some .int)) rfl (by decide) [.ref (ad 3), .int (nI i), .int 0, .null] rfl (Nat.le_of_ble_eq_true rfl) ?_
  intro pp ee ss mm aa bb me cde AA G hr hlk
  refine x_iload_n G 1 dT_ofRow_0 rfl rfl ?_
  refine x_if_lt G 34 dT_ofRow_1 (by decide) (fun h1 => (by exact absurd h1 (nI_pos (by omega)))) (fun h1 => ?_)
  refine x_iload_n G 1 dT_ofRow_4 rfl rfl ?_
  refine x_aload_n G 0 dT_ofRow_5 rfl rfl ?_
  refine x_get G 3 rfl rfl 9 (by decide) rfl (fun w h => .tail _ (iT_ok w h)) (.tail _ wd_151) rfl dT_ofRow_6 ?_
  refine x_icmp_ge G 34 dT_ofRow_9 (by decide) (fun h9 => (by rw [hr9, nI_leI (by omega) (by omega)] at h9; omega)) (fun h9 => ?_)
  refine x_iload_n G 1 dT_ofRow_12 rfl rfl ?_
  refine x_bipush G (8) dT_ofRow_13 (by decide) ?_
  refine x_icmp_ge G 34 dT_ofRow_15 (by decide) (fun h15 => (by exact absurd h15 (nI_ge (show i < 8 by omega) (by decide)))) (fun h15 => ?_)
  refine x_aload_n G 0 dT_ofRow_18 rfl rfl ?_
  refine x_get G 3 rfl rfl 0 (by decide) rfl (fun w h => .tail _ (iT_ok w h)) (.tail _ wd_141) rfl dT_ofRow_19 ?_
  refine x_aload_n G 0 dT_ofRow_22 rfl rfl ?_
  refine x_get G 3 rfl rfl 8 (by decide) rfl (fun w h => .tail _ (iT_ok w h)) (.tail _ wd_150) rfl dT_ofRow_23 ?_
  refine x_iload_n G 1 dT_ofRow_26 rfl rfl ?_
  refine x_ialdN G 20 0 rfl rfl (by omega) (by decide) dT_ofRow_27 ?_
  refine x_top (z := nI b) hb20 ?_
  refine x_call0VN1i G (cB_hasN ht hn (by omega)) 1 rfl rfl (cVN G.2.2.2.2.1 G.2.2.2.2.2.2.1 nd_284 wd_260 wd_3 wd_49 wd_261 (by decide +kernel) ⟨(Nat.le_of_ble_eq_true rfl), (Nat.le_of_ble_eq_true rfl)⟩) dT_ofRow_28 (Nat.le_of_ble_eq_true rfl) ⟨Nat.zero_le _, Nat.zero_le _⟩ (fun r28 e28 => ?_)
  subst e28
  refine x_if_ne G 36 dT_ofRow_31 (by decide) (fun h31 => ?_) (fun h31 => (by have h31 := bI_eq0.mp h31; omega))
  refine x_aload_n G 0 dT_ofRow_36 rfl rfl ?_
  refine x_get G 3 rfl rfl 8 (by decide) rfl (fun w h => .tail _ (iT_ok w h)) (.tail _ wd_150) rfl dT_ofRow_37 ?_
  refine x_iload_n G 1 dT_ofRow_40 rfl rfl ?_
  refine x_ialdN G 20 0 rfl rfl (by omega) (by decide) dT_ofRow_41 ?_
  refine x_top (z := nI b) hb20 ?_
  refine x_istore_n G 3 dT_ofRow_42 rfl (by decide) ?_
  refine x_iload_n G 2 dT_ofRow_43 rfl rfl ?_
  refine x_tableIn G 72 dT_ofRow_44 (by decide) (by decide) rfl (by decide) ?_
  refine x_aload_n G 0 dT_ofRow_72 rfl rfl ?_
  refine x_get G 3 rfl rfl 3 (by decide) rfl (fun w h => .tail _ (iT_ok w h)) (.tail _ wd_145) rfl dT_ofRow_73 ?_
  refine x_iload_n G 3 dT_ofRow_76 rfl rfl ?_
  refine x_ialdN G 11 0 rfl rfl (by omega) (by decide) dT_ofRow_77 ?_
  exact x_ret0i G hr hlk rfl dT_ofRow_78 rfl
set_option maxHeartbeats 4000000 in
set_option maxRecDepth 100000 in
theorem cT_ofRow1 {l : Launch} {D : va_G} {cI cZ cJ : ClassId} {ad : Nat → Nat} {σ : xSg} {n i b rw' : Nat} (ht : σ 1 2 = nI n) (hn : n ≤ 8) (hr9 : σ 3 9 = nI rw') (hi : i < rw') (hr8 : rw' ≤ 8) (hb20 : σ 20 i = nI b) (hb : b < n) : xCi0 l D vCl (tyC cI cZ cJ) nwW (wC ad cI cZ cJ σ) yT_ofRow (.code yT_ofRow bT_ofRow 4 (some .int) :: bigW) 1 [.ref (ad 3), .int (nI i), .int 1] (fun r => r = σ 10 b) := by
  refine xCi0.of (cc := bT_ofRow) (nL := 4) (ret := (some .int)) rfl (by decide) [.ref (ad 3), .int (nI i), .int 1, .null] rfl (Nat.le_of_ble_eq_true rfl) ?_
  intro pp ee ss mm aa bb me cde AA G hr hlk
  refine x_iload_n G 1 dT_ofRow_0 rfl rfl ?_
  refine x_if_lt G 34 dT_ofRow_1 (by decide) (fun h1 => (by exact absurd h1 (nI_pos (by omega)))) (fun h1 => ?_)
  refine x_iload_n G 1 dT_ofRow_4 rfl rfl ?_
  refine x_aload_n G 0 dT_ofRow_5 rfl rfl ?_
  refine x_get G 3 rfl rfl 9 (by decide) rfl (fun w h => .tail _ (iT_ok w h)) (.tail _ wd_151) rfl dT_ofRow_6 ?_
  refine x_icmp_ge G 34 dT_ofRow_9 (by decide) (fun h9 => (by rw [hr9, nI_leI (by omega) (by omega)] at h9; omega)) (fun h9 => ?_)
  refine x_iload_n G 1 dT_ofRow_12 rfl rfl ?_
  refine x_bipush G (8) dT_ofRow_13 (by decide) ?_
  refine x_icmp_ge G 34 dT_ofRow_15 (by decide) (fun h15 => (by exact absurd h15 (nI_ge (show i < 8 by omega) (by decide)))) (fun h15 => ?_)
  refine x_aload_n G 0 dT_ofRow_18 rfl rfl ?_
  refine x_get G 3 rfl rfl 0 (by decide) rfl (fun w h => .tail _ (iT_ok w h)) (.tail _ wd_141) rfl dT_ofRow_19 ?_
  refine x_aload_n G 0 dT_ofRow_22 rfl rfl ?_
  refine x_get G 3 rfl rfl 8 (by decide) rfl (fun w h => .tail _ (iT_ok w h)) (.tail _ wd_150) rfl dT_ofRow_23 ?_
  refine x_iload_n G 1 dT_ofRow_26 rfl rfl ?_
  refine x_ialdN G 20 0 rfl rfl (by omega) (by decide) dT_ofRow_27 ?_
  refine x_top (z := nI b) hb20 ?_
  refine x_call0VN1i G (cB_hasN ht hn (by omega)) 1 rfl rfl (cVN G.2.2.2.2.1 G.2.2.2.2.2.2.1 nd_284 wd_260 wd_3 wd_49 wd_261 (by decide +kernel) ⟨(Nat.le_of_ble_eq_true rfl), (Nat.le_of_ble_eq_true rfl)⟩) dT_ofRow_28 (Nat.le_of_ble_eq_true rfl) ⟨Nat.zero_le _, Nat.zero_le _⟩ (fun r28 e28 => ?_)
  subst e28
  refine x_if_ne G 36 dT_ofRow_31 (by decide) (fun h31 => ?_) (fun h31 => (by have h31 := bI_eq0.mp h31; omega))
  refine x_aload_n G 0 dT_ofRow_36 rfl rfl ?_
  refine x_get G 3 rfl rfl 8 (by decide) rfl (fun w h => .tail _ (iT_ok w h)) (.tail _ wd_150) rfl dT_ofRow_37 ?_
  refine x_iload_n G 1 dT_ofRow_40 rfl rfl ?_
  refine x_ialdN G 20 0 rfl rfl (by omega) (by decide) dT_ofRow_41 ?_
  refine x_top (z := nI b) hb20 ?_
  refine x_istore_n G 3 dT_ofRow_42 rfl (by decide) ?_
  refine x_iload_n G 2 dT_ofRow_43 rfl rfl ?_
  refine x_tableIn G 79 dT_ofRow_44 (by decide) (by decide) rfl (by decide) ?_
  refine x_aload_n G 0 dT_ofRow_79 rfl rfl ?_
  refine x_get G 3 rfl rfl 2 (by decide) rfl (fun w h => .tail _ (iT_ok w h)) (.tail _ wd_143) rfl dT_ofRow_80 ?_
  refine x_iload_n G 3 dT_ofRow_83 rfl rfl ?_
  refine x_ialdN G 10 0 rfl rfl (by omega) (by decide) dT_ofRow_84 ?_
  exact x_ret0i G hr hlk rfl dT_ofRow_85 rfl
set_option maxHeartbeats 4000000 in
set_option maxRecDepth 100000 in
theorem cT_ofRow2 {l : Launch} {D : va_G} {cI cZ cJ : ClassId} {ad : Nat → Nat} {σ : xSg} {n i b rw' : Nat} (ht : σ 1 2 = nI n) (hn : n ≤ 8) (hr9 : σ 3 9 = nI rw') (hi : i < rw') (hr8 : rw' ≤ 8) (hb20 : σ 20 i = nI b) (hb : b < n) : xCi0 l D vCl (tyC cI cZ cJ) nwW (wC ad cI cZ cJ σ) yT_ofRow (.code yT_ofRow bT_ofRow 4 (some .int) :: bigW) 1 [.ref (ad 3), .int (nI i), .int 2] (fun r => r = nI b) := by
  refine xCi0.of (cc := bT_ofRow) (nL := 4) (ret := (some .int)) rfl (by decide) [.ref (ad 3), .int (nI i), .int 2, .null] rfl (Nat.le_of_ble_eq_true rfl) ?_
  intro pp ee ss mm aa bb me cde AA G hr hlk
  refine x_iload_n G 1 dT_ofRow_0 rfl rfl ?_
  refine x_if_lt G 34 dT_ofRow_1 (by decide) (fun h1 => (by exact absurd h1 (nI_pos (by omega)))) (fun h1 => ?_)
  refine x_iload_n G 1 dT_ofRow_4 rfl rfl ?_
  refine x_aload_n G 0 dT_ofRow_5 rfl rfl ?_
  refine x_get G 3 rfl rfl 9 (by decide) rfl (fun w h => .tail _ (iT_ok w h)) (.tail _ wd_151) rfl dT_ofRow_6 ?_
  refine x_icmp_ge G 34 dT_ofRow_9 (by decide) (fun h9 => (by rw [hr9, nI_leI (by omega) (by omega)] at h9; omega)) (fun h9 => ?_)
  refine x_iload_n G 1 dT_ofRow_12 rfl rfl ?_
  refine x_bipush G (8) dT_ofRow_13 (by decide) ?_
  refine x_icmp_ge G 34 dT_ofRow_15 (by decide) (fun h15 => (by exact absurd h15 (nI_ge (show i < 8 by omega) (by decide)))) (fun h15 => ?_)
  refine x_aload_n G 0 dT_ofRow_18 rfl rfl ?_
  refine x_get G 3 rfl rfl 0 (by decide) rfl (fun w h => .tail _ (iT_ok w h)) (.tail _ wd_141) rfl dT_ofRow_19 ?_
  refine x_aload_n G 0 dT_ofRow_22 rfl rfl ?_
  refine x_get G 3 rfl rfl 8 (by decide) rfl (fun w h => .tail _ (iT_ok w h)) (.tail _ wd_150) rfl dT_ofRow_23 ?_
  refine x_iload_n G 1 dT_ofRow_26 rfl rfl ?_
  refine x_ialdN G 20 0 rfl rfl (by omega) (by decide) dT_ofRow_27 ?_
  refine x_top (z := nI b) hb20 ?_
  refine x_call0VN1i G (cB_hasN ht hn (by omega)) 1 rfl rfl (cVN G.2.2.2.2.1 G.2.2.2.2.2.2.1 nd_284 wd_260 wd_3 wd_49 wd_261 (by decide +kernel) ⟨(Nat.le_of_ble_eq_true rfl), (Nat.le_of_ble_eq_true rfl)⟩) dT_ofRow_28 (Nat.le_of_ble_eq_true rfl) ⟨Nat.zero_le _, Nat.zero_le _⟩ (fun r28 e28 => ?_)
  subst e28
  refine x_if_ne G 36 dT_ofRow_31 (by decide) (fun h31 => ?_) (fun h31 => (by have h31 := bI_eq0.mp h31; omega))
  refine x_aload_n G 0 dT_ofRow_36 rfl rfl ?_
  refine x_get G 3 rfl rfl 8 (by decide) rfl (fun w h => .tail _ (iT_ok w h)) (.tail _ wd_150) rfl dT_ofRow_37 ?_
  refine x_iload_n G 1 dT_ofRow_40 rfl rfl ?_
  refine x_ialdN G 20 0 rfl rfl (by omega) (by decide) dT_ofRow_41 ?_
  refine x_top (z := nI b) hb20 ?_
  refine x_istore_n G 3 dT_ofRow_42 rfl (by decide) ?_
  refine x_iload_n G 2 dT_ofRow_43 rfl rfl ?_
  refine x_tableIn G 86 dT_ofRow_44 (by decide) (by decide) rfl (by decide) ?_
  refine x_iload_n G 3 dT_ofRow_86 rfl rfl ?_
  exact x_ret0i G hr hlk rfl dT_ofRow_87 rfl
set_option maxHeartbeats 4000000 in
set_option maxRecDepth 100000 in
theorem cT_ofRow3 {l : Launch} {D : va_G} {cI cZ cJ : ClassId} {ad : Nat → Nat} {σ : xSg} {n i b rw' : Nat} (ht : σ 1 2 = nI n) (hn : n ≤ 8) (hr9 : σ 3 9 = nI rw') (hi : i < rw') (hr8 : rw' ≤ 8) (hb20 : σ 20 i = nI b) (hb : b < n) : xCi0 l D vCl (tyC cI cZ cJ) nwW (wC ad cI cZ cJ σ) yT_ofRow (.code yT_ofRow bT_ofRow 4 (some .int) :: bigW) 1 [.ref (ad 3), .int (nI i), .int 3] (fun r => r = σ 12 b) := by
  refine xCi0.of (cc := bT_ofRow) (nL := 4) (ret := (some .int)) rfl (by decide) [.ref (ad 3), .int (nI i), .int 3, .null] rfl (Nat.le_of_ble_eq_true rfl) ?_
  intro pp ee ss mm aa bb me cde AA G hr hlk
  refine x_iload_n G 1 dT_ofRow_0 rfl rfl ?_
  refine x_if_lt G 34 dT_ofRow_1 (by decide) (fun h1 => (by exact absurd h1 (nI_pos (by omega)))) (fun h1 => ?_)
  refine x_iload_n G 1 dT_ofRow_4 rfl rfl ?_
  refine x_aload_n G 0 dT_ofRow_5 rfl rfl ?_
  refine x_get G 3 rfl rfl 9 (by decide) rfl (fun w h => .tail _ (iT_ok w h)) (.tail _ wd_151) rfl dT_ofRow_6 ?_
  refine x_icmp_ge G 34 dT_ofRow_9 (by decide) (fun h9 => (by rw [hr9, nI_leI (by omega) (by omega)] at h9; omega)) (fun h9 => ?_)
  refine x_iload_n G 1 dT_ofRow_12 rfl rfl ?_
  refine x_bipush G (8) dT_ofRow_13 (by decide) ?_
  refine x_icmp_ge G 34 dT_ofRow_15 (by decide) (fun h15 => (by exact absurd h15 (nI_ge (show i < 8 by omega) (by decide)))) (fun h15 => ?_)
  refine x_aload_n G 0 dT_ofRow_18 rfl rfl ?_
  refine x_get G 3 rfl rfl 0 (by decide) rfl (fun w h => .tail _ (iT_ok w h)) (.tail _ wd_141) rfl dT_ofRow_19 ?_
  refine x_aload_n G 0 dT_ofRow_22 rfl rfl ?_
  refine x_get G 3 rfl rfl 8 (by decide) rfl (fun w h => .tail _ (iT_ok w h)) (.tail _ wd_150) rfl dT_ofRow_23 ?_
  refine x_iload_n G 1 dT_ofRow_26 rfl rfl ?_
  refine x_ialdN G 20 0 rfl rfl (by omega) (by decide) dT_ofRow_27 ?_
  refine x_top (z := nI b) hb20 ?_
  refine x_call0VN1i G (cB_hasN ht hn (by omega)) 1 rfl rfl (cVN G.2.2.2.2.1 G.2.2.2.2.2.2.1 nd_284 wd_260 wd_3 wd_49 wd_261 (by decide +kernel) ⟨(Nat.le_of_ble_eq_true rfl), (Nat.le_of_ble_eq_true rfl)⟩) dT_ofRow_28 (Nat.le_of_ble_eq_true rfl) ⟨Nat.zero_le _, Nat.zero_le _⟩ (fun r28 e28 => ?_)
  subst e28
  refine x_if_ne G 36 dT_ofRow_31 (by decide) (fun h31 => ?_) (fun h31 => (by have h31 := bI_eq0.mp h31; omega))
  refine x_aload_n G 0 dT_ofRow_36 rfl rfl ?_
  refine x_get G 3 rfl rfl 8 (by decide) rfl (fun w h => .tail _ (iT_ok w h)) (.tail _ wd_150) rfl dT_ofRow_37 ?_
  refine x_iload_n G 1 dT_ofRow_40 rfl rfl ?_
  refine x_ialdN G 20 0 rfl rfl (by omega) (by decide) dT_ofRow_41 ?_
  refine x_top (z := nI b) hb20 ?_
  refine x_istore_n G 3 dT_ofRow_42 rfl (by decide) ?_
  refine x_iload_n G 2 dT_ofRow_43 rfl rfl ?_
  refine x_tableOut G 88 dT_ofRow_44 (by decide) (by decide) ?_
  refine x_aload_n G 0 dT_ofRow_88 rfl rfl ?_
  refine x_get G 3 rfl rfl 4 (by decide) rfl (fun w h => .tail _ (iT_ok w h)) (.tail _ wd_146) rfl dT_ofRow_89 ?_
  refine x_iload_n G 3 dT_ofRow_92 rfl rfl ?_
  refine x_ialdN G 12 0 rfl rfl (by omega) (by decide) dT_ofRow_93 ?_
  exact x_ret0i G hr hlk rfl dT_ofRow_94 rfl
end
section
/-! Timetable.sortRows, Search's gather, share, nextChoice -/
theorem ins_getD {L : List Nat} {k b i : Nat} (hk : k ≤ L.length) : (L.take k ++ b :: L.drop k).getD i 0 = if i < k then L.getD i 0 else if i = k then b else L.getD (i - 1) 0 := by
  rw [List.getD_eq_getElem?_getD, List.getD_eq_getElem?_getD, List.getD_eq_getElem?_getD]
  have hl : (L.take k).length = k := by rw [List.length_take]; omega
  by_cases h1 : i < k
  · rw [if_pos h1, List.getElem?_append_left (by omega), List.getElem?_take_of_lt h1]
  · rw [if_neg h1, List.getElem?_append_right (by omega), hl]
    by_cases h2 : i = k
    · subst h2; rw [if_pos rfl, Nat.sub_self]; rfl
    · rw [if_neg h2]
      obtain ⟨j, rfl⟩ : ∃ j, i = k + 1 + j := ⟨i - k - 1, by omega⟩
      rw [show k + 1 + j - k = j + 1 by omega, List.getElem?_cons_succ, List.getElem?_drop, show k + 1 + j - 1 = k + j by omega]
theorem mem_getD {L : List Nat} {x : Nat} (h : x ∈ L) : ∃ i, i < L.length ∧ L.getD i 0 = x := by
  obtain ⟨i, hi, e⟩ := List.mem_iff_getElem.mp h
  exact ⟨i, hi, by rw [List.getD_eq_getElem?_getD, List.getElem?_eq_getElem hi]; exact e⟩
theorem getD_mem {L : List Nat} {i : Nat} (h : i < L.length) : L.getD i 0 ∈ L := by
  rw [List.getD_eq_getElem?_getD, List.getElem?_eq_getElem h]; exact List.getElem_mem h
theorem take_getD {L : List Nat} {k x : Nat} (h : x ∈ L.take k) : ∃ i, i < k ∧ i < L.length ∧ L.getD i 0 = x := by
  obtain ⟨i, hi, e⟩ := List.mem_iff_getElem.mp h
  rw [List.length_take] at hi
  refine ⟨i, by omega, by omega, ?_⟩
  rw [List.getD_eq_getElem?_getD, List.getElem?_eq_getElem (by omega)]
  rw [List.getElem_take] at e
  exact e
theorem drop_getD {L : List Nat} {k x : Nat} (h : x ∈ L.drop k) : ∃ i, k ≤ i ∧ i < L.length ∧ L.getD i 0 = x := by
  obtain ⟨i, hi, e⟩ := List.mem_iff_getElem.mp h
  rw [List.length_drop] at hi
  refine ⟨k + i, by omega, by omega, ?_⟩
  rw [List.getD_eq_getElem?_getD, List.getElem?_eq_getElem (by omega)]
  rw [List.getElem_drop] at e
  exact e
/-- rows L of the first k bays stand -/
def RW (σ : xSg) (A bg : Nat → Nat) (k : Nat) (L : List Nat) : Prop := σ 3 9 = nI L.length ∧ (∀ i, i < L.length → σ 20 i = nI (L.getD i 0)) ∧ L.Pairwise (ahd bg A) ∧ L.Perm ((List.range k).filter (fun b => decide (A b < 4)))
theorem RW.len {σ : xSg} {A bg : Nat → Nat} {k : Nat} {L : List Nat} (h : RW σ A bg k L) : L.length ≤ k := by
  rw [h.2.2.2.length_eq]
  exact Nat.le_trans (List.length_filter_le _ _) (by rw [List.length_range]; exact Nat.le_refl k)
theorem RW.mem {σ : xSg} {A bg : Nat → Nat} {k x : Nat} {L : List Nat} (h : RW σ A bg k L) (hx : x ∈ L) : x < k ∧ A x < 4 := by
  have := h.2.2.2.mem_iff.mp hx
  rw [List.mem_filter, List.mem_range] at this
  exact ⟨this.1, of_decide_eq_true this.2⟩
/-- what the rows leave as it was -/
def RO (σ u : xSg) : Prop := u 3 10 = σ 3 10 ∧ u 3 11 = σ 3 11 ∧ ∀ q, q ≠ 3 → q ≠ 20 → u q = σ q
theorem RO.rf {σ : xSg} : RO σ σ := ⟨rfl, rfl, fun _ _ _ => rfl⟩
theorem RO.tr {σ u v : xSg} (h1 : RO σ u) (h2 : RO u v) : RO σ v := ⟨h2.1.trans h1.1, h2.2.1.trans h1.2.1, fun q a b => (h2.2.2 q a b).trans (h1.2.2 q a b)⟩
theorem mI_next {a : Nat} (h : 0 < a) : nI a + (-1) = nI (a - 1) := by
  obtain ⟨b, rfl⟩ : ∃ b, a = b + 1 := ⟨a - 1, by omega⟩
  rw [pk_m1]; rfl
set_option maxHeartbeats 4000000 in
set_option maxRecDepth 100000 in
theorem cT_sortRows {l : Launch} {D : va_G} {cI cZ cJ : ClassId} {ad : Nat → Nat} {σ : xSg} {A bg : Nat → Nat} {n : Nat} {hh ww : Nat → Nat} (hB : PB σ n hh ww) (hTS : TS σ A) (hAn : ∀ b, A b < 4 → b < n) (hbe : ∀ b, b < 8 → A b < 4 → σ 11 b = nI (bg b) ∧ bg b < 2 ^ 31) (hdist : ∀ b d, b < 8 → d < 8 → A b < 4 → A d < 4 → b ≠ d → ahd bg A b d ∨ ahd bg A d b) : xCv l D vCl (tyC cI cZ cJ) nwW (wC ad cI cZ cJ) yT_sortRows (.code yT_sortRows bT_sortRows 3 none :: bigW) 2 [.ref (ad 3)] σ (fun u => (∃ L, RW u A bg 8 L) ∧ RO σ u) := by
  refine xCv.of (cc := bT_sortRows) (nL := 3) (ret := none) rfl (by decide) [.ref (ad 3), .null, .null] rfl (Nat.le_of_ble_eq_true rfl) ?_
  intro pp ee ss mm aa bb me cde AA G hr hlk
  obtain ⟨hn8, hnt, hbw, hbb, hb0⟩ := id hB
  have loop : ∀ (j k : Nat), k + j = 8 → ∀ (tz : Value) (σ1 : xSg) (L : List Nat), RW σ1 A bg k L → RO σ σ1 → xJ pp l ee { frames := 2, cells := 0, slots := 0, locals := 40 * 2 } ss mm aa bb me cde 0 0 (MQ bb (va_Qv (fun u => (∃ L, RW u A bg 8 L) ∧ RO σ u) (fun u t => va_P D vCl (wC ad cI cZ cJ u) t.heap ∧ va_D AA (wC ad cI cZ cJ u)) AA) aa ss 0 0 AA) D vCl AA 3 (va_S AA ss.heap) (wC ad cI cZ cJ σ1) [.ref (ad 3), .int (nI k), tz] 7 [] := by
    intro j
    induction j with
    | zero =>
      intro k hk tz σ1 L hL hO
      have hk : k = 8 := by omega
      subst hk
      refine x_iload_n G 1 dT_sortRows_7 rfl rfl ?_
      refine x_bipush G (8) dT_sortRows_8 (by decide) ?_
      refine x_icmp_ge G 91 dT_sortRows_10 (by decide) (fun h10 => ?_) (fun h10 => (by exact absurd (nI_le (show 8 ≤ 8 by omega) (by decide)) h10))
      exact x_retv G hr hlk dT_sortRows_91 ⟨⟨L, hL⟩, hO⟩
    | succ j ih =>
      intro k hk tz σ1 L hL hO
      have h10' : σ1 10 k = aI (A k) := by rw [hO.2.2 10 (by omega) (by omega)]; exact hTS.1 k (by omega)
      have hlen := hL.len
      refine x_iload_n G 1 dT_sortRows_7 rfl rfl ?_
      refine x_bipush G (8) dT_sortRows_8 (by decide) ?_
      refine x_icmp_ge G 91 dT_sortRows_10 (by decide) (fun h10 => (by exact absurd h10 (nI_ge (show k < 8 by omega) (by decide)))) (fun h10 => ?_)
      refine x_aload_n G 0 dT_sortRows_13 rfl rfl ?_
      refine x_get G 3 rfl rfl 2 (by decide) rfl (fun w h => .tail _ (iT_ok w h)) (.tail _ wd_143) rfl dT_sortRows_14 ?_
      refine x_iload_n G 1 dT_sortRows_17 rfl rfl ?_
      refine x_ialdN G 10 0 rfl rfl (by omega) (by decide) dT_sortRows_18 ?_
      refine x_iconst G (-1) dT_sortRows_19 (by decide) ?_
      refine x_icmp_eq G 85 dT_sortRows_20 (by decide) (fun h20 => ?_) (fun h20 => ?_)
      · rw [h10', aI_m1] at h20
        refine x_iinc G (nI (k + 1)) dT_sortRows_85 rfl (nI_1 k) (by decide) ?_
        refine x_goto G 7 dT_sortRows_88 (by decide) ?_
        refine ih (k + 1) (by omega) _ σ1 L ⟨hL.1, hL.2.1, hL.2.2.1, ?_⟩ hO
        rw [List.range_succ, List.filter_append, List.filter_cons_of_neg (by simp [h20]), List.filter_nil, List.append_nil]
        exact hL.2.2.2
      · rw [h10', aI_m1, Decidable.not_not] at h20
        have hAk := h20
        have hkn : k < n := hAn k hAk
        have place : ∀ (a : Nat) (σ1 : xSg), a ≤ L.length → σ1 3 9 = nI L.length → RO σ σ1 → (∀ i, i < a → σ1 20 i = nI (L.getD i 0)) → (∀ i, a < i → i ≤ L.length → σ1 20 i = nI (L.getD (i - 1) 0)) → (∀ i, a ≤ i → i < L.length → ahd bg A k (L.getD i 0)) → (∀ i, i < a → ahd bg A (L.getD i 0) k) → xJ pp l ee { frames := 2, cells := 0, slots := 0, locals := 40 * 2 } ss mm aa bb me cde 0 0 (MQ bb (va_Qv (fun u => (∃ L, RW u A bg 8 L) ∧ RO σ u) (fun u t => va_P D vCl (wC ad cI cZ cJ u) t.heap ∧ va_D AA (wC ad cI cZ cJ u)) AA) aa ss 0 0 AA) D vCl AA 3 (va_S AA ss.heap) (wC ad cI cZ cJ σ1) [.ref (ad 3), .int (nI k), .int (nI a)] 68 [] := by
          intro a σ1 ha h9 hO i1 i2 i3 i4
          refine x_aload_n G 0 dT_sortRows_68 rfl rfl ?_
          refine x_get G 3 rfl rfl 8 (by decide) rfl (fun w h => .tail _ (iT_ok w h)) (.tail _ wd_150) rfl dT_sortRows_69 ?_
          refine x_iload_n G 2 dT_sortRows_72 rfl rfl ?_
          refine x_iload_n G 1 dT_sortRows_73 rfl rfl ?_
          refine x_iastN G 20 0 rfl rfl warr_20 (by omega) (by decide) dT_sortRows_74 ?_
          refine x_aload_n G 0 dT_sortRows_75 rfl rfl ?_
          refine x_dup G dT_sortRows_76 rfl ?_
          refine x_get G 3 rfl rfl 9 (by decide) rfl (fun w h => .tail _ (iT_ok w h)) (.tail _ wd_151) rfl dT_sortRows_77 ?_
          refine x_top (z := nI L.length) h9 ?_
          refine x_iconst G (1) dT_sortRows_80 (by decide) ?_
          refine x_iadd G dT_sortRows_81 ?_
          refine x_top (nI_1 L.length) ?_
          refine x_put G 3 rfl rfl 9 (by decide) (Nat.le_of_ble_eq_true rfl) wput_3_9 (fun w h => .tail _ (iT_ok w h)) tT_ok nT_ok (.tail _ wd_151) rfl rfl (tT_ok 9 (by decide)) rfl rfl dT_sortRows_82 ?_
          refine x_iinc G (nI (k + 1)) dT_sortRows_85 rfl (nI_1 k) (by decide) ?_
          refine x_goto G 7 dT_sortRows_88 (by decide) ?_
          refine ih (k + 1) (by omega) _ _ (L.take a ++ k :: L.drop a) ⟨?_, fun i hi => ?_, ins_ok hL.2.2.1 (fun x hx => ?_) (fun x hx => ?_), ?_⟩ (hO.tr ⟨by rw [sst_i (by omega), sst_q (by omega)], by rw [sst_i (by omega), sst_q (by omega)], fun q q3 q20 => by rw [sst_ne q3, sst_ne q20]⟩)
          · rw [sst_same]; congr 1; rw [List.length_append, List.length_cons, List.length_take, List.length_drop]; omega
          · have hi : i < L.length + 1 := by rw [List.length_append, List.length_cons, List.length_take, List.length_drop] at hi; omega
            rw [sst_q (by omega), sst_up, ins_getD ha]
            by_cases e1 : i < a
            · rw [if_pos e1]; simp only [upd]; rw [if_neg (by omega)]; exact i1 i e1
            · rw [if_neg e1]
              by_cases e2 : i = a
              · rw [if_pos e2]; simp [upd, e2]
              · rw [if_neg e2]; simp only [upd]; rw [if_neg e2]; exact i2 i (by omega) (by omega)
          · obtain ⟨i, q1, q2, q3⟩ := drop_getD hx; rw [← q3]; exact i3 i q1 q2
          · obtain ⟨i, q1, q2, q3⟩ := take_getD hx; rw [← q3]; exact i4 i q1
          · have e : (List.range (k + 1)).filter (fun b => decide (A b < 4)) = (List.range k).filter (fun b => decide (A b < 4)) ++ [k] := by rw [List.range_succ, List.filter_append, List.filter_cons_of_pos (by simp [hAk])]; rfl
            rw [e]
            refine List.Perm.trans ?_ (List.perm_append_comm (l₁ := [k]))
            refine List.perm_middle.trans ?_
            rw [List.take_append_drop]
            exact (hL.2.2.2.cons k)
        have inner : ∀ (a : Nat) (σ1 : xSg), a ≤ L.length → σ1 3 9 = nI L.length → RO σ σ1 → (∀ i, i < a → σ1 20 i = nI (L.getD i 0)) → (∀ i, a < i → i ≤ L.length → σ1 20 i = nI (L.getD (i - 1) 0)) → (∀ i, a ≤ i → i < L.length → ahd bg A k (L.getD i 0)) → xJ pp l ee { frames := 2, cells := 0, slots := 0, locals := 40 * 2 } ss mm aa bb me cde 0 0 (MQ bb (va_Qv (fun u => (∃ L, RW u A bg 8 L) ∧ RO σ u) (fun u t => va_P D vCl (wC ad cI cZ cJ u) t.heap ∧ va_D AA (wC ad cI cZ cJ u)) AA) aa ss 0 0 AA) D vCl AA 3 (va_S AA ss.heap) (wC ad cI cZ cJ σ1) [.ref (ad 3), .int (nI k), .int (nI a)] 28 [] := by
          intro a
          induction a with
          | zero =>
            intro σ1 ha h9 hO i1 i2 i3
            refine x_iload_n G 2 dT_sortRows_28 rfl rfl ?_
            refine x_if_le G 68 dT_sortRows_29 (by decide) (fun h29 => ?_) (fun h29 => (by exact absurd (by decide) h29))
            exact place 0 σ1 ha h9 hO i1 i2 i3 (fun i hi => by omega)
          | succ a iha =>
            intro σ1 ha h9 hO i1 i2 i3
            have hm := getD_mem (L := L) (i := a) (by omega)
            obtain ⟨hx1, hx2⟩ := hL.mem hm
            have hxn := hAn _ hx2
            obtain ⟨q1, q1'⟩ := hbe k (by omega) hAk
            obtain ⟨q2, q2'⟩ := hbe (L.getD a 0) (by omega) hx2
            have e11 : σ1 11 = σ 11 := hO.2.2 11 (by omega) (by omega)
            have e10 : σ1 10 = σ 10 := hO.2.2 10 (by omega) (by omega)
            have e12 : σ1 1 = σ 1 := hO.2.2 1 (by omega) (by omega)
            refine x_iload_n G 2 dT_sortRows_28 rfl rfl ?_
            refine x_if_le G 68 dT_sortRows_29 (by decide) (fun h29 => (by exact absurd h29 (nI_nle (by omega) (by omega)))) (fun h29 => ?_)
            refine x_aload_n G 0 dT_sortRows_32 rfl rfl ?_
            refine x_iload_n G 1 dT_sortRows_33 rfl rfl ?_
            refine x_aload_n G 0 dT_sortRows_34 rfl rfl ?_
            refine x_get G 3 rfl rfl 8 (by decide) rfl (fun w h => .tail _ (iT_ok w h)) (.tail _ wd_150) rfl dT_sortRows_35 ?_
            refine x_iload_n G 2 dT_sortRows_38 rfl rfl ?_
            refine x_iconst G (1) dT_sortRows_39 (by decide) ?_
            refine x_isub G dT_sortRows_40 ?_
            refine x_top (nI_pred a) ?_
            refine x_ialdN G 20 0 rfl rfl (by omega) (by decide) dT_sortRows_41 ?_
            refine x_top (i1 a (by omega)) ?_
            refine x_call0V2i G (cT_beginsAhead (n := n) (by rw [e12]; exact hnt) hn8 hkn hxn (by rw [e11]; exact q1) (by rw [e11]; exact q2) (by rw [e10, hTS.1 k (by omega), aI_t hAk]) (by rw [e10, hTS.1 _ (by omega), aI_t hx2]) q1' q2' hAk hx2) 3 rfl rfl (cV G.2.2.2.2.1 wd_330 wd_332 wd_18 wd_53 wd_333 (by decide +kernel) ⟨(Nat.le_of_ble_eq_true rfl), (Nat.le_of_ble_eq_true rfl)⟩) dT_sortRows_42 (Nat.le_of_ble_eq_true rfl) ⟨Nat.zero_le _, Nat.zero_le _⟩ (fun r42 e42 => ?_)
            subst e42
            refine x_if_eq G 68 dT_sortRows_45 (by decide) (fun h45 => ?_) (fun h45 => ?_)
            · have h45 := bI_eq0.mp h45
              have h45 : ¬ ahd bg A k (L.getD a 0) := h45
              refine place (a + 1) σ1 ha h9 hO i1 i2 i3 (fun i hi => ?_)
              have hne : L.getD a 0 ≠ k := by omega
              have hd : ahd bg A (L.getD a 0) k := (hdist _ _ (by omega) (by omega) hx2 hAk hne).resolve_right h45
              rcases (show i < a ∨ i = a by omega) with z | z
              · refine ahd_tr ?_ hd
                have hp := List.pairwise_iff_getElem.mp hL.2.2.1 i a (by omega) (by omega) z
                rw [List.getD_eq_getElem?_getD, List.getD_eq_getElem?_getD, List.getElem?_eq_getElem (show i < L.length by omega), List.getElem?_eq_getElem (show a < L.length by omega)]
                exact hp
              · rw [z]; exact hd
            · have h45 := bI_ne0.mp h45
              have h45 : ahd bg A k (L.getD a 0) := h45
              refine x_aload_n G 0 dT_sortRows_48 rfl rfl ?_
              refine x_get G 3 rfl rfl 8 (by decide) rfl (fun w h => .tail _ (iT_ok w h)) (.tail _ wd_150) rfl dT_sortRows_49 ?_
              refine x_iload_n G 2 dT_sortRows_52 rfl rfl ?_
              refine x_aload_n G 0 dT_sortRows_53 rfl rfl ?_
              refine x_get G 3 rfl rfl 8 (by decide) rfl (fun w h => .tail _ (iT_ok w h)) (.tail _ wd_150) rfl dT_sortRows_54 ?_
              refine x_iload_n G 2 dT_sortRows_57 rfl rfl ?_
              refine x_iconst G (1) dT_sortRows_58 (by decide) ?_
              refine x_isub G dT_sortRows_59 ?_
              refine x_top (nI_pred a) ?_
              refine x_ialdN G 20 0 rfl rfl (by omega) (by decide) dT_sortRows_60 ?_
              refine x_top (i1 a (by omega)) ?_
              refine x_iastN G 20 0 rfl rfl warr_20 (by omega) (by decide) dT_sortRows_61 ?_
              refine x_iinc G (nI a) dT_sortRows_62 rfl (pk_m1 a) (by decide) ?_
              refine x_goto G 28 dT_sortRows_65 (by decide) ?_
              refine iha _ (by omega) (by rw [sst_q (by omega)]; exact h9) (hO.tr ⟨sst_q (by omega), sst_q (by omega), fun q q3 q20 => sst_ne q20⟩) (fun i hi => ?_) (fun i hi1 hi2 => ?_) (fun i hi1 hi2 => ?_)
              · rw [sst_i (by omega)]; exact i1 i (by omega)
              · by_cases e : i = a + 1
                · rw [e, sst_same]; rfl
                · rw [sst_i e]; exact i2 i (by omega) hi2
              · by_cases e : i = a
                · rw [e]; exact h45
                · exact i3 i (by omega) hi2
        refine x_aload_n G 0 dT_sortRows_23 rfl rfl ?_
        refine x_get G 3 rfl rfl 9 (by decide) rfl (fun w h => .tail _ (iT_ok w h)) (.tail _ wd_151) rfl dT_sortRows_24 ?_
        refine x_top hL.1 ?_
        refine x_istore_n G 2 dT_sortRows_27 rfl (by decide) ?_
        exact inner L.length σ1 (Nat.le_refl _) hL.1 hO (fun i hi => hL.2.1 i hi) (fun i h1 h2 => by omega) (fun i h1 h2 => by omega)
  refine x_aload_n G 0 dT_sortRows_0 rfl rfl ?_
  refine x_iconst G (0) dT_sortRows_1 (by decide) ?_
  refine x_put G 3 rfl rfl 9 (by decide) (Nat.le_of_ble_eq_true rfl) wput_3_9 (fun w h => .tail _ (iT_ok w h)) tT_ok nT_ok (.tail _ wd_151) rfl rfl (tT_ok 9 (by decide)) rfl rfl dT_sortRows_2 ?_
  refine x_iconst G (0) dT_sortRows_5 (by decide) ?_
  refine x_istore_n G 1 dT_sortRows_6 rfl (by decide) ?_
  exact loop 8 0 (by omega) .null _ [] ⟨sst_same, fun i hi => by simp at hi, List.Pairwise.nil, List.Perm.refl _⟩ ⟨sst_i (by omega), sst_i (by omega), fun q q3 q20 => sst_ne q3⟩
def bzF (hh ww : Nat → Nat) (b : Nat) : Bool := decide (0 < mvF hh ww b)
def abF (C : Nat) (ou : Nat → Bool) (c : Nat) : Bool := decide (c < C) && !ou c
/-- the search knows: bays with work, cranes that may work -/
def GA (σ : xSg) (bz ab : Nat → Bool) : Prop := σ 4 7 = nI (cntB bz 8) ∧ (∀ b, b < 8 → bz b = true → σ 21 (cntB bz b) = nI b) ∧ σ 4 8 = nI (cntB ab 4) ∧ ∀ c, c < 4 → ab c = true → σ 22 (cntB ab c) = nI c
def GO (σ u : xSg) : Prop := ∀ q, q ≠ 4 → q ≠ 21 → q ≠ 22 → q ≠ 23 → u q = σ q
theorem cntB_s {bz : Nat → Bool} {k : Nat} (h : bz k = true) : cntB bz (k + 1) = cntB bz k + 1 := by simp [cntB, h]
theorem cntB_z {bz : Nat → Bool} {k : Nat} (h : ¬ bz k = true) : cntB bz (k + 1) = cntB bz k := by simp [cntB, h]
set_option maxHeartbeats 4000000 in
set_option maxRecDepth 100000 in
theorem cS_gather {l : Launch} {D : va_G} {cI cZ cJ : ClassId} {ad : Nat → Nat} {σ : xSg} {n C : Nat} {hh ww mo mi : Nat → Nat} {ou : Nat → Bool} (hB : PB σ n hh ww) (hK : PK σ C mo mi ou) : xCv l D vCl (tyC cI cZ cJ) nwW (wC ad cI cZ cJ) yS_gather (.code yS_gather bS_gather 2 none :: bigW) 2 [.ref (ad 4)] σ (fun u => GA u (bzF hh ww) (abF C ou) ∧ (∀ j, j < 8 → u 23 j = 0) ∧ GO σ u) := by
  refine xCv.of (cc := bS_gather) (nL := 2) (ret := none) rfl (by decide) [.ref (ad 4), .null] rfl (Nat.le_of_ble_eq_true rfl) ?_
  intro pp ee ss mm aa bb me cde AA G hr hlk
  obtain ⟨hn8, hnt, hbw, hbb, hb0⟩ := id hB
  obtain ⟨hC1, hC4, hC, hrt, hbd⟩ := id hK
  have loop2 : ∀ (j k : Nat), k + j = 4 → ∀ (σ1 : xSg), σ1 4 7 = nI (cntB (bzF hh ww) 8) → (∀ b, b < 8 → bzF hh ww b = true → σ1 21 (cntB (bzF hh ww) b) = nI b) → σ1 4 8 = nI (cntB (abF C ou) k) → (∀ c, c < k → abF C ou c = true → σ1 22 (cntB (abF C ou) c) = nI c) → (∀ j, j < 8 → σ1 23 j = 0) → GO σ σ1 → xJ pp l ee { frames := 2, cells := 0, slots := 0, locals := 40 * 2 } ss mm aa bb me cde 0 0 (MQ bb (va_Qv (fun u => GA u (bzF hh ww) (abF C ou) ∧ (∀ j, j < 8 → u 23 j = 0) ∧ GO σ u) (fun u t => va_P D vCl (wC ad cI cZ cJ u) t.heap ∧ va_D AA (wC ad cI cZ cJ u)) AA) aa ss 0 0 AA) D vCl AA 2 (va_S AA ss.heap) (wC ad cI cZ cJ σ1) [.ref (ad 4), .int (nI k)] 65 [] := by
    intro j
    induction j with
    | zero =>
      intro k hk σ1 g1 g2 g3 g4 g5 g6
      have hk : k = 4 := by omega
      subst hk
      refine x_iload_n G 1 dS_gather_65 rfl rfl ?_
      refine x_iconst G (4) dS_gather_66 (by decide) ?_
      refine x_icmp_ge G 107 dS_gather_67 (by decide) (fun h67 => ?_) (fun h67 => (by exact absurd (nI_le (show 4 ≤ 4 by omega) (by decide)) h67))
      exact x_retv G hr hlk dS_gather_107 ⟨⟨g1, g2, g3, g4⟩, g5, g6⟩
    | succ j ih =>
      intro k hk σ1 g1 g2 g3 g4 g5 g6
      have hcl := cntB_le (bz := abF C ou) k
      have e2 : σ1 2 = σ 2 := g6 2 (by omega) (by omega) (by omega) (by omega)
      have e9 : σ1 9 = σ 9 := g6 9 (by omega) (by omega) (by omega) (by omega)
      have hab : (¬ (k < C ∧ σ1 9 k = 0)) ↔ ¬ abF C ou k = true := by
        rw [e9, (hrt k (by omega)).2.2, bI_eq0]; simp [abF]
      refine x_iload_n G 1 dS_gather_65 rfl rfl ?_
      refine x_iconst G (4) dS_gather_66 (by decide) ?_
      refine x_icmp_ge G 107 dS_gather_67 (by decide) (fun h67 => (by exact absurd h67 (nI_ge (show k < 4 by omega) (by decide)))) (fun h67 => ?_)
      refine x_aload_n G 0 dS_gather_70 rfl rfl ?_
      refine x_get G 4 rfl rfl 1 (by decide) rfl (fun w h => .tail _ (iS_ok w h)) (.tail _ wd_191) rfl dS_gather_71 ?_
      refine x_iload_n G 1 dS_gather_74 rfl rfl ?_
      refine x_call0VN1i G (cK_isOut (by rw [e2]; exact hC) hC4 (by omega)) 2 rfl rfl (cVN G.2.2.2.2.1 G.2.2.2.2.2.2.1 nd_262 wd_264 wd_4 wd_50 wd_265 (by decide +kernel) ⟨(Nat.le_of_ble_eq_true rfl), (Nat.le_of_ble_eq_true rfl)⟩) dS_gather_75 (Nat.le_of_ble_eq_true rfl) ⟨Nat.zero_le _, Nat.zero_le _⟩ (fun r75 e75 => ?_)
      subst e75
      refine x_if_ne G 101 dS_gather_78 (by decide) (fun h78 => ?_) (fun h78 => ?_)
      · have h78 := bI_ne0.mp h78
        have h78 := hab.mp h78
        have ec := cntB_z h78
        refine x_iinc G (nI (k + 1)) dS_gather_101 rfl (nI_1 k) (by decide) ?_
        refine x_goto G 65 dS_gather_104 (by decide) ?_
        first
        | exact ih (k + 1) (by omega) _ g1 g2 (by rw [ec]; exact g3) (fun c q1 q2 => by rcases (show c < k ∨ c = k by omega) with z | z; (· exact g4 c z q2); (· rw [z] at q2; exact absurd q2 h78)) g5 g6
        | exact ih (k + 1) (by omega) _ (by rw [sst_i (by omega), sst_q (by omega)]; exact g1) (fun b q1 q2 => by rw [sst_q (by omega), sst_q (by omega)]; exact g2 b q1 q2) (by rw [sst_same, ec]) (fun c q1 q2 => by rw [sst_q (by omega)]; rcases (show c < k ∨ c = k by omega) with z | z; (· rw [sst_i (by have := (cntB_lt (b := k) q2).mpr z; omega)]; exact g4 c z q2); (· rw [z, sst_same])) (fun j q => by rw [sst_q (by omega), sst_q (by omega)]; exact g5 j q) (fun q q1 q2 q3 q4 => by rw [sst_ne q1, sst_ne q3]; exact g6 q q1 q2 q3 q4)
      · have h78 := bI_eq0.mp h78
        have h78 : abF C ou k = true := Decidable.not_not.mp (fun q => h78 (hab.mpr q))
        have ec := cntB_s h78
        refine x_aload_n G 0 dS_gather_81 rfl rfl ?_
        refine x_get G 4 rfl rfl 4 (by decide) rfl (fun w h => .tail _ (iS_ok w h)) (.tail _ wd_194) rfl dS_gather_82 ?_
        refine x_aload_n G 0 dS_gather_85 rfl rfl ?_
        refine x_get G 4 rfl rfl 8 (by decide) rfl (fun w h => .tail _ (iS_ok w h)) (.tail _ wd_198) rfl dS_gather_86 ?_
        refine x_top g3 ?_
        refine x_iload_n G 1 dS_gather_89 rfl rfl ?_
        refine x_iastN G 22 0 rfl rfl warr_22 (by omega) (by decide) dS_gather_90 ?_
        refine x_aload_n G 0 dS_gather_91 rfl rfl ?_
        refine x_dup G dS_gather_92 rfl ?_
        refine x_get G 4 rfl rfl 8 (by decide) rfl (fun w h => .tail _ (iS_ok w h)) (.tail _ wd_198) rfl dS_gather_93 ?_
        refine x_top (z := nI (cntB (abF C ou) k)) g3 ?_
        refine x_iconst G (1) dS_gather_96 (by decide) ?_
        refine x_iadd G dS_gather_97 ?_
        refine x_top (nI_1 _) ?_
        refine x_put G 4 rfl rfl 8 (by decide) (Nat.le_of_ble_eq_true rfl) wput_4_8 (fun w h => .tail _ (iS_ok w h)) tS_ok nS_ok (.tail _ wd_198) rfl rfl (tS_ok 8 (by decide)) rfl rfl dS_gather_98 ?_
        refine x_iinc G (nI (k + 1)) dS_gather_101 rfl (nI_1 k) (by decide) ?_
        refine x_goto G 65 dS_gather_104 (by decide) ?_
        first
        | exact ih (k + 1) (by omega) _ g1 g2 (by rw [ec]; exact g3) (fun c q1 q2 => by rcases (show c < k ∨ c = k by omega) with z | z; (· exact g4 c z q2); (· rw [z] at q2; exact absurd q2 h78)) g5 g6
        | exact ih (k + 1) (by omega) _ (by rw [sst_i (by omega), sst_q (by omega)]; exact g1) (fun b q1 q2 => by rw [sst_q (by omega), sst_q (by omega)]; exact g2 b q1 q2) (by rw [sst_same, ec]) (fun c q1 q2 => by rw [sst_q (by omega)]; rcases (show c < k ∨ c = k by omega) with z | z; (· rw [sst_i (by have := (cntB_lt (b := k) q2).mpr z; omega)]; exact g4 c z q2); (· rw [z, sst_same])) (fun j q => by rw [sst_q (by omega), sst_q (by omega)]; exact g5 j q) (fun q q1 q2 q3 q4 => by rw [sst_ne q1, sst_ne q3]; exact g6 q q1 q2 q3 q4)
  have loop1 : ∀ (j k : Nat), k + j = 8 → ∀ (σ1 : xSg), σ1 4 7 = nI (cntB (bzF hh ww) k) → (∀ b, b < k → bzF hh ww b = true → σ1 21 (cntB (bzF hh ww) b) = nI b) → (∀ j, j < 8 → σ1 23 j = 0) → GO σ σ1 → xJ pp l ee { frames := 2, cells := 0, slots := 0, locals := 40 * 2 } ss mm aa bb me cde 0 0 (MQ bb (va_Qv (fun u => GA u (bzF hh ww) (abF C ou) ∧ (∀ j, j < 8 → u 23 j = 0) ∧ GO σ u) (fun u t => va_P D vCl (wC ad cI cZ cJ u) t.heap ∧ va_D AA (wC ad cI cZ cJ u)) AA) aa ss 0 0 AA) D vCl AA 2 (va_S AA ss.heap) (wC ad cI cZ cJ σ1) [.ref (ad 4), .int (nI k)] 15 [] := by
    intro j
    induction j with
    | zero =>
      intro k hk σ1 g1 g2 g5 g6
      have hk : k = 8 := by omega
      subst hk
      refine x_iload_n G 1 dS_gather_15 rfl rfl ?_
      refine x_bipush G (8) dS_gather_16 (by decide) ?_
      refine x_icmp_ge G 58 dS_gather_18 (by decide) (fun h18 => ?_) (fun h18 => (by exact absurd (nI_le (show 8 ≤ 8 by omega) (by decide)) h18))
      refine x_aload_n G 0 dS_gather_58 rfl rfl ?_
      refine x_iconst G (0) dS_gather_59 (by decide) ?_
      refine x_put G 4 rfl rfl 8 (by decide) (Nat.le_of_ble_eq_true rfl) wput_4_8 (fun w h => .tail _ (iS_ok w h)) tS_ok nS_ok (.tail _ wd_198) rfl rfl (tS_ok 8 (by decide)) rfl rfl dS_gather_60 ?_
      refine x_iconst G (0) dS_gather_63 (by decide) ?_
      refine x_istore_n G 1 dS_gather_64 rfl (by decide) ?_
      exact loop2 4 0 (by omega) _ (by rw [sst_i (by omega)]; exact g1) (fun b q1 q2 => by rw [sst_q (by omega)]; exact g2 b q1 q2) sst_same (fun c q => by omega) (fun j q => by rw [sst_q (by omega)]; exact g5 j q) (fun q q1 q2 q3 q4 => by rw [sst_ne q1]; exact g6 q q1 q2 q3 q4)
    | succ j ih =>
      intro k hk σ1 g1 g2 g5 g6
      have hcl := cntB_le (bz := bzF hh ww) k
      have e1 : σ1 1 = σ 1 := g6 1 (by omega) (by omega) (by omega) (by omega)
      have hB1 := hB.of e1 (g6 5 (by omega) (by omega) (by omega) (by omega)) (g6 6 (by omega) (by omega) (by omega) (by omega))
      have hmv := hB.mv k
      refine x_iload_n G 1 dS_gather_15 rfl rfl ?_
      refine x_bipush G (8) dS_gather_16 (by decide) ?_
      refine x_icmp_ge G 58 dS_gather_18 (by decide) (fun h18 => (by exact absurd h18 (nI_ge (show k < 8 by omega) (by decide)))) (fun h18 => ?_)
      refine x_aload_n G 0 dS_gather_21 rfl rfl ?_
      refine x_get G 4 rfl rfl 0 (by decide) rfl (fun w h => .tail _ (iS_ok w h)) (.tail _ wd_190) rfl dS_gather_22 ?_
      refine x_iload_n G 1 dS_gather_25 rfl rfl ?_
      refine x_call0VN1i G (cB_movesOf (n := n) (by rw [e1]; exact hnt) hn8 (by omega)) 1 rfl rfl (cVN G.2.2.2.2.1 G.2.2.2.2.2.2.1 nd_254 wd_256 wd_2 wd_49 wd_257 (by decide +kernel) ⟨(Nat.le_of_ble_eq_true rfl), (Nat.le_of_ble_eq_true rfl)⟩) dS_gather_26 (Nat.le_of_ble_eq_true rfl) ⟨Nat.zero_le _, Nat.zero_le _⟩ (fun r26 e26 => ?_)
      refine x_top (z := nI (mvF hh ww k)) (by rw [e26]; exact hB1.moves k) ?_
      refine x_if_le G 52 dS_gather_29 (by decide) (fun h29 => ?_) (fun h29 => ?_)
      · have h29 : ¬ bzF hh ww k = true := by rw [show (0 : Int32) = nI 0 from rfl, nI_leI (by omega) (by omega)] at h29; simp [bzF]; omega
        have ec := cntB_z h29
        refine x_iinc G (nI (k + 1)) dS_gather_52 rfl (nI_1 k) (by decide) ?_
        refine x_goto G 15 dS_gather_55 (by decide) ?_
        first
        | exact ih (k + 1) (by omega) _ (by rw [ec]; exact g1) (fun c q1 q2 => by rcases (show c < k ∨ c = k by omega) with z | z; (· exact g2 c z q2); (· rw [z] at q2; exact absurd q2 h29)) g5 g6
        | exact ih (k + 1) (by omega) _ (by rw [sst_same, ec]) (fun c q1 q2 => by rw [sst_q (by omega)]; rcases (show c < k ∨ c = k by omega) with z | z; (· rw [sst_i (by have := (cntB_lt (b := k) q2).mpr z; omega)]; exact g2 c z q2); (· rw [z, sst_same])) (fun j q => by rw [sst_q (by omega), sst_q (by omega)]; exact g5 j q) (fun q q1 q2 q3 q4 => by rw [sst_ne q1, sst_ne q2]; exact g6 q q1 q2 q3 q4)
      · have h29 : bzF hh ww k = true := by rw [show (0 : Int32) = nI 0 from rfl, nI_leI (by omega) (by omega)] at h29; simp [bzF]; omega
        have ec := cntB_s h29
        refine x_aload_n G 0 dS_gather_32 rfl rfl ?_
        refine x_get G 4 rfl rfl 3 (by decide) rfl (fun w h => .tail _ (iS_ok w h)) (.tail _ wd_193) rfl dS_gather_33 ?_
        refine x_aload_n G 0 dS_gather_36 rfl rfl ?_
        refine x_get G 4 rfl rfl 7 (by decide) rfl (fun w h => .tail _ (iS_ok w h)) (.tail _ wd_197) rfl dS_gather_37 ?_
        refine x_top g1 ?_
        refine x_iload_n G 1 dS_gather_40 rfl rfl ?_
        refine x_iastN G 21 0 rfl rfl warr_21 (by omega) (by decide) dS_gather_41 ?_
        refine x_aload_n G 0 dS_gather_42 rfl rfl ?_
        refine x_dup G dS_gather_43 rfl ?_
        refine x_get G 4 rfl rfl 7 (by decide) rfl (fun w h => .tail _ (iS_ok w h)) (.tail _ wd_197) rfl dS_gather_44 ?_
        refine x_top (z := nI (cntB (bzF hh ww) k)) g1 ?_
        refine x_iconst G (1) dS_gather_47 (by decide) ?_
        refine x_iadd G dS_gather_48 ?_
        refine x_top (nI_1 _) ?_
        refine x_put G 4 rfl rfl 7 (by decide) (Nat.le_of_ble_eq_true rfl) wput_4_7 (fun w h => .tail _ (iS_ok w h)) tS_ok nS_ok (.tail _ wd_197) rfl rfl (tS_ok 7 (by decide)) rfl rfl dS_gather_49 ?_
        refine x_iinc G (nI (k + 1)) dS_gather_52 rfl (nI_1 k) (by decide) ?_
        refine x_goto G 15 dS_gather_55 (by decide) ?_
        first
        | exact ih (k + 1) (by omega) _ (by rw [ec]; exact g1) (fun c q1 q2 => by rcases (show c < k ∨ c = k by omega) with z | z; (· exact g2 c z q2); (· rw [z] at q2; exact absurd q2 h29)) g5 g6
        | exact ih (k + 1) (by omega) _ (by rw [sst_same, ec]) (fun c q1 q2 => by rw [sst_q (by omega)]; rcases (show c < k ∨ c = k by omega) with z | z; (· rw [sst_i (by have := (cntB_lt (b := k) q2).mpr z; omega)]; exact g2 c z q2); (· rw [z, sst_same])) (fun j q => by rw [sst_q (by omega), sst_q (by omega)]; exact g5 j q) (fun q q1 q2 q3 q4 => by rw [sst_ne q1, sst_ne q2]; exact g6 q q1 q2 q3 q4)
  refine x_aload_n G 0 dS_gather_0 rfl rfl ?_
  refine x_get G 4 rfl rfl 5 (by decide) rfl (fun w h => .tail _ (iS_ok w h)) (.tail _ wd_195) rfl dS_gather_1 ?_
  refine x_iconst G (0) dS_gather_4 (by decide) ?_
  refine x_fill G 23 0 rfl rfl (by decide) wd_253 ⟨(Nat.le_of_ble_eq_true rfl), (Nat.le_of_ble_eq_true rfl)⟩ dS_gather_5 (Nat.le_of_ble_eq_true rfl) ⟨Nat.zero_le _, Nat.zero_le _⟩ ?_
  refine x_eq wrow_23 rfl rfl rfl ?_
  refine x_aload_n G 0 dS_gather_8 rfl rfl ?_
  refine x_iconst G (0) dS_gather_9 (by decide) ?_
  refine x_put G 4 rfl rfl 7 (by decide) (Nat.le_of_ble_eq_true rfl) wput_4_7 (fun w h => .tail _ (iS_ok w h)) tS_ok nS_ok (.tail _ wd_197) rfl rfl (tS_ok 7 (by decide)) rfl rfl dS_gather_10 ?_
  refine x_iconst G (0) dS_gather_13 (by decide) ?_
  refine x_istore_n G 1 dS_gather_14 rfl (by decide) ?_
  exact loop1 8 0 (by omega) _ sst_same (fun b q => by omega) (fun j q => by rw [sst_q (by omega), rst_same]; simp [q]) (fun q q1 q2 q3 q4 => by rw [sst_ne q1, rst_ne q4])
end
section
/-! Search: share, nextChoice -/
/-- the able crane of a number -/
def HO (σ u : xSg) : Prop := ∀ q, q ≠ 3 → q ≠ 10 → q ≠ 13 → q ≠ 14 → u q = σ q
theorem HO.rf {σ : xSg} : HO σ σ := fun _ _ _ _ _ => rfl
theorem HO.tr {σ u v : xSg} (h1 : HO σ u) (h2 : HO u v) : HO σ v := fun q a b c d => (h2 q a b c d).trans (h1 q a b c d)
theorem gDn_mapL {xs : List Nat} {f : Nat → Nat} {i : Nat} (h : i < xs.length) : gDn (xs.map f) i = f (gDn xs i) := by
  unfold gDn; simp [List.getD_eq_getElem?_getD, h]
theorem spA_9 : ∀ {k : Nat}, k ≤ 4 → spA (fun _ => 9) 8 k = 0
  | 0, _ => rfl
  | k + 1, hk => by
    have := spA_9 (k := k) (by omega)
    unfold spA
    rw [this, fstA_none.mpr (fun b _ => by show (9 : Nat) ≠ k; omega), lstA_none.mpr (fun b _ => by show (9 : Nat) ≠ k; omega)]
    rfl
set_option maxHeartbeats 4000000 in
set_option maxRecDepth 100000 in
theorem cS_share23 {l : Launch} {D : va_G} {cI cZ cJ : ClassId} {ad : Nat → Nat} {σ : xSg} {n C na : Nat} {hh ww ab : Nat → Nat} {xs : List Nat} (hB : PB σ n hh ww) (hC : σ 2 0 = nI C) (hC4 : C ≤ 4) (h47 : σ 4 7 = nI (cntB (bzF hh ww) 8)) (hbu : ∀ b, b < 8 → bzF hh ww b = true → σ 21 (cntB (bzF hh ww) b) = nI b) (h48 : σ 4 8 = nI na) (hna : na ≤ 4) (hab : ∀ i, i < na → σ 22 i = nI (ab i) ∧ ab i < C) (hlx : xs.length = cntB (bzF hh ww) 8) (hxs : ∀ i, i < xs.length → σ 23 i = nI (gDn xs i) ∧ gDn xs i < na) : xCv l D vCl (tyC cI cZ cJ) nwW (wC ad cI cZ cJ) yS_share (.code yS_share bS_share 3 none :: bigW) 2 [.ref (ad 4), .ref (ad 23)] σ (fun u => TS u (prA (bzF hh ww) (xs.map ab) (cntB (bzF hh ww) 8)) ∧ u 3 11 = nI (spA (prA (bzF hh ww) (xs.map ab) (cntB (bzF hh ww) 8)) 8 4) ∧ u 3 9 = 0 ∧ u 3 10 = 0 ∧ HO σ u) := by
  refine xCv.of (cc := bS_share) (nL := 3) (ret := none) rfl (by decide) [.ref (ad 4), .ref (ad 23), .null] rfl (Nat.le_of_ble_eq_true rfl) ?_
  intro pp ee ss mm aa bb me cde AA G hr hlk
  obtain ⟨hn8, hnt, hbw, hbb, hb0⟩ := id hB
  have hcl := cntB_le (bz := bzF hh ww) 8
  have loop : ∀ (j k : Nat), k + j = cntB (bzF hh ww) 8 → ∀ (σ1 : xSg), TS σ1 (prA (bzF hh ww) (xs.map ab) k) → σ1 3 11 = nI (spA (prA (bzF hh ww) (xs.map ab) k) 8 4) → σ1 3 9 = 0 → σ1 3 10 = 0 → HO σ σ1 → xJ pp l ee { frames := 2, cells := 0, slots := 0, locals := 40 * 2 } ss mm aa bb me cde 0 0 (MQ bb (va_Qv (fun u => TS u (prA (bzF hh ww) (xs.map ab) (cntB (bzF hh ww) 8)) ∧ u 3 11 = nI (spA (prA (bzF hh ww) (xs.map ab) (cntB (bzF hh ww) 8)) 8 4) ∧ u 3 9 = 0 ∧ u 3 10 = 0 ∧ HO σ u) (fun u t => va_P D vCl (wC ad cI cZ cJ u) t.heap ∧ va_D AA (wC ad cI cZ cJ u)) AA) aa ss 0 0 AA) D vCl AA 3 (va_S AA ss.heap) (wC ad cI cZ cJ σ1) [.ref (ad 4), .ref (ad 23), .int (nI k)] 9 [] := by
    intro j
    induction j with
    | zero =>
      intro k hk σ1 g1 g2 g3 g4 g5
      have hk : k = cntB (bzF hh ww) 8 := by omega
      subst hk
      have e4 : σ1 4 = σ 4 := g5 4 (by omega) (by omega) (by omega) (by omega)
      refine x_iload_n G 2 dS_share_9 rfl rfl ?_
      refine x_aload_n G 0 dS_share_10 rfl rfl ?_
      refine x_get G 4 rfl rfl 7 (by decide) rfl (fun w h => .tail _ (iS_ok w h)) (.tail _ wd_197) rfl dS_share_11 ?_
      refine x_icmp_ge G 66 dS_share_14 (by decide) (fun h14 => ?_) (fun h14 => (by rw [e4, h47] at h14; exact absurd (nI_le (Nat.le_refl _) (by omega)) h14))
      exact x_retv G hr hlk dS_share_66 ⟨g1, g2, g3, g4, g5⟩
    | succ j ih =>
      intro k hk σ1 g1 g2 g3 g4 g5
      have e4 : σ1 4 = σ 4 := g5 4 (by omega) (by omega) (by omega) (by omega)
      have eq : σ1 23 = σ 23 := g5 23 (by omega) (by omega) (by omega) (by omega)
      obtain ⟨b, hb8, hbz, hbk⟩ := cntB_has (bz := bzF hh ww) (n := 8) (i := k) (by omega)
      obtain ⟨hx1, hx2⟩ := hxs k (by omega)
      obtain ⟨ha1, ha2⟩ := hab _ hx2
      have hbn : b < n := by
        rcases Nat.lt_or_ge b n with z | z
        · exact z
        · have := hb0 b z; have hz : 0 < mvF hh ww b := of_decide_eq_true hbz; unfold mvF at hz; omega
      have hgk : gDn (xs.map ab) k = ab (gDn xs k) := gDn_mapL (by omega)
      refine x_iload_n G 2 dS_share_9 rfl rfl ?_
      refine x_aload_n G 0 dS_share_10 rfl rfl ?_
      refine x_get G 4 rfl rfl 7 (by decide) rfl (fun w h => .tail _ (iS_ok w h)) (.tail _ wd_197) rfl dS_share_11 ?_
      refine x_icmp_ge G 66 dS_share_14 (by decide) (fun h14 => (by rw [e4, h47] at h14; exact absurd h14 (nI_ge (by omega) (by omega)))) (fun h14 => ?_)
      refine x_iload_n G 2 dS_share_17 rfl rfl ?_
      refine x_aload_n G 1 dS_share_18 rfl rfl ?_
      refine x_alen G 23 0 rfl rfl 8 rfl dS_share_19 ?_
      refine x_icmp_ge G 66 dS_share_20 (by decide) (fun h20 => (by exact absurd h20 (nI_ge (show k < 8 by omega) (by decide)))) (fun h20 => ?_)
      refine x_aload_n G 1 dS_share_23 rfl rfl ?_
      refine x_iload_n G 2 dS_share_24 rfl rfl ?_
      refine x_ialdN G 23 0 rfl rfl (by omega) (by decide) dS_share_25 ?_
      refine x_if_lt G 60 dS_share_26 (by decide) (fun h26 => (by rw [eq, hx1] at h26; exact absurd h26 (nI_pos (by omega)))) (fun h26 => ?_)
      refine x_aload_n G 1 dS_share_29 rfl rfl ?_
      refine x_iload_n G 2 dS_share_30 rfl rfl ?_
      refine x_ialdN G 23 0 rfl rfl (by omega) (by decide) dS_share_31 ?_
      refine x_aload_n G 0 dS_share_32 rfl rfl ?_
      refine x_get G 4 rfl rfl 8 (by decide) rfl (fun w h => .tail _ (iS_ok w h)) (.tail _ wd_198) rfl dS_share_33 ?_
      refine x_icmp_ge G 60 dS_share_36 (by decide) (fun h36 => (by rw [eq, hx1, e4, h48] at h36; exact absurd h36 (nI_ge hx2 (by omega)))) (fun h36 => ?_)
      refine x_aload_n G 0 dS_share_39 rfl rfl ?_
      refine x_get G 4 rfl rfl 2 (by decide) rfl (fun w h => .tail _ (iS_ok w h)) (.tail _ wd_192) rfl dS_share_40 ?_
      refine x_aload_n G 0 dS_share_43 rfl rfl ?_
      refine x_get G 4 rfl rfl 3 (by decide) rfl (fun w h => .tail _ (iS_ok w h)) (.tail _ wd_193) rfl dS_share_44 ?_
      refine x_iload_n G 2 dS_share_47 rfl rfl ?_
      refine x_ialdN G 21 0 rfl rfl (by omega) (by decide) dS_share_48 ?_
      refine x_top (z := nI b) (by rw [g5 21 (by omega) (by omega) (by omega) (by omega), ← hbk]; exact hbu b hb8 hbz) ?_
      refine x_aload_n G 0 dS_share_49 rfl rfl ?_
      refine x_get G 4 rfl rfl 4 (by decide) rfl (fun w h => .tail _ (iS_ok w h)) (.tail _ wd_194) rfl dS_share_50 ?_
      refine x_aload_n G 1 dS_share_53 rfl rfl ?_
      refine x_iload_n G 2 dS_share_54 rfl rfl ?_
      refine x_ialdN G 23 0 rfl rfl (by omega) (by decide) dS_share_55 ?_
      refine x_top (z := nI (gDn xs k)) (by rw [eq]; exact hx1) ?_
      refine x_ialdN G 22 0 rfl rfl (by omega) (by decide) dS_share_56 ?_
      refine x_top (z := nI (ab (gDn xs k))) (by rw [g5 22 (by omega) (by omega) (by omega) (by omega)]; exact ha1) ?_
      refine x_callVN2v G (cT_give (n := n) (C := C) (by rw [g5 1 (by omega) (by omega) (by omega) (by omega)]; exact hnt) hn8 (by rw [g5 2 (by omega) (by omega) (by omega) (by omega)]; exact hC) hC4 g1 g2 hbn ha2 (prA_above hbz hbk)) 3 rfl rfl (cVN G.2.2.2.2.1 G.2.2.2.2.2.2.1 nd_280 wd_282 wd_8 wd_53 wd_283 (by decide +kernel) ⟨(Nat.le_of_ble_eq_true rfl), (Nat.le_of_ble_eq_true rfl)⟩) dS_share_57 (Nat.le_of_ble_eq_true rfl) ⟨Nat.zero_le _, Nat.zero_le _⟩ (fun u57 e57 => ?_)
      obtain ⟨q1, q2, q3, q4, q5⟩ := e57
      rw [← hgk, ← prA_succ hbz hbk] at q1
      refine x_iinc G (nI (k + 1)) dS_share_60 rfl (nI_1 k) (by decide) ?_
      refine x_goto G 9 dS_share_63 (by decide) ?_
      exact ih (k + 1) (by omega) _ q1 (by rw [q2, prA_succ hbz hbk, hgk, spA_up (prA_above hbz hbk) (by omega) (by omega) (Nat.le_refl 4), if_pos (by omega)]) (q3.trans g3) (q4.trans g4) (g5.tr q5)
  refine x_aload_n G 0 dS_share_0 rfl rfl ?_
  refine x_get G 4 rfl rfl 2 (by decide) rfl (fun w h => .tail _ (iS_ok w h)) (.tail _ wd_192) rfl dS_share_1 ?_
  refine x_callVN0v G cT_clear 3 rfl rfl (cVN G.2.2.2.2.1 G.2.2.2.2.2.2.1 nd_275 wd_277 wd_7 wd_53 wd_278 (by decide +kernel) ⟨(Nat.le_of_ble_eq_true rfl), (Nat.le_of_ble_eq_true rfl)⟩) dS_share_4 (Nat.le_of_ble_eq_true rfl) ⟨Nat.zero_le _, Nat.zero_le _⟩ (fun u4 e4 => ?_)
  subst e4
  refine x_iconst G (0) dS_share_7 (by decide) ?_
  refine x_istore_n G 2 dS_share_8 rfl (by decide) ?_
  exact loop (cntB (bzF hh ww) 8) 0 (by omega) _ (by rw [prA_0]; exact clr_TS) (by rw [prA_0, spA_9 (Nat.le_refl 4), clr_11]; rfl) clr_9 clr_10 (fun q a b c d => clr_o a b c d)
set_option maxHeartbeats 4000000 in
set_option maxRecDepth 100000 in
theorem cS_share24 {l : Launch} {D : va_G} {cI cZ cJ : ClassId} {ad : Nat → Nat} {σ : xSg} {n C na : Nat} {hh ww ab : Nat → Nat} {xs : List Nat} (hB : PB σ n hh ww) (hC : σ 2 0 = nI C) (hC4 : C ≤ 4) (h47 : σ 4 7 = nI (cntB (bzF hh ww) 8)) (hbu : ∀ b, b < 8 → bzF hh ww b = true → σ 21 (cntB (bzF hh ww) b) = nI b) (h48 : σ 4 8 = nI na) (hna : na ≤ 4) (hab : ∀ i, i < na → σ 22 i = nI (ab i) ∧ ab i < C) (hlx : xs.length = cntB (bzF hh ww) 8) (hxs : ∀ i, i < xs.length → σ 24 i = nI (gDn xs i) ∧ gDn xs i < na) : xCv l D vCl (tyC cI cZ cJ) nwW (wC ad cI cZ cJ) yS_share (.code yS_share bS_share 3 none :: bigW) 2 [.ref (ad 4), .ref (ad 24)] σ (fun u => TS u (prA (bzF hh ww) (xs.map ab) (cntB (bzF hh ww) 8)) ∧ u 3 11 = nI (spA (prA (bzF hh ww) (xs.map ab) (cntB (bzF hh ww) 8)) 8 4) ∧ u 3 9 = 0 ∧ u 3 10 = 0 ∧ HO σ u) := by
  refine xCv.of (cc := bS_share) (nL := 3) (ret := none) rfl (by decide) [.ref (ad 4), .ref (ad 24), .null] rfl (Nat.le_of_ble_eq_true rfl) ?_
  intro pp ee ss mm aa bb me cde AA G hr hlk
  obtain ⟨hn8, hnt, hbw, hbb, hb0⟩ := id hB
  have hcl := cntB_le (bz := bzF hh ww) 8
  have loop : ∀ (j k : Nat), k + j = cntB (bzF hh ww) 8 → ∀ (σ1 : xSg), TS σ1 (prA (bzF hh ww) (xs.map ab) k) → σ1 3 11 = nI (spA (prA (bzF hh ww) (xs.map ab) k) 8 4) → σ1 3 9 = 0 → σ1 3 10 = 0 → HO σ σ1 → xJ pp l ee { frames := 2, cells := 0, slots := 0, locals := 40 * 2 } ss mm aa bb me cde 0 0 (MQ bb (va_Qv (fun u => TS u (prA (bzF hh ww) (xs.map ab) (cntB (bzF hh ww) 8)) ∧ u 3 11 = nI (spA (prA (bzF hh ww) (xs.map ab) (cntB (bzF hh ww) 8)) 8 4) ∧ u 3 9 = 0 ∧ u 3 10 = 0 ∧ HO σ u) (fun u t => va_P D vCl (wC ad cI cZ cJ u) t.heap ∧ va_D AA (wC ad cI cZ cJ u)) AA) aa ss 0 0 AA) D vCl AA 3 (va_S AA ss.heap) (wC ad cI cZ cJ σ1) [.ref (ad 4), .ref (ad 24), .int (nI k)] 9 [] := by
    intro j
    induction j with
    | zero =>
      intro k hk σ1 g1 g2 g3 g4 g5
      have hk : k = cntB (bzF hh ww) 8 := by omega
      subst hk
      have e4 : σ1 4 = σ 4 := g5 4 (by omega) (by omega) (by omega) (by omega)
      refine x_iload_n G 2 dS_share_9 rfl rfl ?_
      refine x_aload_n G 0 dS_share_10 rfl rfl ?_
      refine x_get G 4 rfl rfl 7 (by decide) rfl (fun w h => .tail _ (iS_ok w h)) (.tail _ wd_197) rfl dS_share_11 ?_
      refine x_icmp_ge G 66 dS_share_14 (by decide) (fun h14 => ?_) (fun h14 => (by rw [e4, h47] at h14; exact absurd (nI_le (Nat.le_refl _) (by omega)) h14))
      exact x_retv G hr hlk dS_share_66 ⟨g1, g2, g3, g4, g5⟩
    | succ j ih =>
      intro k hk σ1 g1 g2 g3 g4 g5
      have e4 : σ1 4 = σ 4 := g5 4 (by omega) (by omega) (by omega) (by omega)
      have eq : σ1 24 = σ 24 := g5 24 (by omega) (by omega) (by omega) (by omega)
      obtain ⟨b, hb8, hbz, hbk⟩ := cntB_has (bz := bzF hh ww) (n := 8) (i := k) (by omega)
      obtain ⟨hx1, hx2⟩ := hxs k (by omega)
      obtain ⟨ha1, ha2⟩ := hab _ hx2
      have hbn : b < n := by
        rcases Nat.lt_or_ge b n with z | z
        · exact z
        · have := hb0 b z; have hz : 0 < mvF hh ww b := of_decide_eq_true hbz; unfold mvF at hz; omega
      have hgk : gDn (xs.map ab) k = ab (gDn xs k) := gDn_mapL (by omega)
      refine x_iload_n G 2 dS_share_9 rfl rfl ?_
      refine x_aload_n G 0 dS_share_10 rfl rfl ?_
      refine x_get G 4 rfl rfl 7 (by decide) rfl (fun w h => .tail _ (iS_ok w h)) (.tail _ wd_197) rfl dS_share_11 ?_
      refine x_icmp_ge G 66 dS_share_14 (by decide) (fun h14 => (by rw [e4, h47] at h14; exact absurd h14 (nI_ge (by omega) (by omega)))) (fun h14 => ?_)
      refine x_iload_n G 2 dS_share_17 rfl rfl ?_
      refine x_aload_n G 1 dS_share_18 rfl rfl ?_
      refine x_alen G 24 0 rfl rfl 8 rfl dS_share_19 ?_
      refine x_icmp_ge G 66 dS_share_20 (by decide) (fun h20 => (by exact absurd h20 (nI_ge (show k < 8 by omega) (by decide)))) (fun h20 => ?_)
      refine x_aload_n G 1 dS_share_23 rfl rfl ?_
      refine x_iload_n G 2 dS_share_24 rfl rfl ?_
      refine x_ialdN G 24 0 rfl rfl (by omega) (by decide) dS_share_25 ?_
      refine x_if_lt G 60 dS_share_26 (by decide) (fun h26 => (by rw [eq, hx1] at h26; exact absurd h26 (nI_pos (by omega)))) (fun h26 => ?_)
      refine x_aload_n G 1 dS_share_29 rfl rfl ?_
      refine x_iload_n G 2 dS_share_30 rfl rfl ?_
      refine x_ialdN G 24 0 rfl rfl (by omega) (by decide) dS_share_31 ?_
      refine x_aload_n G 0 dS_share_32 rfl rfl ?_
      refine x_get G 4 rfl rfl 8 (by decide) rfl (fun w h => .tail _ (iS_ok w h)) (.tail _ wd_198) rfl dS_share_33 ?_
      refine x_icmp_ge G 60 dS_share_36 (by decide) (fun h36 => (by rw [eq, hx1, e4, h48] at h36; exact absurd h36 (nI_ge hx2 (by omega)))) (fun h36 => ?_)
      refine x_aload_n G 0 dS_share_39 rfl rfl ?_
      refine x_get G 4 rfl rfl 2 (by decide) rfl (fun w h => .tail _ (iS_ok w h)) (.tail _ wd_192) rfl dS_share_40 ?_
      refine x_aload_n G 0 dS_share_43 rfl rfl ?_
      refine x_get G 4 rfl rfl 3 (by decide) rfl (fun w h => .tail _ (iS_ok w h)) (.tail _ wd_193) rfl dS_share_44 ?_
      refine x_iload_n G 2 dS_share_47 rfl rfl ?_
      refine x_ialdN G 21 0 rfl rfl (by omega) (by decide) dS_share_48 ?_
      refine x_top (z := nI b) (by rw [g5 21 (by omega) (by omega) (by omega) (by omega), ← hbk]; exact hbu b hb8 hbz) ?_
      refine x_aload_n G 0 dS_share_49 rfl rfl ?_
      refine x_get G 4 rfl rfl 4 (by decide) rfl (fun w h => .tail _ (iS_ok w h)) (.tail _ wd_194) rfl dS_share_50 ?_
      refine x_aload_n G 1 dS_share_53 rfl rfl ?_
      refine x_iload_n G 2 dS_share_54 rfl rfl ?_
      refine x_ialdN G 24 0 rfl rfl (by omega) (by decide) dS_share_55 ?_
      refine x_top (z := nI (gDn xs k)) (by rw [eq]; exact hx1) ?_
      refine x_ialdN G 22 0 rfl rfl (by omega) (by decide) dS_share_56 ?_
      refine x_top (z := nI (ab (gDn xs k))) (by rw [g5 22 (by omega) (by omega) (by omega) (by omega)]; exact ha1) ?_
      refine x_callVN2v G (cT_give (n := n) (C := C) (by rw [g5 1 (by omega) (by omega) (by omega) (by omega)]; exact hnt) hn8 (by rw [g5 2 (by omega) (by omega) (by omega) (by omega)]; exact hC) hC4 g1 g2 hbn ha2 (prA_above hbz hbk)) 3 rfl rfl (cVN G.2.2.2.2.1 G.2.2.2.2.2.2.1 nd_280 wd_282 wd_8 wd_53 wd_283 (by decide +kernel) ⟨(Nat.le_of_ble_eq_true rfl), (Nat.le_of_ble_eq_true rfl)⟩) dS_share_57 (Nat.le_of_ble_eq_true rfl) ⟨Nat.zero_le _, Nat.zero_le _⟩ (fun u57 e57 => ?_)
      obtain ⟨q1, q2, q3, q4, q5⟩ := e57
      rw [← hgk, ← prA_succ hbz hbk] at q1
      refine x_iinc G (nI (k + 1)) dS_share_60 rfl (nI_1 k) (by decide) ?_
      refine x_goto G 9 dS_share_63 (by decide) ?_
      exact ih (k + 1) (by omega) _ q1 (by rw [q2, prA_succ hbz hbk, hgk, spA_up (prA_above hbz hbk) (by omega) (by omega) (Nat.le_refl 4), if_pos (by omega)]) (q3.trans g3) (q4.trans g4) (g5.tr q5)
  refine x_aload_n G 0 dS_share_0 rfl rfl ?_
  refine x_get G 4 rfl rfl 2 (by decide) rfl (fun w h => .tail _ (iS_ok w h)) (.tail _ wd_192) rfl dS_share_1 ?_
  refine x_callVN0v G cT_clear 3 rfl rfl (cVN G.2.2.2.2.1 G.2.2.2.2.2.2.1 nd_275 wd_277 wd_7 wd_53 wd_278 (by decide +kernel) ⟨(Nat.le_of_ble_eq_true rfl), (Nat.le_of_ble_eq_true rfl)⟩) dS_share_4 (Nat.le_of_ble_eq_true rfl) ⟨Nat.zero_le _, Nat.zero_le _⟩ (fun u4 e4 => ?_)
  subst e4
  refine x_iconst G (0) dS_share_7 (by decide) ?_
  refine x_istore_n G 2 dS_share_8 rfl (by decide) ?_
  exact loop (cntB (bzF hh ww) 8) 0 (by omega) _ (by rw [prA_0]; exact clr_TS) (by rw [prA_0, spA_9 (Nat.le_refl 4), clr_11]; rfl) clr_9 clr_10 (fun q a b c d => clr_o a b c d)
def mIJ (j : Nat) : Int32 := if 0 < j then nI (j - 1) else -1
theorem mIJ_s {j : Nat} : mIJ (j + 1) = nI j := by simp [mIJ]
theorem mIJ_next {j : Nat} (h : j < 8) : nI j + (-1) = mIJ j := by
  rcases (show j = 0 ∨ j = 1 ∨ j = 2 ∨ j = 3 ∨ j = 4 ∨ j = 5 ∨ j = 6 ∨ j = 7 by omega) with rfl | rfl | rfl | rfl | rfl | rfl | rfl | rfl <;> decide
theorem mIJ_sub {j : Nat} (h : j ≤ 8) : nI j - 1 = mIJ j := by
  rcases (show j = 0 ∨ j = 1 ∨ j = 2 ∨ j = 3 ∨ j = 4 ∨ j = 5 ∨ j = 6 ∨ j = 7 ∨ j = 8 by omega) with rfl | rfl | rfl | rfl | rfl | rfl | rfl | rfl | rfl <;> decide
/-- the next sharing stands, or there is none -/
def NX (σ u : xSg) (na : Nat) (xs : List Nat) (r : Int32) : Prop := match nxtL na xs with
  | none => r = 0 ∧ u = σ
  | some ys => r = 1 ∧ ys.length = xs.length ∧ (∀ i, i < xs.length → u 23 i = nI (gDn ys i)) ∧ ∀ q, q ≠ 23 → u q = σ q
theorem nI_pred' {a : Nat} (h : 1 ≤ a) : nI a - 1 = nI (a - 1) := by
  obtain ⟨b, rfl⟩ : ∃ b, a = b + 1 := ⟨a - 1, by omega⟩
  exact nI_pred b
set_option maxHeartbeats 4000000 in
set_option maxRecDepth 100000 in
theorem cS_nextChoice {l : Launch} {D : va_G} {cI cZ cJ : ClassId} {ad : Nat → Nat} {σ : xSg} {na : Nat} {xs : List Nat} (h47 : σ 4 7 = nI xs.length) (hl8 : xs.length ≤ 8) (h48 : σ 4 8 = nI na) (hna1 : 1 ≤ na) (hna : na ≤ 4) (hxs : ∀ i, i < xs.length → σ 23 i = nI (gDn xs i) ∧ gDn xs i < na) : xCi l D vCl (tyC cI cZ cJ) nwW (wC ad cI cZ cJ) yS_nextChoice (.code yS_nextChoice bS_nextChoice 4 (some .boolean) :: bigW) 0 [.ref (ad 4)] σ (fun r u => NX σ u na xs r) := by
  refine xCi.of (cc := bS_nextChoice) (nL := 4) (ret := (some .boolean)) rfl (by decide) [.ref (ad 4), .null, .null, .null] rfl (Nat.le_of_ble_eq_true rfl) ?_
  intro pp ee ss mm aa bb me cde AA G hr hlk
  have inner : ∀ (i : Nat), i < xs.length → lastLt (gDn xs) na xs.length = some i → ∀ (j k : Nat), k + j = xs.length → i ≤ k → ∀ (σ1 : xSg), (∀ x, x < xs.length → σ1 23 x = nI (if x < i then gDn xs x else if x < k then gDn xs i + 1 else gDn xs x)) → (∀ q, q ≠ 23 → σ1 q = σ q) → xJ pp l ee { frames := 0, cells := 0, slots := 0, locals := 40 * 0 } ss mm aa bb me cde 0 0 (MQ bb (va_Qi (fun r u => NX σ u na xs r) (fun u t => va_P D vCl (wC ad cI cZ cJ u) t.heap ∧ va_D AA (wC ad cI cZ cJ u)) AA) aa ss 0 0 AA) D vCl AA 4 (va_S AA ss.heap) (wC ad cI cZ cJ σ1) [.ref (ad 4), .int (nI i), .int (nI (gDn xs i + 1)), .int (nI k)] 37 [] := by
    intro i hi hla j
    induction j with
    | zero =>
      intro k hk hik σ1 g1 g2
      have e4 : σ1 4 = σ 4 := g2 4 (by omega)
      refine x_iload_n G 3 dS_nextChoice_37 rfl rfl ?_
      refine x_aload_n G 0 dS_nextChoice_38 rfl rfl ?_
      refine x_get G 4 rfl rfl 7 (by decide) rfl (fun w h => .tail _ (iS_ok w h)) (.tail _ wd_197) rfl dS_nextChoice_39 ?_
      refine x_icmp_ge G 58 dS_nextChoice_42 (by decide) (fun h42 => ?_) (fun h42 => (by rw [e4, h47] at h42; exact absurd (nI_le (by omega) (by omega)) h42))
      refine x_iconst G (1) dS_nextChoice_58 (by decide) ?_
      exact x_reti G hr hlk rfl dS_nextChoice_59 (by unfold NX nxtL; rw [hla]; exact ⟨rfl, by simp, fun x hx => by rw [g1 x hx, gDn_map hx, show k = xs.length by omega]; split <;> simp [hx], g2⟩)
    | succ j ih =>
      intro k hk hik σ1 g1 g2
      have e4 : σ1 4 = σ 4 := g2 4 (by omega)
      refine x_iload_n G 3 dS_nextChoice_37 rfl rfl ?_
      refine x_aload_n G 0 dS_nextChoice_38 rfl rfl ?_
      refine x_get G 4 rfl rfl 7 (by decide) rfl (fun w h => .tail _ (iS_ok w h)) (.tail _ wd_197) rfl dS_nextChoice_39 ?_
      refine x_icmp_ge G 58 dS_nextChoice_42 (by decide) (fun h42 => (by rw [e4, h47] at h42; exact absurd h42 (nI_ge (by omega) (by omega)))) (fun h42 => ?_)
      refine x_aload_n G 0 dS_nextChoice_45 rfl rfl ?_
      refine x_get G 4 rfl rfl 5 (by decide) rfl (fun w h => .tail _ (iS_ok w h)) (.tail _ wd_195) rfl dS_nextChoice_46 ?_
      refine x_iload_n G 3 dS_nextChoice_49 rfl rfl ?_
      refine x_iload_n G 2 dS_nextChoice_50 rfl rfl ?_
      refine x_iastN G 23 0 rfl rfl warr_23 (by omega) (by decide) dS_nextChoice_51 ?_
      refine x_iinc G (nI (k + 1)) dS_nextChoice_52 rfl (nI_1 k) (by decide) ?_
      refine x_goto G 37 dS_nextChoice_55 (by decide) ?_
      refine ih (k + 1) (by omega) (by omega) _ (fun x hx => ?_) (fun q hq => by rw [sst_ne hq]; exact g2 q hq)
      by_cases e : x = k
      · rw [e, sst_same, if_neg (by omega), if_pos (by omega)]
      · rw [sst_i e, g1 x hx]; by_cases e2 : x < i; (· rw [if_pos e2, if_pos e2]); (· rw [if_neg e2, if_neg e2]; by_cases e3 : x < k; (· rw [if_pos e3, if_pos (by omega)]); (· rw [if_neg e3, if_neg (by omega)]))
  have loop : ∀ (j : Nat), j ≤ xs.length → lastLt (gDn xs) na xs.length = lastLt (gDn xs) na j → xJ pp l ee { frames := 0, cells := 0, slots := 0, locals := 40 * 0 } ss mm aa bb me cde 0 0 (MQ bb (va_Qi (fun r u => NX σ u na xs r) (fun u t => va_P D vCl (wC ad cI cZ cJ u) t.heap ∧ va_D AA (wC ad cI cZ cJ u)) AA) aa ss 0 0 AA) D vCl AA 4 (va_S AA ss.heap) (wC ad cI cZ cJ σ) [.ref (ad 4), .int (mIJ j), .null, .null] 7 [] := by
    intro j
    induction j with
    | zero =>
      intro hj he
      refine x_iload_n G 1 dS_nextChoice_7 rfl rfl ?_
      refine x_if_lt G 66 dS_nextChoice_8 (by decide) (fun h8 => ?_) (fun h8 => (by exact absurd (by decide) h8))
      refine x_iconst G (0) dS_nextChoice_66 (by decide) ?_
      exact x_reti G hr hlk rfl dS_nextChoice_67 (by unfold NX nxtL; rw [he]; exact ⟨rfl, rfl⟩)
    | succ j ih =>
      intro hj he
      obtain ⟨hx1, hx2⟩ := hxs j (by omega)
      refine x_eq rfl (vs2 := [.ref (ad 4), .int (nI j), .null, .null]) (by rw [mIJ_s]) rfl rfl ?_
      refine x_iload_n G 1 dS_nextChoice_7 rfl rfl ?_
      refine x_if_lt G 66 dS_nextChoice_8 (by decide) (fun h8 => (by exact absurd h8 (nI_pos (by omega)))) (fun h8 => ?_)
      refine x_aload_n G 0 dS_nextChoice_11 rfl rfl ?_
      refine x_get G 4 rfl rfl 5 (by decide) rfl (fun w h => .tail _ (iS_ok w h)) (.tail _ wd_195) rfl dS_nextChoice_12 ?_
      refine x_iload_n G 1 dS_nextChoice_15 rfl rfl ?_
      refine x_ialdN G 23 0 rfl rfl (by omega) (by decide) dS_nextChoice_16 ?_
      refine x_aload_n G 0 dS_nextChoice_17 rfl rfl ?_
      refine x_get G 4 rfl rfl 8 (by decide) rfl (fun w h => .tail _ (iS_ok w h)) (.tail _ wd_198) rfl dS_nextChoice_18 ?_
      refine x_iconst G (1) dS_nextChoice_21 (by decide) ?_
      refine x_isub G dS_nextChoice_22 ?_
      refine x_icmp_ge G 60 dS_nextChoice_23 (by decide) (fun h23 => ?_) (fun h23 => ?_)
      · have h23 : ¬ gDn xs j + 1 < na := by rw [hx1, h48, nI_pred' hna1, nI_leI (by omega) (by omega)] at h23; omega
        refine x_iinc G (mIJ j) dS_nextChoice_60 rfl (mIJ_next (by omega)) (by decide) ?_
        refine x_goto G 7 dS_nextChoice_63 (by decide) ?_
        exact ih (by omega) (by rw [he, lastLt, if_neg h23])
      · have h23 : gDn xs j + 1 < na := by rw [hx1, h48, nI_pred' hna1, nI_leI (by omega) (by omega)] at h23; omega
        have hla : lastLt (gDn xs) na xs.length = some j := by rw [he, lastLt, if_pos h23]
        refine x_aload_n G 0 dS_nextChoice_26 rfl rfl ?_
        refine x_get G 4 rfl rfl 5 (by decide) rfl (fun w h => .tail _ (iS_ok w h)) (.tail _ wd_195) rfl dS_nextChoice_27 ?_
        refine x_iload_n G 1 dS_nextChoice_30 rfl rfl ?_
        refine x_ialdN G 23 0 rfl rfl (by omega) (by decide) dS_nextChoice_31 ?_
        refine x_iconst G (1) dS_nextChoice_32 (by decide) ?_
        refine x_iadd G dS_nextChoice_33 ?_
        refine x_top (z := nI (gDn xs j + 1)) (by rw [hx1]; exact nI_1 _) ?_
        refine x_istore_n G 2 dS_nextChoice_34 rfl (by decide) ?_
        refine x_iload_n G 1 dS_nextChoice_35 rfl rfl ?_
        refine x_istore_n G 3 dS_nextChoice_36 rfl (by decide) ?_
        exact inner j (by omega) hla (xs.length - j) j (by omega) (Nat.le_refl j) σ (fun x hx => by rw [(hxs x hx).1]; split <;> rfl) (fun q _ => rfl)
  refine x_aload_n G 0 dS_nextChoice_0 rfl rfl ?_
  refine x_get G 4 rfl rfl 7 (by decide) rfl (fun w h => .tail _ (iS_ok w h)) (.tail _ wd_197) rfl dS_nextChoice_1 ?_
  refine x_iconst G (1) dS_nextChoice_4 (by decide) ?_
  refine x_isub G dS_nextChoice_5 ?_
  refine x_top (z := mIJ xs.length) (by rw [h47]; exact mIJ_sub (by omega)) ?_
  refine x_istore_n G 1 dS_nextChoice_6 rfl (by decide) ?_
  exact loop xs.length (Nat.le_refl _) rfl
end
