/-! PURE ROWS: times, sharings, the best of a list, rows in order. No machine here. -/
/-- rounded up -/
def cdv (a b : Nat) : Nat := (a + b - 1) / b
theorem cdv_le {a b : Nat} (hb : 0 < b) : cdv a b ≤ a := by
  unfold cdv
  cases a with
  | zero => rw [Nat.div_eq_of_lt (by omega)]; exact Nat.le_refl 0
  | succ a =>
    have h : a + 1 + b - 1 = a + b := by omega
    rw [h, Nat.add_div_right _ hb]
    have := Nat.div_le_self a b
    omega
theorem cdv_eq {v m : Nat} (hm : 0 < m) : v / m + (if 0 < v % m then 1 else 0) = cdv v m := by
  have h := Nat.div_add_mod v m
  have hlt := Nat.mod_lt v hm
  unfold cdv
  by_cases h0 : 0 < v % m
  · rw [if_pos h0]
    have e : v + m - 1 = m * (v / m + 1) + (v % m - 1) := by rw [Nat.mul_add]; omega
    rw [e, Nat.mul_add_div hm, show (v % m - 1) / m = 0 from Nat.div_eq_of_lt (by omega)]
  · rw [if_neg h0]
    have e : v + m - 1 = m * (v / m) + (m - 1) := by omega
    rw [e, Nat.mul_add_div hm, show (m - 1) / m = 0 from Nat.div_eq_of_lt (by omega)]
theorem cdv_pos {a b : Nat} (ha : 0 < a) (hb : 0 < b) : 0 < cdv a b := by
  unfold cdv
  exact Nat.div_pos (by omega) hb
/-- a crane's first and last bay among the bays below k -/
def fstA (A : Nat → Nat) (c : Nat) : Nat → Option Nat
  | 0 => none
  | k + 1 => match fstA A c k with
    | some b => some b
    | none => if A k = c then some k else none
def lstA (A : Nat → Nat) (c : Nat) : Nat → Option Nat
  | 0 => none
  | k + 1 => if A k = c then some k else lstA A c k
theorem fstA_none {A : Nat → Nat} {c : Nat} : ∀ {k : Nat}, fstA A c k = none ↔ ∀ b, b < k → A b ≠ c
  | 0 => by simp [fstA]
  | k + 1 => by
    have ih := fstA_none (A := A) (c := c) (k := k)
    unfold fstA
    cases hf : fstA A c k with
    | some b =>
      simp only [hf] at ih
      constructor
      · intro h; cases h
      · intro h
        exact absurd (ih.mpr fun b hb => h b (by omega)) (by simp)
    | none =>
      have h0 := ih.mp hf
      by_cases hk : A k = c
      · simp only [if_pos hk]
        constructor
        · intro h; cases h
        · intro h; exact absurd hk (h k (by omega))
      · simp only [if_neg hk, true_iff]
        intro b hb
        rcases (show b < k ∨ b = k by omega) with h | rfl
        · exact h0 b h
        · exact hk
theorem fstA_some {A : Nat → Nat} {c : Nat} : ∀ {k f : Nat}, fstA A c k = some f → f < k ∧ A f = c ∧ ∀ b, b < f → A b ≠ c
  | 0, f, h => by simp [fstA] at h
  | k + 1, f, h => by
    unfold fstA at h
    cases hf : fstA A c k with
    | some b =>
      rw [hf] at h
      cases h
      obtain ⟨h1, h2, h3⟩ := fstA_some hf
      exact ⟨by omega, h2, h3⟩
    | none =>
      rw [hf] at h
      by_cases hk : A k = c
      · simp only [if_pos hk] at h
        cases h
        exact ⟨by omega, hk, fstA_none.mp hf⟩
      · simp [if_neg hk] at h
theorem lstA_none {A : Nat → Nat} {c : Nat} : ∀ {k : Nat}, lstA A c k = none ↔ ∀ b, b < k → A b ≠ c
  | 0 => by simp [lstA]
  | k + 1 => by
    have ih := lstA_none (A := A) (c := c) (k := k)
    unfold lstA
    by_cases hk : A k = c
    · simp only [if_pos hk]
      constructor
      · intro h; cases h
      · intro h; exact absurd hk (h k (by omega))
    · simp only [if_neg hk]
      rw [ih]
      constructor
      · intro h b hb
        rcases (show b < k ∨ b = k by omega) with h1 | rfl
        · exact h b h1
        · exact hk
      · intro h b hb
        exact h b (by omega)
theorem lstA_some {A : Nat → Nat} {c : Nat} : ∀ {k f : Nat}, lstA A c k = some f → f < k ∧ A f = c ∧ ∀ b, f < b → b < k → A b ≠ c
  | 0, f, h => by simp [lstA] at h
  | k + 1, f, h => by
    unfold lstA at h
    by_cases hk : A k = c
    · simp only [if_pos hk] at h
      cases h
      exact ⟨by omega, hk, fun b h1 h2 => by omega⟩
    · simp only [if_neg hk] at h
      obtain ⟨h1, h2, h3⟩ := lstA_some h
      refine ⟨by omega, h2, fun b hb1 hb2 => ?_⟩
      rcases (show b < k ∨ b = k by omega) with q | rfl
      · exact h3 b hb1 q
      · exact hk
/-- when a crane comes to a bay: du its work there, f its first bay, w when the next crane came to a bay -/
def tim (du : Nat → Nat) (f g s : Nat) (w : Nat → Nat) : Nat → Nat
  | 0 => 0
  | b + 1 => if b + 1 ≤ f then 0 else max (tim du f g s w b + du b) (w (b + 2 + g)) + s
theorem tim_low {du : Nat → Nat} {f g s : Nat} {w : Nat → Nat} : ∀ {b : Nat}, b ≤ f → tim du f g s w b = 0
  | 0, _ => rfl
  | b + 1, h => by simp [tim, h]
theorem tim_up {du : Nat → Nat} {f g s : Nat} {w : Nat → Nat} {b : Nat} (h : f ≤ b) : tim du f g s w (b + 1) = max (tim du f g s w b + du b) (w (b + 2 + g)) + s := by
  simp only [tim]
  rw [if_neg (by omega)]
theorem tim_le {du w : Nat → Nat} {f g s K : Nat} (hd : ∀ b, du b ≤ 25000) (hw : ∀ b, w b ≤ 25020 * (b + K)) (hg : g ≤ 3) (hs : s ≤ 20) : ∀ b, tim du f g s w b ≤ 25020 * (b + (K + 5))
  | 0 => by simp [tim]
  | b + 1 => by
    have ih := tim_le (f := f) hd hw hg hs b
    have h1 := hd b
    have h2 := hw (b + 2 + g)
    simp only [tim]
    by_cases hb : b + 1 ≤ f
    · rw [if_pos hb]; omega
    · rw [if_neg hb]
      have h3 : max (tim du f g s w b + du b) (w (b + 2 + g)) ≤ 25020 * (b + (K + 5)) + 25000 := Nat.max_le.mpr ⟨by omega, by omega⟩
      omega
/-- how long a crane works at a bay -/
def tkA (mv mo mi : Nat → Nat) (c b : Nat) : Nat := cdv (mv b * mi c) (mo c)
def duA (A mv mo mi : Nat → Nat) (c b : Nat) : Nat := if A b = c then tkA mv mo mi c b else 0
/-- when the next crane with bays, of the j last ones of four, came to a bay -/
def wtA (A mv mo mi : Nat → Nat) (n g s : Nat) : Nat → Nat → Nat
  | 0 => fun _ => 0
  | j + 1 => match fstA A (3 - j) n with
    | none => wtA A mv mo mi n g s j
    | some f => tim (duA A mv mo mi (3 - j)) f g s (wtA A mv mo mi n g s j)
/-- when crane c comes to bay b -/
def cmA (A mv mo mi : Nat → Nat) (n g s c b : Nat) : Nat := tim (duA A mv mo mi c) ((fstA A c n).getD 0) g s (wtA A mv mo mi n g s (3 - c)) b
theorem tkA_le {mv mo mi : Nat → Nat} {c b : Nat} (h1 : mv b ≤ 250) (h2 : mi c ≤ 100) (h3 : 0 < mo c) : tkA mv mo mi c b ≤ 25000 := by
  have h := cdv_le (a := mv b * mi c) h3
  have h4 : mv b * mi c ≤ 250 * 100 := Nat.mul_le_mul h1 h2
  unfold tkA
  omega
theorem duA_le {A mv mo mi : Nat → Nat} {c : Nat} (h1 : ∀ b, mv b ≤ 250) (h2 : mi c ≤ 100) (h3 : 0 < mo c) (b : Nat) : duA A mv mo mi c b ≤ 25000 := by
  unfold duA
  split
  · exact tkA_le (h1 b) h2 h3
  · omega
theorem wtA_le {A mv mo mi : Nat → Nat} {n g s : Nat} (h1 : ∀ b, mv b ≤ 250) (h2 : ∀ c, c < 4 → mi c ≤ 100) (h3 : ∀ c, c < 4 → 0 < mo c) (hg : g ≤ 3) (hs : s ≤ 20) : ∀ (j : Nat), j ≤ 4 → ∀ b, wtA A mv mo mi n g s j b ≤ 25020 * (b + 5 * j)
  | 0, _, b => by simp [wtA]
  | j + 1, hj, b => by
    have ih := wtA_le (A := A) (n := n) h1 h2 h3 hg hs j (by omega)
    unfold wtA
    cases hf : fstA A (3 - j) n with
    | none =>
      have := ih b
      show wtA A mv mo mi n g s j b ≤ _
      omega
    | some f =>
      have := tim_le (f := f) (K := 5 * j) (duA_le (A := A) h1 (h2 (3 - j) (by omega)) (h3 (3 - j) (by omega))) ih hg hs b
      show tim _ _ _ _ _ b ≤ _
      omega
theorem cmA_le {A mv mo mi : Nat → Nat} {n g s c b : Nat} (h1 : ∀ b, mv b ≤ 250) (h2 : ∀ c, c < 4 → mi c ≤ 100) (h3 : ∀ c, c < 4 → 0 < mo c) (hg : g ≤ 3) (hs : s ≤ 20) (hc : c < 4) (hb : b < 8) : cmA A mv mo mi n g s c b ≤ 675540 := by
  have h := tim_le (f := (fstA A c n).getD 0) (K := 5 * (3 - c)) (duA_le (A := A) h1 (h2 c hc) (h3 c hc)) (wtA_le (A := A) (n := n) h1 h2 h3 hg hs (3 - c) (by omega)) hg hs b
  unfold cmA
  omega
/-- when all work ends: of the bays below k -/
def fiA (A mv mo mi : Nat → Nat) (n g s : Nat) : Nat → Nat
  | 0 => 0
  | k + 1 => if A k < 4 then max (fiA A mv mo mi n g s k) (cmA A mv mo mi n g s (A k) k + tkA mv mo mi (A k) k) else fiA A mv mo mi n g s k
theorem fiA_le {A mv mo mi : Nat → Nat} {n g s : Nat} (h1 : ∀ b, mv b ≤ 250) (h2 : ∀ c, c < 4 → mi c ≤ 100) (h3 : ∀ c, c < 4 → 0 < mo c) (hg : g ≤ 3) (hs : s ≤ 20) : ∀ (k : Nat), k ≤ 8 → fiA A mv mo mi n g s k ≤ 700540
  | 0, _ => by simp [fiA]
  | k + 1, hk => by
    have ih := fiA_le (A := A) (n := n) h1 h2 h3 hg hs k (by omega)
    unfold fiA
    by_cases ha : A k < 4
    · rw [if_pos ha]
      have q1 := cmA_le (A := A) (n := n) h1 h2 h3 hg hs ha (show k < 8 by omega)
      have q2 := tkA_le (mo := mo) (h1 k) (h2 (A k) ha) (h3 (A k) ha)
      exact Nat.max_le.mpr ⟨ih, by omega⟩
    · rw [if_neg ha]; exact ih
/-- the steps of the cranes below k -/
def spA (A : Nat → Nat) (n : Nat) : Nat → Nat
  | 0 => 0
  | c + 1 => spA A n c + ((lstA A c n).getD 0 - (fstA A c n).getD 0)
/-- of the cranes below k: the last one with bays; whether they keep apart -/
def apA (A : Nat → Nat) (n g : Nat) : Nat → Option Nat × Bool
  | 0 => (none, true)
  | c + 1 => match fstA A c n with
    | none => apA A n g c
    | some f => (some c, (apA A n g c).2 && match (apA A n g c).1 with
      | none => true
      | some d => decide ((fstA A d n).getD 0 + g < f) && decide ((lstA A d n).getD 0 + g < (lstA A c n).getD 0))
/-! sharings -/
def lastLt (x : Nat → Nat) (k : Nat) : Nat → Option Nat
  | 0 => none
  | i + 1 => if x i + 1 < k then some i else lastLt x k i
def gDn (xs : List Nat) (i : Nat) : Nat := xs.getD i 0
def nxtL (k : Nat) (xs : List Nat) : Option (List Nat) := (lastLt (gDn xs) k xs.length).map (fun i => (List.range xs.length).map (fun j => if j < i then gDn xs j else gDn xs i + 1))
def enL (k : Nat) : Nat → List Nat → List (List Nat)
  | 0, _ => []
  | f + 1, xs => xs :: (match nxtL k xs with
    | none => []
    | some ys => enL k f ys)
def enE (k : Nat) : Nat → List Nat → Bool
  | 0, _ => false
  | f + 1, xs => match nxtL k xs with
    | none => true
    | some ys => enE k f ys
def zrL (n : Nat) : List Nat := List.replicate n 0
def mskL (m c : Nat) : Bool := m / 2 ^ c % 2 == 0
def ablL (C m : Nat) : List Nat := (List.range C).filter (mskL m)
def chk1 (C n m : Nat) : Bool := (ablL C m).isEmpty || ((enL C 165 (zrL n)).filter (fun xs => xs.all (mskL m)) == (enL (ablL C m).length 165 (zrL n)).map (fun xs => xs.map (gDn (ablL C m))))
def chkA : Bool := (List.range 4).all fun C => (List.range 9).all fun n => (List.range (2 ^ (C + 1))).all fun m => chk1 (C + 1) n m
def chkE : Bool := (List.range 4).all fun C => (List.range 9).all fun n => enE (C + 1) 165 (zrL n)
set_option maxRecDepth 100000 in
theorem chkE_ok : chkE = true := by decide +kernel
set_option maxRecDepth 100000 in
theorem chkA_ok : chkA = true := by decide +kernel
