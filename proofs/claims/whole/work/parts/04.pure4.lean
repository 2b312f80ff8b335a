/-! the greatest of some numbers, one more of them -/
def fiG (P : Nat → Bool) (E : Nat → Nat) : Nat → Nat
  | 0 => 0
  | k + 1 => if P k = true then max (fiG P E k) (E k) else fiG P E k
theorem fiG_congr {P P' : Nat → Bool} {E E' : Nat → Nat} : ∀ {k : Nat}, (∀ b, b < k → P b = P' b) → (∀ b, b < k → P b = true → E b = E' b) → fiG P E k = fiG P' E' k
  | 0, _, _ => rfl
  | k + 1, h1, h2 => by
    have ih := fiG_congr (P := P) (P' := P') (E := E) (E' := E') (k := k) (fun b hb => h1 b (by omega)) (fun b hb => h2 b (by omega))
    unfold fiG
    rw [ih, h1 k (by omega)]
    by_cases hp : P' k = true
    · rw [if_pos hp, if_pos hp, h2 k (by omega) (by rw [h1 k (by omega)]; exact hp)]
    · rw [if_neg hp, if_neg hp]
theorem fiG_add {P : Nat → Bool} {E : Nat → Nat} {b0 : Nat} : ∀ {k : Nat}, fiG (fun b => P b || b == b0) E k = if b0 < k then max (fiG P E k) (E b0) else fiG P E k
  | 0 => by simp [fiG]
  | k + 1 => by
    have ih := fiG_add (P := P) (E := E) (b0 := b0) (k := k)
    unfold fiG
    rw [ih]
    by_cases hk : k = b0
    · subst hk
      have e : (P k || k == k) = true := by simp
      rw [if_pos e, if_neg (Nat.lt_irrefl k), if_pos (Nat.lt_succ_self k)]
      by_cases hp : P k = true
      · rw [if_pos hp]; omega
      · rw [if_neg hp]
    · have e : (P k || k == b0) = P k := by simp [hk]
      rw [e]
      by_cases hb : b0 < k
      · have hb1 : b0 < k + 1 := by omega
        rw [if_pos hb, if_pos hb1]
        by_cases hp : P k = true
        · rw [if_pos hp, if_pos hp]; omega
        · rw [if_neg hp, if_neg hp]
      · have hb1 : ¬ b0 < k + 1 := by omega
        rw [if_neg hb, if_neg hb1]
theorem fiG_le {P : Nat → Bool} {E : Nat → Nat} {M : Nat} : ∀ {k : Nat}, (∀ b, b < k → P b = true → E b ≤ M) → fiG P E k ≤ M
  | 0, _ => Nat.zero_le _
  | k + 1, h => by
    have ih := fiG_le (P := P) (E := E) (M := M) (k := k) (fun b hb => h b (by omega))
    unfold fiG
    by_cases hp : P k = true
    · rw [if_pos hp]; exact Nat.max_le.mpr ⟨ih, h k (by omega) hp⟩
    · rw [if_neg hp]; exact ih
/-! all cranes' rates together: the class adds fractions, the reference multiplies all minutes first -/
def prM (ab : Nat → Bool) (mi : Nat → Nat) : Nat → Nat
  | 0 => 1
  | c + 1 => if ab c = true then prM ab mi c * mi c else prM ab mi c
def abv (ab : Nat → Bool) (mo mi : Nat → Nat) : Nat → Nat
  | 0 => 0
  | c + 1 => if ab c = true then abv ab mo mi c * mi c + mo c * prM ab mi c else abv ab mo mi c
def ratS (ab : Nat → Bool) (mo mi : Nat → Nat) (P : Nat) : Nat → Nat
  | 0 => 0
  | c + 1 => ratS ab mo mi P c + (if ab c = true then P / mi c * mo c else 0)
theorem prM_pos {ab : Nat → Bool} {mi : Nat → Nat} (h : ∀ c, 0 < mi c) : ∀ c, 0 < prM ab mi c
  | 0 => by simp [prM]
  | c + 1 => by
    unfold prM
    split
    · exact Nat.mul_pos (prM_pos h c) (h c)
    · exact prM_pos h c
theorem rat_same {ab : Nat → Bool} {mo mi : Nat → Nat} (h : ∀ c, 0 < mi c) {P : Nat} : ∀ (c q : Nat), P = prM ab mi c * q → abv ab mo mi c * q = ratS ab mo mi P c
  | 0, q, _ => by simp [abv, ratS]
  | c + 1, q, hP => by
    unfold abv ratS
    by_cases ha : ab c = true
    · have e : prM ab mi (c + 1) = prM ab mi c * mi c := by simp [prM, ha]
      rw [e] at hP
      have ih := rat_same (ab := ab) (mo := mo) (P := P) h c (mi c * q) (by rw [hP, Nat.mul_assoc])
      rw [if_pos ha, if_pos ha, ← ih]
      have hd : P / mi c = prM ab mi c * q := by
        rw [hP, Nat.mul_right_comm]
        exact Nat.mul_div_cancel _ (h c)
      rw [hd, Nat.add_mul, Nat.mul_assoc, Nat.mul_assoc, Nat.mul_comm (mo c)]
    · have e : prM ab mi (c + 1) = prM ab mi c := by simp [prM, ha]
      rw [e] at hP
      rw [if_neg ha, if_neg ha, Nat.add_zero]
      exact rat_same h c q hP
theorem rat_eq {ab : Nat → Bool} {mo mi : Nat → Nat} (h : ∀ c, 0 < mi c) (c : Nat) : ratS ab mo mi (prM ab mi c) c = abv ab mo mi c := by
  have := rat_same (mo := mo) h c 1 (by rw [Nat.mul_one] : prM ab mi c = prM ab mi c * 1)
  rw [Nat.mul_one] at this
  exact this.symm
theorem prM_le {ab : Nat → Bool} {mi : Nat → Nat} (h : ∀ c, mi c ≤ 100) : ∀ c, prM ab mi c ≤ 100 ^ c
  | 0 => by simp [prM]
  | c + 1 => by
    have ih := prM_le (ab := ab) h c
    unfold prM
    rw [Nat.pow_succ]
    split
    · exact Nat.mul_le_mul ih (h c)
    · omega
theorem abv_le {ab : Nat → Bool} {mo mi : Nat → Nat} (h : ∀ c, mi c ≤ 100) (ho : ∀ c, mo c ≤ 100) : ∀ c, abv ab mo mi c ≤ c * 100 ^ c
  | 0 => by simp [abv]
  | c + 1 => by
    have ih := abv_le (ab := ab) h ho c
    have hp := prM_le (ab := ab) h c
    have h1 : abv ab mo mi c * mi c ≤ c * 100 ^ c * 100 := Nat.mul_le_mul ih (h c)
    have h2 : mo c * prM ab mi c ≤ 100 * 100 ^ c := Nat.mul_le_mul (ho c) hp
    have e : (c + 1) * 100 ^ (c + 1) = c * 100 ^ c * 100 + 100 * 100 ^ c := by
      rw [Nat.pow_succ, Nat.add_mul, Nat.mul_assoc, Nat.one_mul, Nat.mul_comm (100 ^ c) 100, Nat.mul_comm 100 (100 ^ c)]
    unfold abv
    rw [e]
    split
    · omega
    · have : c * 100 ^ c ≤ c * 100 ^ c * 100 := Nat.le_mul_of_pos_right _ (by omega)
      omega
