/-! LEAVES: CranePlan's static methods, Bays -/
theorem lgc_pos {b : Nat} (h0 : 0 < b) (hb : b < 2 ^ 63) : 0 < lg_cmp (lN b) 0 := by
  have h : (0 : Int64) < lN b := by
    rw [show (0 : Int64) = lN 0 from rfl, pk_lLT (by decide) hb]; exact h0
  have e : lg_cmp (lN b) 0 = 1 := by simp [lg_cmp, h]
  rw [e]; decide
theorem cdv_l {a b : Nat} (h0 : 0 < b) (hab : a + b < 2 ^ 62) : (lN a + lN b - 1) / lN b = lN (cdv a b) := by
  rw [lN_add, show (1 : Int64) = lN 1 from rfl, lN_sub (by omega), pk_lDiv (by omega) h0 (by omega)]
  rfl
/-- a number's place among others, by Int -/
theorem i32_lt {x y : Int32} : x < y ↔ x.toInt < y.toInt := Int32.lt_iff_toInt_lt
theorem i32_le {x y : Int32} : x ≤ y ↔ x.toInt ≤ y.toInt := Int32.le_iff_toInt_le
theorem nI_m1 {b : Nat} (h : b < 2 ^ 31) : nI b ≠ -1 := by
  intro q
  have := congrArg Int32.toInt q
  rw [nI_toInt h] at this
  have e : (-1 : Int32).toInt = -1 := by decide
  rw [e] at this
  omega
set_option maxHeartbeats 4000000 in
set_option maxRecDepth 100000 in
theorem cP_within {l : Launch} {D : va_G} {cI cZ cJ : ClassId} {ad : Nat → Nat} {σ : xSg} {v a b : Int32} : xCi0 l D vCl (tyC cI cZ cJ) nwW (wC ad cI cZ cJ σ) yP_within (.code yP_within bP_within 3 (some .boolean) :: bigW) 0 [.int v, .int a, .int b] (fun r => r = bI (¬ v < a ∧ ¬ b < v)) := by
  refine xCi0.of (cc := bP_within) (nL := 3) (ret := (some .boolean)) rfl (by decide) [.int v, .int a, .int b] rfl (Nat.le_of_ble_eq_true rfl) ?_
  intro pp ee ss mm aa bb me cde AA G hr hlk
  refine x_iload_n G 0 dP_within_0 rfl rfl ?_
  refine x_iload_n G 1 dP_within_1 rfl rfl ?_
  refine x_icmp_lt G 14 dP_within_2 (by decide) (fun h2 => ?_) (fun h2 => ?_)
  · refine x_iconst G (0) dP_within_14 (by decide) ?_
    exact x_ret0i G hr hlk rfl dP_within_15 (by simp [bI, *])
  · refine x_iload_n G 0 dP_within_5 rfl rfl ?_
    refine x_iload_n G 2 dP_within_6 rfl rfl ?_
    refine x_icmp_gt G 14 dP_within_7 (by decide) (fun h7 => ?_) (fun h7 => ?_)
    · refine x_iconst G (0) dP_within_14 (by decide) ?_
      exact x_ret0i G hr hlk rfl dP_within_15 (by simp [bI, *])
    · refine x_iconst G (1) dP_within_10 (by decide) ?_
      refine x_goto G 15 dP_within_11 (by decide) ?_
      exact x_ret0i G hr hlk rfl dP_within_15 (by simp [bI, *])
set_option maxHeartbeats 4000000 in
set_option maxRecDepth 100000 in
theorem cP_held {l : Launch} {D : va_G} {cI cZ cJ : ClassId} {ad : Nat → Nat} {σ : xSg} {v a b : Int32} : xCi0 l D vCl (tyC cI cZ cJ) nwW (wC ad cI cZ cJ σ) yP_held (.code yP_held bP_held 3 (some .int) :: bigW) 1 [.int v, .int a, .int b] (fun r => r = if a < (if v < b then v else b) then (if v < b then v else b) else a) := by
  refine xCi0.of (cc := bP_held) (nL := 3) (ret := (some .int)) rfl (by decide) [.int v, .int a, .int b] rfl (Nat.le_of_ble_eq_true rfl) ?_
  intro pp ee ss mm aa bb me cde AA G hr hlk
  refine x_iload_n G 1 dP_held_0 rfl rfl ?_
  refine x_iload_n G 2 dP_held_1 rfl rfl ?_
  refine x_iload_n G 0 dP_held_2 rfl rfl ?_
  refine x_mmin G (.tail _ wd_97) (.tail _ wd_98) (.tail _ wd_51) (.tail _ wd_99) ⟨(Nat.le_of_ble_eq_true rfl), (Nat.le_of_ble_eq_true rfl), Nat.zero_le _, Nat.zero_le _⟩ dP_held_3 ?_
  refine x_mmax G (.tail _ wd_100) (.tail _ wd_101) (.tail _ wd_51) (.tail _ wd_102) ⟨(Nat.le_of_ble_eq_true rfl), (Nat.le_of_ble_eq_true rfl), Nat.zero_le _, Nat.zero_le _⟩ dP_held_6 ?_
  exact x_ret0i G hr hlk rfl dP_held_9 rfl
set_option maxHeartbeats 4000000 in
set_option maxRecDepth 100000 in
theorem cP_dividedUp {l : Launch} {D : va_G} {cI cZ cJ : ClassId} {ad : Nat → Nat} {σ : xSg} {a b : Nat} (h0 : 0 < b) (hab : a + b < 2 ^ 62) : xCl0 l D vCl (tyC cI cZ cJ) nwW (wC ad cI cZ cJ σ) yP_dividedUp (.code yP_dividedUp bP_dividedUp 4 (some .long) :: bigW) 0 [.long (lN a), .long (lN b)] (fun r => r = lN (cdv a b)) := by
  refine xCl0.of (cc := bP_dividedUp) (nL := 4) (ret := (some .long)) rfl (by decide) [.long (lN a), .null, .long (lN b), .null] rfl (Nat.le_of_ble_eq_true rfl) ?_
  intro pp ee ss mm aa bb me cde AA G hr hlk
  refine x_lload_n G 2 dP_dividedUp_0 rfl rfl ?_
  refine x_lconst G 0 dP_dividedUp_1 (by decide) ?_
  refine x_lcmp G dP_dividedUp_2 ?_
  refine x_if_gt G 10 dP_dividedUp_3 (by decide) (fun h3 => ?_) (fun h3 => (by exact absurd (lgc_pos h0 (by omega)) h3))
  refine x_lload_n G 0 dP_dividedUp_10 rfl rfl ?_
  refine x_lload_n G 2 dP_dividedUp_11 rfl rfl ?_
  refine x_ladd G dP_dividedUp_12 ?_
  refine x_lconst G 1 dP_dividedUp_13 (by decide) ?_
  refine x_lsub G dP_dividedUp_14 ?_
  refine x_lload_n G 2 dP_dividedUp_15 rfl rfl ?_
  refine x_ldiv G dP_dividedUp_16 (fun h => by rw [show (0 : Int64) = lN 0 from rfl, pk_lEQ (by omega) (by decide)] at h; omega) ?_
  exact x_ret0l G hr hlk dP_dividedUp_17 (cdv_l h0 hab)
set_option maxHeartbeats 4000000 in
set_option maxRecDepth 100000 in
theorem cB_has {l : Launch} {D : va_G} {cI cZ cJ : ClassId} {ad : Nat → Nat} {σ : xSg} {b : Int32} : xCi0 l D vCl (tyC cI cZ cJ) nwW (wC ad cI cZ cJ σ) yB_has (.code yB_has bB_has 2 (some .boolean) :: bigW) 0 [.ref (ad 1), .int b] (fun r => r = bI (¬ b < 0 ∧ ¬ σ 1 2 ≤ b ∧ ¬ (8 : Int32) ≤ b)) := by
  refine xCi0.of (cc := bB_has) (nL := 2) (ret := (some .boolean)) rfl (by decide) [.ref (ad 1), .int b] rfl (Nat.le_of_ble_eq_true rfl) ?_
  intro pp ee ss mm aa bb me cde AA G hr hlk
  refine x_iload_n G 1 dB_has_0 rfl rfl ?_
  refine x_if_lt G 22 dB_has_1 (by decide) (fun h1 => ?_) (fun h1 => ?_)
  · refine x_iconst G (0) dB_has_22 (by decide) ?_
    exact x_ret0i G hr hlk rfl dB_has_23 (by simp [bI, *])
  · refine x_iload_n G 1 dB_has_4 rfl rfl ?_
    refine x_aload_n G 0 dB_has_5 rfl rfl ?_
    refine x_get G 1 rfl rfl 2 (by decide) rfl (fun w h => .tail _ (iB_ok w h)) (.tail _ wd_82) rfl dB_has_6 ?_
    refine x_icmp_ge G 22 dB_has_9 (by decide) (fun h9 => ?_) (fun h9 => ?_)
    · refine x_iconst G (0) dB_has_22 (by decide) ?_
      exact x_ret0i G hr hlk rfl dB_has_23 (by simp [bI, *])
    · refine x_iload_n G 1 dB_has_12 rfl rfl ?_
      refine x_bipush G (8) dB_has_13 (by decide) ?_
      refine x_icmp_ge G 22 dB_has_15 (by decide) (fun h15 => ?_) (fun h15 => ?_)
      · refine x_iconst G (0) dB_has_22 (by decide) ?_
        exact x_ret0i G hr hlk rfl dB_has_23 (by simp [bI, *])
      · refine x_iconst G (1) dB_has_18 (by decide) ?_
        refine x_goto G 23 dB_has_19 (by decide) ?_
        exact x_ret0i G hr hlk rfl dB_has_23 (by simp [bI, *])
theorem has_nI {t : Int32} {n b : Nat} (ht : t = nI n) (hn : n ≤ 8) (hb : b < 2 ^ 31) : (¬ nI b < 0 ∧ ¬ t ≤ nI b ∧ ¬ (8 : Int32) ≤ nI b) ↔ b < n := by
  subst ht
  rw [show (8 : Int32) = nI 8 from rfl, nI_leI (by omega) hb, nI_leI (by omega) hb]
  have := nI_pos hb
  constructor
  · rintro ⟨-, h1, -⟩; omega
  · intro h; exact ⟨this, by omega, by omega⟩
theorem cB_hasN {l : Launch} {D : va_G} {cI cZ cJ : ClassId} {ad : Nat → Nat} {σ : xSg} {n b : Nat} (ht : σ 1 2 = nI n) (hn : n ≤ 8) (hb : b < 2 ^ 31) : xCi0 l D vCl (tyC cI cZ cJ) nwW (wC ad cI cZ cJ σ) yB_has (.code yB_has bB_has 2 (some .boolean) :: bigW) 0 [.ref (ad 1), .int (nI b)] (fun r => r = bI (b < n)) :=
  cB_has.mono (fun r h => by rw [h]; exact bI_congr (has_nI ht hn hb))
set_option maxHeartbeats 4000000 in
set_option maxRecDepth 100000 in
theorem cB_isFull {l : Launch} {D : va_G} {cI cZ cJ : ClassId} {ad : Nat → Nat} {σ : xSg}  : xCi0 l D vCl (tyC cI cZ cJ) nwW (wC ad cI cZ cJ σ) yB_isFull (.code yB_isFull bB_isFull 1 (some .boolean) :: bigW) 0 [.ref (ad 1)] (fun r => r = bI ((8 : Int32) ≤ σ 1 2)) := by
  refine xCi0.of (cc := bB_isFull) (nL := 1) (ret := (some .boolean)) rfl (by decide) [.ref (ad 1)] rfl (Nat.le_of_ble_eq_true rfl) ?_
  intro pp ee ss mm aa bb me cde AA G hr hlk
  refine x_aload_n G 0 dB_isFull_0 rfl rfl ?_
  refine x_get G 1 rfl rfl 2 (by decide) rfl (fun w h => .tail _ (iB_ok w h)) (.tail _ wd_82) rfl dB_isFull_1 ?_
  refine x_bipush G (8) dB_isFull_4 (by decide) ?_
  refine x_icmp_lt G 13 dB_isFull_6 (by decide) (fun h6 => ?_) (fun h6 => ?_)
  · refine x_iconst G (0) dB_isFull_13 (by decide) ?_
    exact x_ret0i G hr hlk rfl dB_isFull_14 (by simp [bI, *])
  · refine x_iconst G (1) dB_isFull_9 (by decide) ?_
    refine x_goto G 14 dB_isFull_10 (by decide) ?_
    exact x_ret0i G hr hlk rfl dB_isFull_14 (by simp [bI, *])
set_option maxHeartbeats 4000000 in
set_option maxRecDepth 100000 in
theorem cB_movesOf {l : Launch} {D : va_G} {cI cZ cJ : ClassId} {ad : Nat → Nat} {σ : xSg} {n b : Nat} (ht : σ 1 2 = nI n) (hn : n ≤ 8) (hb : b < 2 ^ 31) : xCi0 l D vCl (tyC cI cZ cJ) nwW (wC ad cI cZ cJ σ) yB_movesOf (.code yB_movesOf bB_movesOf 2 (some .int) :: bigW) 1 [.ref (ad 1), .int (nI b)] (fun r => r = if b < n then σ 5 b + σ 6 b else 0) := by
  refine xCi0.of (cc := bB_movesOf) (nL := 2) (ret := (some .int)) rfl (by decide) [.ref (ad 1), .int (nI b)] rfl (Nat.le_of_ble_eq_true rfl) ?_
  intro pp ee ss mm aa bb me cde AA G hr hlk
  refine x_aload_n G 0 dB_movesOf_0 rfl rfl ?_
  refine x_iload_n G 1 dB_movesOf_1 rfl rfl ?_
  refine x_call0V1i G (cB_hasN ht hn hb) 1 rfl rfl (cV G.2.2.2.2.1 wd_258 wd_260 wd_3 wd_49 wd_261 (by decide +kernel) ⟨(Nat.le_of_ble_eq_true rfl), (Nat.le_of_ble_eq_true rfl)⟩) dB_movesOf_2 (Nat.le_of_ble_eq_true rfl) ⟨Nat.zero_le _, Nat.zero_le _⟩ (fun r2 e2 => ?_)
  subst e2
  refine x_if_eq G 24 dB_movesOf_5 (by decide) (fun h5 => ?_) (fun h5 => ?_)
  · have h5 := bI_eq0.mp h5
    refine x_iconst G (0) dB_movesOf_24 (by decide) ?_
    exact x_ret0i G hr hlk rfl dB_movesOf_25 (by simp [*])
  · have h5 := bI_ne0.mp h5
    refine x_aload_n G 0 dB_movesOf_8 rfl rfl ?_
    refine x_get G 1 rfl rfl 0 (by decide) rfl (fun w h => .tail _ (iB_ok w h)) (.tail _ wd_78) rfl dB_movesOf_9 ?_
    refine x_iload_n G 1 dB_movesOf_12 rfl rfl ?_
    refine x_ialdN G 5 0 rfl rfl (by omega) (by decide) dB_movesOf_13 ?_
    refine x_aload_n G 0 dB_movesOf_14 rfl rfl ?_
    refine x_get G 1 rfl rfl 1 (by decide) rfl (fun w h => .tail _ (iB_ok w h)) (.tail _ wd_80) rfl dB_movesOf_15 ?_
    refine x_iload_n G 1 dB_movesOf_18 rfl rfl ?_
    refine x_ialdN G 6 0 rfl rfl (by omega) (by decide) dB_movesOf_19 ?_
    refine x_iadd G dB_movesOf_20 ?_
    refine x_goto G 25 dB_movesOf_21 (by decide) ?_
    exact x_ret0i G hr hlk rfl dB_movesOf_25 (by simp [*])
/-- the sum of the moves of the bays below k -/
def amS (σ : xSg) : Nat → Int32
  | 0 => 0
  | k + 1 => amS σ k + (σ 5 k + σ 6 k)
set_option maxHeartbeats 4000000 in
set_option maxRecDepth 100000 in
theorem cB_allMoves {l : Launch} {D : va_G} {cI cZ cJ : ClassId} {ad : Nat → Nat} {σ : xSg} {n : Nat} (ht : σ 1 2 = nI n) (hn : n ≤ 8) : xCi0 l D vCl (tyC cI cZ cJ) nwW (wC ad cI cZ cJ σ) yB_allMoves (.code yB_allMoves bB_allMoves 3 (some .int) :: bigW) 2 [.ref (ad 1)] (fun r => r = amS σ n) := by
  refine xCi0.of (cc := bB_allMoves) (nL := 3) (ret := (some .int)) rfl (by decide) [.ref (ad 1), .null, .null] rfl (Nat.le_of_ble_eq_true rfl) ?_
  intro pp ee ss mm aa bb me cde AA G hr hlk
  have loop : ∀ (j k : Nat), k + j = n → xJ pp l ee { frames := 2, cells := 0, slots := 0, locals := 40 * 2 } ss mm aa bb me cde 0 0 (MQ bb (vp_Si (fun r => r = amS σ n)) aa ss 0 0 (fun _ => False)) D vCl AA 3 (fun H locs => H = ss.heap ∧ locs = []) (wC ad cI cZ cJ σ) [.ref (ad 1), .int (amS σ k), .int (nI k)] 4 [] := by
    intro j
    induction j with
    | zero =>
      intro k hk
      refine x_iload_n G 2 dB_allMoves_4 rfl rfl ?_
      refine x_aload_n G 0 dB_allMoves_5 rfl rfl ?_
      refine x_get G 1 rfl rfl 2 (by decide) rfl (fun w h => .tail _ (iB_ok w h)) (.tail _ wd_82) rfl dB_allMoves_6 ?_
      refine x_icmp_ge G 26 dB_allMoves_9 (by decide) (fun h9 => ?_) (fun h9 => (by rw [ht] at h9; exact absurd (nI_le (by omega) (by omega)) h9))
      refine x_iload_n G 1 dB_allMoves_26 rfl rfl ?_
      exact x_ret0i G hr hlk rfl dB_allMoves_27 (by rw [show k = n by omega])
    | succ j ih =>
      intro k hk
      refine x_iload_n G 2 dB_allMoves_4 rfl rfl ?_
      refine x_aload_n G 0 dB_allMoves_5 rfl rfl ?_
      refine x_get G 1 rfl rfl 2 (by decide) rfl (fun w h => .tail _ (iB_ok w h)) (.tail _ wd_82) rfl dB_allMoves_6 ?_
      refine x_icmp_ge G 26 dB_allMoves_9 (by decide) (fun h9 => (by rw [ht] at h9; exact absurd h9 (nI_ge (by omega) (by omega)))) (fun h9 => ?_)
      refine x_iload_n G 1 dB_allMoves_12 rfl rfl ?_
      refine x_aload_n G 0 dB_allMoves_13 rfl rfl ?_
      refine x_iload_n G 2 dB_allMoves_14 rfl rfl ?_
      refine x_call0V1i G (cB_movesOf ht hn (by omega)) 1 rfl rfl (cV G.2.2.2.2.1 wd_347 wd_256 wd_2 wd_49 wd_257 (by decide +kernel) ⟨(Nat.le_of_ble_eq_true rfl), (Nat.le_of_ble_eq_true rfl)⟩) dB_allMoves_15 (Nat.le_of_ble_eq_true rfl) ⟨Nat.zero_le _, Nat.zero_le _⟩ (fun r15 e15 => ?_)
      subst e15
      rw [if_pos (show k < n by omega)]
      refine x_iadd G dB_allMoves_18 ?_
      refine x_istore_n G 1 dB_allMoves_19 rfl (by decide) ?_
      refine x_iinc G (nI (k + 1)) dB_allMoves_20 rfl (nI_1 k) (by decide) ?_
      refine x_goto G 4 dB_allMoves_23 (by decide) ?_
      exact ih (k + 1) (by omega)
  refine x_iconst G (0) dB_allMoves_0 (by decide) ?_
  refine x_istore_n G 1 dB_allMoves_1 rfl (by decide) ?_
  refine x_iconst G (0) dB_allMoves_2 (by decide) ?_
  refine x_istore_n G 2 dB_allMoves_3 rfl (by decide) ?_
  exact loop n 0 (by omega)
