/-! THE REFERENCE: working, goesOn, isAllowed -/
set_option maxHeartbeats 4000000 in
set_option maxRecDepth 100000 in
theorem cM_working {l : Launch} {D : va_G} {cI cZ cJ : ClassId} {ad : Nat → Nat} {σ : xSg} {n C g s : Nat} {hh ww mo mi : Nat → Nat} {ou : Nat → Bool} (hP : PM σ n C g s hh ww mo mi ou) : xCi0 l D vCl (tyC cI cZ cJ) nwW (wM ad cI cZ cJ σ) yM_working (.code yM_working bM_working 3 (some .int) :: bigW) 0 [.ref (ad 0)] (fun r => r = nI (abS ou C)) := by
  refine xCi0.of (cc := bM_working) (nL := 3) (ret := (some .int)) rfl (by decide) [.ref (ad 0), .null, .null] rfl (Nat.le_of_ble_eq_true rfl) ?_
  intro pp ee ss mm aa bb me cde AA G hr hlk
  obtain ⟨hn8, hC1, hC4, hg3, hs20, hn, hC, hg, hs, hbw, hrt, hbb, hb0, hbd⟩ := id hP
  have loop : ∀ (j k : Nat), k + j = C → xJ pp l ee { frames := 0, cells := 0, slots := 0, locals := 40 * 0 } ss mm aa bb me cde 0 0 (MQ bb (vp_Si (fun r => r = nI (abS ou C))) aa ss 0 0 (fun _ => False)) D vCl AA 3 (fun H locs => H = ss.heap ∧ locs = []) (wM ad cI cZ cJ σ) [.ref (ad 0), .int (nI (abS ou k)), .int (nI k)] 4 [] := by
    intro j
    induction j with
    | zero =>
      intro k hk
      refine x_iload_n G 2 dM_working_4 rfl rfl ?_
      refine x_aload_n G 0 dM_working_5 rfl rfl ?_
      refine x_get G 0 rfl rfl 1 (by decide) rfl (fun w h => .tail _ (iM_ok w h)) (.tail _ wd_596) rfl dM_working_6 ?_
      refine x_icmp_ge G 35 dM_working_9 (by decide) (fun h9 => ?_) (fun h9 => (by rw [hC] at h9; exact absurd (nI_le (by omega) (by omega)) h9))
      refine x_iload_n G 1 dM_working_35 rfl rfl ?_
      exact x_ret0i G hr hlk rfl dM_working_36 (by rw [show k = C by omega])
    | succ j ih =>
      intro k hk
      obtain ⟨-, -, h5⟩ := hrt k (by omega)
      refine x_iload_n G 2 dM_working_4 rfl rfl ?_
      refine x_aload_n G 0 dM_working_5 rfl rfl ?_
      refine x_get G 0 rfl rfl 1 (by decide) rfl (fun w h => .tail _ (iM_ok w h)) (.tail _ wd_596) rfl dM_working_6 ?_
      refine x_icmp_ge G 35 dM_working_9 (by decide) (fun h9 => (by rw [hC] at h9; exact absurd h9 (nI_ge (by omega) (by omega)))) (fun h9 => ?_)
      refine x_iload_n G 1 dM_working_12 rfl rfl ?_
      refine x_aload_n G 0 dM_working_13 rfl rfl ?_
      refine x_get G 0 rfl rfl 8 (by decide) rfl (fun w h => .tail _ (iM_ok w h)) (.tail _ wd_603) rfl dM_working_14 ?_
      refine x_iload_n G 2 dM_working_17 rfl rfl ?_
      refine x_zaldN G 5 1 rfl rfl (by omega) (by decide) dM_working_18 ?_
      refine x_if_eq G 26 dM_working_19 (by decide) (fun h19 => ?_) (fun h19 => ?_)
      · rw [h5, bI_eq0] at h19
        have e : abS ou (k + 1) = abS ou k + 1 := by simp [abS, h19]
        refine x_iconst G (1) dM_working_26 (by decide) ?_
        refine x_iadd G dM_working_27 ?_
        refine x_top (z := nI (abS ou (k + 1))) (by rw [e]; exact nI_add _ _) ?_
        refine x_istore_n G 1 dM_working_28 rfl (by decide) ?_
        refine x_iinc G (nI (k + 1)) dM_working_29 rfl (nI_1 k) (by decide) ?_
        refine x_goto G 4 dM_working_32 (by decide) ?_
        exact ih (k + 1) (by omega)
      · rw [h5, bI_ne0] at h19
        have e : abS ou (k + 1) = abS ou k + 0 := by simp [abS, h19]
        refine x_iconst G (0) dM_working_22 (by decide) ?_
        refine x_goto G 27 dM_working_23 (by decide) ?_
        refine x_iadd G dM_working_27 ?_
        refine x_top (z := nI (abS ou (k + 1))) (by rw [e]; exact nI_add _ _) ?_
        refine x_istore_n G 1 dM_working_28 rfl (by decide) ?_
        refine x_iinc G (nI (k + 1)) dM_working_29 rfl (nI_1 k) (by decide) ?_
        refine x_goto G 4 dM_working_32 (by decide) ?_
        exact ih (k + 1) (by omega)
  refine x_iconst G (0) dM_working_0 (by decide) ?_
  refine x_istore_n G 1 dM_working_1 rfl (by decide) ?_
  refine x_iconst G (0) dM_working_2 (by decide) ?_
  refine x_istore_n G 2 dM_working_3 rfl (by decide) ?_
  exact loop C 0 (by omega)
/-- the next sharing of all cranes stands, or there is none -/
def NXM (σ u : xSg) (bz : Nat → Bool) (n C : Nat) (xs : List Nat) (r : Int32) : Prop := match nxtL C xs with
  | none => r = 0 ∧ u = σ
  | some ys => r = 1 ∧ ys.length = xs.length ∧ (∀ b, b < n → u 6 b = aI (sprB bz ys b)) ∧ ∀ q, q ≠ 6 → u q = σ q
theorem aI_lt0 {a : Nat} : aI a < 0 ↔ ¬ a < 4 := by
  by_cases h : a < 4
  · rw [aI_t h]; exact ⟨fun q => absurd q (nI_pos (by omega)), fun q => absurd h q⟩
  · rw [aI_f h]; exact ⟨fun _ => h, fun _ => by decide⟩
theorem aI_ge0 {a : Nat} : 0 ≤ aI a ↔ a < 4 := by
  by_cases h : a < 4
  · rw [aI_t h]; exact ⟨fun _ => h, fun _ => nI_pos' (by omega)⟩
  · rw [aI_f h]; exact ⟨fun q => absurd q (by decide), fun q => absurd q h⟩
theorem spr_lt {bz : Nat → Bool} {xs : List Nat} {n C b : Nat} (hl : xs.length = cntB bz n) (hx : ∀ i, i < xs.length → gDn xs i < C) (hb : b < n) (hz : bz b = true) : sprB bz xs b < C := by
  unfold sprB; rw [if_pos hz]; exact hx _ (by rw [hl]; exact (cntB_lt hz).mpr hb)
theorem go_step {b0 b x P Q : Nat} (h : ¬ x = b) : (if b0 ≤ x ∧ x < b then P else Q) = (if b0 ≤ x ∧ x < b + 1 then P else Q) := by
  split <;> split <;> first | rfl | omega
theorem bI_fa {P Q : Prop} [Decidable (P ∧ Q)] (h : ¬ P) : (0 : Int32) = bI (P ∧ Q) := (bI_f (fun q => h q.1)).symm
theorem bI_fb {P Q : Prop} [Decidable (P ∧ Q)] (h : ¬ Q) : (0 : Int32) = bI (P ∧ Q) := (bI_f (fun q => h q.2)).symm
theorem bI_tt {P Q : Prop} [Decidable (P ∧ Q)] (h : P) (h2 : Q) : (1 : Int32) = bI (P ∧ Q) := (bI_t ⟨h, h2⟩).symm
theorem spr_no {bz : Nat → Bool} {xs : List Nat} {b : Nat} (hz : ¬ bz b = true) : sprB bz xs b = 9 := by unfold sprB; rw [if_neg hz]
set_option maxHeartbeats 4000000 in
set_option maxRecDepth 100000 in
theorem cM_goesOn {l : Launch} {D : va_G} {cI cZ cJ : ClassId} {ad : Nat → Nat} {σ : xSg} {n C g s : Nat} {hh ww mo mi : Nat → Nat} {ou : Nat → Bool} (hP : PM σ n C g s hh ww mo mi ou) {bz : Nat → Bool} {xs : List Nat} (hlx : xs.length = cntB bz n) (hx : ∀ i, i < xs.length → gDn xs i < C) (ht : ∀ b, b < n → σ 6 b = aI (sprB bz xs b)) : xCi l D vCl (tyC cI cZ cJ) nwW (wM ad cI cZ cJ) yM_goesOn (.code yM_goesOn bM_goesOn 3 (some .boolean) :: bigW) 0 [.ref (ad 0)] σ (fun r u => NXM σ u bz n C xs r) := by
  refine xCi.of (cc := bM_goesOn) (nL := 3) (ret := (some .boolean)) rfl (by decide) [.ref (ad 0), .null, .null] rfl (Nat.le_of_ble_eq_true rfl) ?_
  intro pp ee ss mm aa bb me cde AA G hr hlk
  obtain ⟨hn8, hC1, hC4, hg3, hs20, hn, hC, hg, hs, hbw, hrt, hbb, hb0, hbd⟩ := id hP
  have inner : ∀ (b0 : Nat), lastB bz (sprB bz xs) C n = some b0 → ∀ (i b : Nat), b + i = n → b0 ≤ b → ∀ (σ1 : xSg), (∀ x, x < n → σ1 6 x = aI (if bz x = true then (if b0 ≤ x ∧ x < b then sprB bz xs b0 + 1 else sprB bz xs x) else 9)) → (∀ q, q ≠ 6 → σ1 q = σ q) → xJ pp l ee { frames := 0, cells := 0, slots := 0, locals := 40 * 0 } ss mm aa bb me cde 0 0 (MQ bb (va_Qi (fun r u => NXM σ u bz n C xs r) (fun u t => va_P D vCl (wM ad cI cZ cJ u) t.heap ∧ va_D AA (wM ad cI cZ cJ u)) AA) aa ss 0 0 AA) D vCl AA 3 (va_S AA ss.heap) (wM ad cI cZ cJ σ1) [.ref (ad 0), .int (nI b), .int (nI (sprB bz xs b0 + 1))] 56 [] := by
    intro b0 hb0 i
    obtain ⟨q1, q2, q3⟩ := lastB_some hb0
    induction i with
    | zero =>
      intro b hb hbb' σ1 g1 g2
      have e0 : σ1 0 = σ 0 := g2 0 (by omega)
      have hb : b = n := by omega
      subst hb
      refine x_iload_n G 1 dM_goesOn_56 rfl rfl ?_
      refine x_aload_n G 0 dM_goesOn_57 rfl rfl ?_
      refine x_get G 0 rfl rfl 3 (by decide) rfl (fun w h => .tail _ (iM_ok w h)) (.tail _ wd_598) rfl dM_goesOn_58 ?_
      refine x_icmp_ge G 90 dM_goesOn_61 (by decide) (fun h61 => ?_) (fun h61 => (by rw [e0, hn] at h61; exact absurd (nI_le (Nat.le_refl _) (by omega)) h61))
      refine x_iconst G (1) dM_goesOn_90 (by decide) ?_
      exact x_reti G hr hlk rfl dM_goesOn_91 (by obtain ⟨ys, y1, y2, y3⟩ := nxtL_some hlx hb0; unfold NXM; rw [y1]; refine ⟨rfl, y2, fun x hx => ?_, g2⟩; rw [g1 x hx, y3 x hx]; congr 1; by_cases hz : bz x = true; (· rw [if_pos hz, if_pos hz]; by_cases hq : x < b0; (· rw [if_pos hq, if_neg (by omega)]); (· rw [if_neg hq, if_pos (by omega)])); (· rw [if_neg hz, if_neg hz]))
    | succ i ih =>
      intro b hb hbb' σ1 g1 g2
      have e0 : σ1 0 = σ 0 := g2 0 (by omega)
      have h6 := g1 b (by omega)
      rw [if_neg (show ¬ (b0 ≤ b ∧ b < b) by omega)] at h6
      refine x_iload_n G 1 dM_goesOn_56 rfl rfl ?_
      refine x_aload_n G 0 dM_goesOn_57 rfl rfl ?_
      refine x_get G 0 rfl rfl 3 (by decide) rfl (fun w h => .tail _ (iM_ok w h)) (.tail _ wd_598) rfl dM_goesOn_58 ?_
      refine x_icmp_ge G 90 dM_goesOn_61 (by decide) (fun h61 => (by rw [e0, hn] at h61; exact absurd h61 (nI_ge (by omega) (by omega)))) (fun h61 => ?_)
      refine x_aload_n G 0 dM_goesOn_64 rfl rfl ?_
      refine x_get G 0 rfl rfl 11 (by decide) rfl (fun w h => .tail _ (iM_ok w h)) (.tail _ wd_606) rfl dM_goesOn_65 ?_
      refine x_iload_n G 1 dM_goesOn_68 rfl rfl ?_
      refine x_aload_n G 0 dM_goesOn_69 rfl rfl ?_
      refine x_get G 0 rfl rfl 11 (by decide) rfl (fun w h => .tail _ (iM_ok w h)) (.tail _ wd_606) rfl dM_goesOn_70 ?_
      refine x_iload_n G 1 dM_goesOn_73 rfl rfl ?_
      refine x_ialdN G 6 0 rfl rfl (by omega) (by decide) dM_goesOn_74 ?_
      refine x_if_ge G 82 dM_goesOn_75 (by decide) (fun h75 => ?_) (fun h75 => ?_)
      · rw [h6, aI_ge0] at h75
        have hz : bz b = true := by by_cases hz : bz b = true; (· exact hz); (· rw [if_neg hz] at h75; omega)
        refine x_iload_n G 2 dM_goesOn_82 rfl rfl ?_
        refine x_iastN G 6 0 rfl rfl marr_6 (by omega) (by decide) dM_goesOn_83 ?_
        refine x_iinc G (nI (b + 1)) dM_goesOn_84 rfl (nI_1 b) (by decide) ?_
        refine x_goto G 56 dM_goesOn_87 (by decide) ?_
        exact ih (b + 1) (by omega) (by omega) _ (fun x hx => by by_cases e : x = b; (· rw [e, sst_same]; rw [if_pos hz, if_pos (by omega)]; exact (aI_t (by omega)).symm); (· rw [sst_i e, g1 x hx]; rw [go_step e])) (fun q hq => by rw [sst_ne hq]; exact g2 q hq)
      · rw [h6, aI_ge0] at h75
        have hz : ¬ bz b = true := fun hz => h75 (by rw [if_pos hz]; have := spr_lt hlx hx (show b < n by omega) hz; omega)
        refine x_iconst G (-1) dM_goesOn_78 (by decide) ?_
        refine x_goto G 83 dM_goesOn_79 (by decide) ?_
        refine x_iastN G 6 0 rfl rfl marr_6 (by omega) (by decide) dM_goesOn_83 ?_
        refine x_iinc G (nI (b + 1)) dM_goesOn_84 rfl (nI_1 b) (by decide) ?_
        refine x_goto G 56 dM_goesOn_87 (by decide) ?_
        exact ih (b + 1) (by omega) (by omega) _ (fun x hx => by by_cases e : x = b; (· rw [e, sst_same]; rw [if_neg hz]; rfl); (· rw [sst_i e, g1 x hx]; rw [go_step e])) (fun q hq => by rw [sst_ne hq]; exact g2 q hq)
  have loop : ∀ (j : Nat), j ≤ n → lastB bz (sprB bz xs) C n = lastB bz (sprB bz xs) C j → ∀ (z2 : Value), xJ pp l ee { frames := 0, cells := 0, slots := 0, locals := 40 * 0 } ss mm aa bb me cde 0 0 (MQ bb (va_Qi (fun r u => NXM σ u bz n C xs r) (fun u t => va_P D vCl (wM ad cI cZ cJ u) t.heap ∧ va_D AA (wM ad cI cZ cJ u)) AA) aa ss 0 0 AA) D vCl AA 3 (va_S AA ss.heap) (wM ad cI cZ cJ σ) [.ref (ad 0), .int (mIJ j), z2] 7 [] := by
    intro j
    induction j with
    | zero =>
      intro hj he z2
      refine x_iload_n G 1 dM_goesOn_7 rfl rfl ?_
      refine x_if_lt G 41 dM_goesOn_8 (by decide) (fun h8 => ?_) (fun h8 => (by exact absurd (by decide) h8))
      refine x_iload_n G 1 dM_goesOn_41 rfl rfl ?_
      refine x_if_ge G 47 dM_goesOn_42 (by decide) (fun h42 => (by exact absurd h42 (by decide))) (fun h42 => ?_)
      refine x_iconst G (0) dM_goesOn_45 (by decide) ?_
      exact x_reti G hr hlk rfl dM_goesOn_46 (by unfold NXM; rw [nxtL_none hlx (by rw [he]; rfl)]; exact ⟨rfl, rfl⟩)
    | succ j ih =>
      intro hj he z2
      have h6 := ht j (by omega)
      refine x_eq rfl (vs2 := [.ref (ad 0), .int (nI j), z2]) (by rw [mIJ_s]) rfl rfl ?_
      refine x_iload_n G 1 dM_goesOn_7 rfl rfl ?_
      refine x_if_lt G 41 dM_goesOn_8 (by decide) (fun h8 => (by exact absurd h8 (nI_pos (by omega)))) (fun h8 => ?_)
      refine x_aload_n G 0 dM_goesOn_11 rfl rfl ?_
      refine x_get G 0 rfl rfl 11 (by decide) rfl (fun w h => .tail _ (iM_ok w h)) (.tail _ wd_606) rfl dM_goesOn_12 ?_
      refine x_iload_n G 1 dM_goesOn_15 rfl rfl ?_
      refine x_ialdN G 6 0 rfl rfl (by omega) (by decide) dM_goesOn_16 ?_
      refine x_if_lt G 35 dM_goesOn_17 (by decide) (fun h17 => ?_) (fun h17 => ?_)
      · rw [h6, aI_lt0] at h17
        have hz : ¬ (bz j = true ∧ sprB bz xs j + 1 < C) := fun q => h17 (by have := spr_lt hlx hx (show j < n by omega) q.1; omega)
        refine x_iinc G (mIJ j) dM_goesOn_35 rfl (mIJ_next (by omega)) (by decide) ?_
        refine x_goto G 7 dM_goesOn_38 (by decide) ?_
        exact ih (by omega) (by rw [he, lastB, if_neg hz]) z2
      · rw [h6, aI_lt0, Decidable.not_not] at h17
        have hzj : bz j = true := by by_cases hz : bz j = true; (· exact hz); (· rw [spr_no hz] at h17; omega)
        have hsl := spr_lt hlx hx (show j < n by omega) hzj
        refine x_aload_n G 0 dM_goesOn_20 rfl rfl ?_
        refine x_get G 0 rfl rfl 11 (by decide) rfl (fun w h => .tail _ (iM_ok w h)) (.tail _ wd_606) rfl dM_goesOn_21 ?_
        refine x_iload_n G 1 dM_goesOn_24 rfl rfl ?_
        refine x_ialdN G 6 0 rfl rfl (by omega) (by decide) dM_goesOn_25 ?_
        refine x_aload_n G 0 dM_goesOn_26 rfl rfl ?_
        refine x_get G 0 rfl rfl 1 (by decide) rfl (fun w h => .tail _ (iM_ok w h)) (.tail _ wd_596) rfl dM_goesOn_27 ?_
        refine x_iconst G (1) dM_goesOn_30 (by decide) ?_
        refine x_isub G dM_goesOn_31 ?_
        refine x_icmp_ne G 41 dM_goesOn_32 (by decide) (fun h32 => ?_) (fun h32 => ?_)
        · have h32 : ¬ sprB bz xs j = C - 1 := by rw [h6, aI_t (by omega), hC, nI_pred' hC1, nI_eq (by omega) (by omega)] at h32; exact h32
          have hlb : lastB bz (sprB bz xs) C n = some j := by rw [he, lastB, if_pos ⟨hzj, by omega⟩]
          refine x_iload_n G 1 dM_goesOn_41 rfl rfl ?_
          refine x_if_ge G 47 dM_goesOn_42 (by decide) (fun h42 => ?_) (fun h42 => (by exact absurd (nI_pos' (by omega)) h42))
          refine x_aload_n G 0 dM_goesOn_47 rfl rfl ?_
          refine x_get G 0 rfl rfl 11 (by decide) rfl (fun w h => .tail _ (iM_ok w h)) (.tail _ wd_606) rfl dM_goesOn_48 ?_
          refine x_iload_n G 1 dM_goesOn_51 rfl rfl ?_
          refine x_ialdN G 6 0 rfl rfl (by omega) (by decide) dM_goesOn_52 ?_
          refine x_iconst G (1) dM_goesOn_53 (by decide) ?_
          refine x_iadd G dM_goesOn_54 ?_
          refine x_top (z := nI (sprB bz xs j + 1)) (by rw [h6, aI_t (by omega)]; exact nI_1 _) ?_
          refine x_istore_n G 2 dM_goesOn_55 rfl (by decide) ?_
          exact inner j hlb (n - j) j (by omega) (Nat.le_refl j) σ (fun x hx => by rw [ht x hx]; congr 1; by_cases hz : bz x = true; (· rw [if_pos hz, if_neg (by omega)]); (· rw [if_neg hz, spr_no hz])) (fun q _ => rfl)
        · have h32 : sprB bz xs j = C - 1 := by rw [h6, aI_t (by omega), hC, nI_pred' hC1, nI_eq (by omega) (by omega)] at h32; exact h32
          have hz : ¬ (bz j = true ∧ sprB bz xs j + 1 < C) := fun q => by omega
          refine x_iinc G (mIJ j) dM_goesOn_35 rfl (mIJ_next (by omega)) (by decide) ?_
          refine x_goto G 7 dM_goesOn_38 (by decide) ?_
          exact ih (by omega) (by rw [he, lastB, if_neg hz]) z2
  refine x_aload_n G 0 dM_goesOn_0 rfl rfl ?_
  refine x_get G 0 rfl rfl 3 (by decide) rfl (fun w h => .tail _ (iM_ok w h)) (.tail _ wd_598) rfl dM_goesOn_1 ?_
  refine x_iconst G (1) dM_goesOn_4 (by decide) ?_
  refine x_isub G dM_goesOn_5 ?_
  refine x_top (z := mIJ n) (by rw [hn]; exact mIJ_sub (by omega)) ?_
  refine x_istore_n G 1 dM_goesOn_6 rfl (by decide) ?_
  exact loop n (Nat.le_refl _) rfl .null
/-- no bay below k has a crane that is out -/
def alw (A : Nat → Nat) (ou : Nat → Bool) : Nat → Bool
  | 0 => true
  | k + 1 => alw A ou k && (!decide (A k < 4) || !ou (A k))
set_option maxHeartbeats 4000000 in
set_option maxRecDepth 100000 in
theorem cM_isAllowed {l : Launch} {D : va_G} {cI cZ cJ : ClassId} {ad : Nat → Nat} {σ : xSg} {n C g s : Nat} {hh ww mo mi : Nat → Nat} {ou : Nat → Bool} (hP : PM σ n C g s hh ww mo mi ou) {A : Nat → Nat} (hT : TR σ A n C) : xCi l D vCl (tyC cI cZ cJ) nwW (wM ad cI cZ cJ) yM_isAllowed (.code yM_isAllowed bM_isAllowed 3 (some .boolean) :: bigW) 1 [.ref (ad 0)] σ (fun r u => r = bI (alw A ou n = true ∧ (apA A 8 g 4).2 = true) ∧ (alw A ou n = true → FL u A C) ∧ SO σ u) := by
  refine xCi.of (cc := bM_isAllowed) (nL := 3) (ret := (some .boolean)) rfl (by decide) [.ref (ad 0), .null, .null] rfl (Nat.le_of_ble_eq_true rfl) ?_
  intro pp ee ss mm aa bb me cde AA G hr hlk
  obtain ⟨hn8, hC1, hC4, hg3, hs20, hn, hC, hg, hs, hbw, hrt, hbb, hb0, hbd⟩ := id hP
  have loop : ∀ (j k : Nat), k + j = n → xJ pp l ee { frames := 1, cells := 0, slots := 0, locals := 40 * 1 } ss mm aa bb me cde 0 0 (MQ bb (va_Qi (fun r u => r = bI (alw A ou n = true ∧ (apA A 8 g 4).2 = true) ∧ (alw A ou n = true → FL u A C) ∧ SO σ u) (fun u t => va_P D vCl (wM ad cI cZ cJ u) t.heap ∧ va_D AA (wM ad cI cZ cJ u)) AA) aa ss 0 0 AA) D vCl AA 3 (va_S AA ss.heap) (wM ad cI cZ cJ σ) [.ref (ad 0), .int (bI (alw A ou k = true)), .int (nI k)] 4 [] := by
    intro j
    induction j with
    | zero =>
      intro k hk
      have hk : k = n := by omega
      subst hk
      refine x_iload_n G 2 dM_isAllowed_4 rfl rfl ?_
      refine x_aload_n G 0 dM_isAllowed_5 rfl rfl ?_
      refine x_get G 0 rfl rfl 3 (by decide) rfl (fun w h => .tail _ (iM_ok w h)) (.tail _ wd_598) rfl dM_isAllowed_6 ?_
      refine x_icmp_ge G 64 dM_isAllowed_9 (by decide) (fun h9 => ?_) (fun h9 => (by rw [hn] at h9; exact absurd (nI_le (Nat.le_refl _) (by omega)) h9))
      refine x_iload_n G 1 dM_isAllowed_64 rfl rfl ?_
      refine x_if_eq G 79 dM_isAllowed_65 (by decide) (fun h65 => ?_) (fun h65 => ?_)
      · have h65 := bI_eq0.mp h65
        refine x_iconst G (0) dM_isAllowed_79 (by decide) ?_
        exact x_reti G hr hlk rfl dM_isAllowed_80 (by first | exact ⟨bI_fa h65, fun q => absurd q h65, fun _ _ _ => rfl⟩ | exact ⟨bI_tt h65 h72, fun _ => hF, hO⟩ | exact ⟨bI_fb h72, fun _ => hF, hO⟩)
      · have h65 := bI_ne0.mp h65
        refine x_aload_n G 0 dM_isAllowed_68 rfl rfl ?_
        refine x_callV0i G (cM_spans hP hT) 0 rfl rfl (cV G.2.2.2.2.1 wd_688 wd_690 wd_39 wd_55 wd_691 (by decide +kernel) ⟨(Nat.le_of_ble_eq_true rfl), (Nat.le_of_ble_eq_true rfl)⟩) dM_isAllowed_69 (Nat.le_of_ble_eq_true rfl) ⟨Nat.zero_le _, Nat.zero_le _⟩ (fun r69 u69 e69 => ?_)
        obtain ⟨rfl, hF, hO⟩ := e69
        refine x_if_eq G 79 dM_isAllowed_72 (by decide) (fun h72 => ?_) (fun h72 => ?_)
        · have h72 := bI_eq0.mp h72
          refine x_iconst G (0) dM_isAllowed_79 (by decide) ?_
          exact x_reti G hr hlk rfl dM_isAllowed_80 (by first | exact ⟨bI_fa h65, fun q => absurd q h65, fun _ _ _ => rfl⟩ | exact ⟨bI_tt h65 h72, fun _ => hF, hO⟩ | exact ⟨bI_fb h72, fun _ => hF, hO⟩)
        · have h72 := bI_ne0.mp h72
          refine x_iconst G (1) dM_isAllowed_75 (by decide) ?_
          refine x_goto G 80 dM_isAllowed_76 (by decide) ?_
          exact x_reti G hr hlk rfl dM_isAllowed_80 (by first | exact ⟨bI_fa h65, fun q => absurd q h65, fun _ _ _ => rfl⟩ | exact ⟨bI_tt h65 h72, fun _ => hF, hO⟩ | exact ⟨bI_fb h72, fun _ => hF, hO⟩)
    | succ j ih =>
      intro k hk
      have h6 := hT.1 k (by omega)
      have j57 : ∀ (v : Int32), v = bI (alw A ou (k + 1) = true) → xJ pp l ee { frames := 1, cells := 0, slots := 0, locals := 40 * 1 } ss mm aa bb me cde 0 0 (MQ bb (va_Qi (fun r u => r = bI (alw A ou n = true ∧ (apA A 8 g 4).2 = true) ∧ (alw A ou n = true → FL u A C) ∧ SO σ u) (fun u t => va_P D vCl (wM ad cI cZ cJ u) t.heap ∧ va_D AA (wM ad cI cZ cJ u)) AA) aa ss 0 0 AA) D vCl AA 3 (va_S AA ss.heap) (wM ad cI cZ cJ σ) [.ref (ad 0), .int (bI (alw A ou k = true)), .int (nI k)] 57 [.int v] := by
        intro v hv
        subst hv
        refine x_istore_n G 1 dM_isAllowed_57 rfl (by decide) ?_
        refine x_iinc G (nI (k + 1)) dM_isAllowed_58 rfl (nI_1 k) (by decide) ?_
        refine x_goto G 4 dM_isAllowed_61 (by decide) ?_
        exact ih (k + 1) (by omega)
      refine x_iload_n G 2 dM_isAllowed_4 rfl rfl ?_
      refine x_aload_n G 0 dM_isAllowed_5 rfl rfl ?_
      refine x_get G 0 rfl rfl 3 (by decide) rfl (fun w h => .tail _ (iM_ok w h)) (.tail _ wd_598) rfl dM_isAllowed_6 ?_
      refine x_icmp_ge G 64 dM_isAllowed_9 (by decide) (fun h9 => (by rw [hn] at h9; exact absurd h9 (nI_ge (by omega) (by omega)))) (fun h9 => ?_)
      refine x_iload_n G 1 dM_isAllowed_12 rfl rfl ?_
      refine x_if_eq G 56 dM_isAllowed_13 (by decide) (fun h13 => ?_) (fun h13 => ?_)
      · have h13 := bI_eq0.mp h13
        have hv : (0 : Int32) = bI (alw A ou (k + 1) = true) := by rw [bI_f (by simp [alw]; intro q; exact absurd q h13)]
        refine x_iconst G (0) dM_isAllowed_56 (by decide) ?_
        exact j57 _ hv
      · have h13 := bI_ne0.mp h13
        refine x_aload_n G 0 dM_isAllowed_16 rfl rfl ?_
        refine x_get G 0 rfl rfl 11 (by decide) rfl (fun w h => .tail _ (iM_ok w h)) (.tail _ wd_606) rfl dM_isAllowed_17 ?_
        refine x_iload_n G 2 dM_isAllowed_20 rfl rfl ?_
        refine x_ialdN G 6 0 rfl rfl (by omega) (by decide) dM_isAllowed_21 ?_
        refine x_if_lt G 52 dM_isAllowed_22 (by decide) (fun h22 => ?_) (fun h22 => ?_)
        · rw [h6, aI_lt0] at h22
          have hv : (1 : Int32) = bI (alw A ou (k + 1) = true) := by rw [bI_t (by simp [alw, h13, h22])]
          refine x_iconst G (1) dM_isAllowed_52 (by decide) ?_
          refine x_goto G 57 dM_isAllowed_53 (by decide) ?_
          exact j57 _ hv
        · rw [h6, aI_lt0, Decidable.not_not] at h22
          have hAC := hT.2.2 k h22
          refine x_aload_n G 0 dM_isAllowed_25 rfl rfl ?_
          refine x_get G 0 rfl rfl 8 (by decide) rfl (fun w h => .tail _ (iM_ok w h)) (.tail _ wd_603) rfl dM_isAllowed_26 ?_
          refine x_aload_n G 0 dM_isAllowed_29 rfl rfl ?_
          refine x_get G 0 rfl rfl 11 (by decide) rfl (fun w h => .tail _ (iM_ok w h)) (.tail _ wd_606) rfl dM_isAllowed_30 ?_
          refine x_iload_n G 2 dM_isAllowed_33 rfl rfl ?_
          refine x_ialdN G 6 0 rfl rfl (by omega) (by decide) dM_isAllowed_34 ?_
          refine x_if_ge G 42 dM_isAllowed_35 (by decide) (fun h35 => ?_) (fun h35 => (by rw [h6] at h35; exact absurd (aI_ge0.mpr h22) h35))
          refine x_aload_n G 0 dM_isAllowed_42 rfl rfl ?_
          refine x_get G 0 rfl rfl 11 (by decide) rfl (fun w h => .tail _ (iM_ok w h)) (.tail _ wd_606) rfl dM_isAllowed_43 ?_
          refine x_iload_n G 2 dM_isAllowed_46 rfl rfl ?_
          refine x_ialdN G 6 0 rfl rfl (by omega) (by decide) dM_isAllowed_47 ?_
          refine x_top (z := nI (A k)) (by rw [h6, aI_t h22]) ?_
          refine x_zaldN G 5 1 rfl rfl (by omega) (by decide) dM_isAllowed_48 ?_
          refine x_if_ne G 56 dM_isAllowed_49 (by decide) (fun h49 => ?_) (fun h49 => ?_)
          · have h49 : ou (A k) = true := bI_ne0.mp (by rw [← (hrt (A k) (by omega)).2.2]; exact h49)
            have hv : (0 : Int32) = bI (alw A ou (k + 1) = true) := by rw [bI_f (by simp [alw, h22, h49])]
            refine x_iconst G (0) dM_isAllowed_56 (by decide) ?_
            exact j57 _ hv
          · have h49 : ¬ ou (A k) = true := bI_eq0.mp (by rw [← (hrt (A k) (by omega)).2.2]; exact h49)
            have hv : (1 : Int32) = bI (alw A ou (k + 1) = true) := by rw [bI_t (by simp [alw, h13, h22, h49])]
            refine x_iconst G (1) dM_isAllowed_52 (by decide) ?_
            refine x_goto G 57 dM_isAllowed_53 (by decide) ?_
            exact j57 _ hv
  refine x_iconst G (1) dM_isAllowed_0 (by decide) ?_
  refine x_istore_n G 1 dM_isAllowed_1 rfl (by decide) ?_
  refine x_iconst G (0) dM_isAllowed_2 (by decide) ?_
  refine x_istore_n G 2 dM_isAllowed_3 rfl (by decide) ?_
  exact x_eq rfl (by rw [show (bI (alw A ou 0 = true)) = 1 from rfl]; rfl) rfl rfl (loop n 0 (by omega))
