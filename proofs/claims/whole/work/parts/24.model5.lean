/-! THE REFERENCE: works, where, look -/
theorem sub_nI {t : Int32} {a : Nat} (ha : a < 2 ^ 31) (h : (a : Int) ≤ t.toInt) : (t - nI a).toInt = t.toInt - a := by
  rw [Int32.toInt_sub, nI_toInt ha]
  have := Int32.toInt_lt t
  exact Int.bmod_eq_of_le (by omega) (by omega)
/-- the reference holds a plan: the sharing A -/
def PLA (σ : xSg) (A : Nat → Nat) (n C g : Nat) : Prop := (∀ b, b < n → σ 7 b = aI (A b)) ∧ (∀ b, n ≤ b → ¬ A b < 4) ∧ (∀ b, A b < 4 → A b < C) ∧ (apA A 8 g 4).2 = true
/-- what a reading call leaves as it was -/
def LU (σ u : xSg) : Prop := (∀ q, (1 ≤ q ∧ q < 6) ∨ q = 7 → u q = σ q) ∧ ∀ i, i ≠ 0 → u 0 i = σ 0 i
theorem LU.thr {σ : xSg} {v : Int32} : LU σ (sst σ 0 0 v) := ⟨fun q hq => sst_ne (by omega), fun i hi => sst_i hi⟩
theorem LU.lo {σ u v : xSg} (h : LU σ u) (h2 : LO u v) : LU σ v := ⟨fun q hq => (h2 q (by omega)).trans (h.1 q hq), fun i hi => by rw [h2 0 (by omega)]; exact h.2 i hi⟩
theorem LU.PM {σ u : xSg} {n C g s : Nat} {hh ww mo mi : Nat → Nat} {ou : Nat → Bool} (h : LU σ u) (hP : PM σ n C g s hh ww mo mi ou) : PM u n C g s hh ww mo mi ou := hP.of ⟨h.2 3 (by omega), h.2 1 (by omega), h.2 2 (by omega), h.2 9 (by omega)⟩ (h.1 1 (by omega)) (h.1 2 (by omega)) (h.1 3 (by omega)) (h.1 4 (by omega)) (h.1 5 (by omega))
theorem LU.pla {σ u : xSg} {A : Nat → Nat} {n C g : Nat} (h : LU σ u) (hA : PLA σ A n C g) : PLA u A n C g := by unfold PLA; rw [h.1 7 (by omega)]; exact hA
def tW (C : Nat) (pl : Bool) (v : Int32) : Int32 := if ¬ v < 0 ∧ ¬ nI C ≤ v then (if pl = true then 0 else 2) else 1
def tH (C : Nat) (pl : Bool) (v t : Int32) : Int32 := if (¬ v < 0 ∧ ¬ nI C ≤ v) ∧ ¬ t < 0 then (if pl = true then 0 else 2) else 1
def tLk (n : Nat) (b w : Int32) : Int32 := if (¬ b < 0 ∧ ¬ nI n ≤ b) ∧ (¬ w < 0 ∧ ¬ 2 < w) then 0 else 1
theorem wkA_s {A bg en : Nat → Nat} {c : Nat} {t : Int} {k : Nat} (hk : k < 8) : wkA A bg en c t (8 - k) = if A k = c ∧ (bg k : Int) ≤ t ∧ t < (en k : Int) then some k else wkA A bg en c t (8 - (k + 1)) := by
  rw [show 8 - k = (7 - k) + 1 by omega, wkA, show 7 - (7 - k) = k by omega, show 8 - (k + 1) = 7 - k by omega]
theorem wkA_no {A bg en : Nat → Nat} {c : Nat} {t : Int} : ∀ {j : Nat}, j ≤ 8 → (∀ b, 8 - j ≤ b → A b ≠ c) → wkA A bg en c t j = none
  | 0, _, _ => rfl
  | j + 1, hj, h => by
    rw [wkA, if_neg (fun q => h (7 - j) (by omega) q.1)]
    exact wkA_no (by omega) (fun b hb => h b (by omega))
/-- the come times of a crane that has bays -/
theorem CM.at {σ : xSg} {A mv mo mi : Nat → Nat} {g s C b : Nat} (h : CM σ A mv mo mi g s C 0) (hb : b < 8) (hA : A b < C) : σ 8 (8 * A b + b) = nI (cmA A mv mo mi 8 g s (A b) b) := by
  cases hf : fstA A (A b) 8 with
  | none => exact absurd rfl (fstA_none.mp hf b hb)
  | some f =>
    obtain ⟨x, h1, h2, h3, h4⟩ := lst_of_fst hf
    refine h (A b) f x (by omega) hA hf h1 b ?_
    obtain ⟨-, -, q⟩ := lstA_some h1
    rcases Nat.lt_or_ge x b with z | z
    · exact absurd rfl (q b z hb)
    · exact z
theorem PM.cm {σ : xSg} {n C g s : Nat} {hh ww mo mi : Nat → Nat} {ou : Nat → Bool} (h : PM σ n C g s hh ww mo mi ou) {A : Nat → Nat} {c b : Nat} (hc : c < 4) (hb : b < 8) : cmA A (mvF hh ww) mo mi 8 g s c b ≤ 675540 := by
  have hmv := h.mv
  obtain ⟨hn8, hC1, hC4, hg3, hs20, hn, hC, hg, hs, hbw, hrt, hbb, hb0, hbd⟩ := h
  exact cmA_le hmv (fun c _ => (hbd c).2.2.2) (fun c _ => (hbd c).1) hg3 hs20 hc hb
theorem PM.tk {σ : xSg} {n C g s : Nat} {hh ww mo mi : Nat → Nat} {ou : Nat → Bool} (h : PM σ n C g s hh ww mo mi ou) (c b : Nat) : tkA (mvF hh ww) mo mi c b ≤ 25000 := by
  have hmv := h.mv
  obtain ⟨hn8, hC1, hC4, hg3, hs20, hn, hC, hg, hs, hbw, hrt, hbb, hb0, hbd⟩ := h
  exact tkA_le (hmv b) (hbd c).2.2.2 (hbd c).1
set_option maxHeartbeats 4000000 in
set_option maxRecDepth 100000 in
theorem cM_works {l : Launch} {D : va_G} {cI cZ cJ : ClassId} {ad : Nat → Nat} {σ : xSg} {n C g s : Nat} {hh ww mo mi : Nat → Nat} {ou : Nat → Bool} (hP : PM σ n C g s hh ww mo mi ou) {pl : Bool} {A : Nat → Nat} (hpl : σ 0 10 = bI (pl = true)) (hA : pl = true → PLA σ A n C g) {v t : Int32} : xCi l D vCl (tyC cI cZ cJ) nwW (wM ad cI cZ cJ) yM_works (.code yM_works bM_works 5 (some .int) :: bigW) 4 [.ref (ad 0), .int v, .int t] σ (fun r u => u 0 0 = tW C pl v ∧ LU σ u ∧ (tW C pl v = 0 → ∃ c, v = nI c ∧ c < C ∧ r = oI (wkA A (fun b => cmA A (mvF hh ww) mo mi 8 g s (A b) b) (enA A (mvF hh ww) mo mi g s) c t.toInt 8))) := by
  refine xCi.of (cc := bM_works) (nL := 5) (ret := (some .int)) rfl (by decide) [.ref (ad 0), .int v, .int t, .null, .null] rfl (Nat.le_of_ble_eq_true rfl) ?_
  intro pp ee ss mm aa bb me cde AA G hr hlk
  obtain ⟨hn8, hC1, hC4, hg3, hs20, hn, hC, hg, hs, hbw, hrt, hbb, hb0, hbd⟩ := id hP
  refine x_aload_n G 0 dM_works_0 rfl rfl ?_
  refine x_aload_n G 0 dM_works_1 rfl rfl ?_
  refine x_iload_n G 1 dM_works_2 rfl rfl ?_
  refine x_call0V1i G cM_isCrane 0 rfl rfl (cV G.2.2.2.2.1 wd_663 wd_665 wd_35 wd_55 wd_666 (by decide +kernel) ⟨(Nat.le_of_ble_eq_true rfl), (Nat.le_of_ble_eq_true rfl)⟩) dM_works_3 (Nat.le_of_ble_eq_true rfl) ⟨Nat.zero_le _, Nat.zero_le _⟩ (fun r3 e3 => ?_)
  subst e3
  refine x_if_ne G 13 dM_works_6 (by decide) (fun h6 => ?_) (fun h6 => ?_)
  · have h6 := bI_ne0.mp h6
    refine x_aload_n G 0 dM_works_13 rfl rfl ?_
    refine x_get G 0 rfl rfl 10 (by decide) rfl (fun w h => .tail _ (iM_ok w h)) (.tail _ wd_605) rfl dM_works_14 ?_
    refine x_if_ne G 24 dM_works_17 (by decide) (fun h17 => ?_) (fun h17 => ?_)
    · refine x_iconst G (0) dM_works_24 (by decide) ?_
      have hk : tW C pl v = 0 := by unfold tW; rw [if_pos (hC ▸ h6), if_pos (by cases pl with | true => rfl | false => rw [hpl] at h17; exact absurd rfl h17)]
      refine x_put G 0 rfl rfl 0 (by decide) (Nat.le_of_ble_eq_true rfl) mput_0_0 (fun w h => .tail _ (iM_ok w h)) tM_ok nM_ok (.tail _ wd_595) rfl rfl (tM_ok 0 (by decide)) rfl rfl dM_works_25 ?_
      refine x_aload_n G 0 dM_works_28 rfl rfl ?_
      refine x_get G 0 rfl rfl 0 (by decide) rfl (fun w h => .tail _ (iM_ok w h)) (.tail _ wd_595) rfl dM_works_29 ?_
      refine x_if_le G 37 dM_works_32 (by decide) (fun h32 => ?_) (fun h32 => (by exact absurd (by rw [sst_same]; decide) h32))
      have hp : pl = true := by cases pl with | true => rfl | false => rw [hpl] at h17; exact absurd rfl h17
      obtain ⟨c, rfl, hc⟩ := cr_ex rfl hC4 (show ¬ v < 0 ∧ ¬ nI C ≤ v from hC ▸ h6)
      have hc4 : c < 4 := by omega
      refine x_aload_n G 0 dM_works_37 rfl rfl ?_
      refine x_callV0i G (cM_lays (LU.thr.PM hP) (LU.thr.pla (hA hp)).1 (hA hp).2.1 (hA hp).2.2.1 (hA hp).2.2.2) 0 rfl rfl (cV G.2.2.2.2.1 wd_716 wd_718 wd_45 wd_55 wd_719 (by decide +kernel) ⟨(Nat.le_of_ble_eq_true rfl), (Nat.le_of_ble_eq_true rfl)⟩) dM_works_38 (Nat.le_of_ble_eq_true rfl) ⟨Nat.zero_le _, Nat.zero_le _⟩ (fun r38 u38 e38 => ?_)
      obtain ⟨σ3, hz⟩ : ∃ z, z = u38 := ⟨_, rfl⟩
      subst hz
      obtain ⟨rfl, hT, hF, hCM, hLO⟩ := e38
      have hLU : LU σ σ3 := LU.thr.lo hLO
      have hP3 := hLU.PM hP
      obtain ⟨-, hA1, hA2, hok⟩ := hA hp
      have e0 : σ3 0 3 = nI n := by rw [hLU.2 3 (by omega)]; exact hn
      have hej := hP.ej A 0
      have hth : σ3 0 0 = 0 := by rw [hLO 0 (by omega)]; exact sst_same
      refine x_istore_n G 3 dM_works_41 rfl (by decide) ?_
      have loop : ∀ (j k : Nat), k + j = n → wkA A (fun b => cmA A (mvF hh ww) mo mi 8 g s (A b) b) (enA A (mvF hh ww) mo mi g s) c t.toInt 8 = wkA A (fun b => cmA A (mvF hh ww) mo mi 8 g s (A b) b) (enA A (mvF hh ww) mo mi g s) c t.toInt (8 - k) → xJ pp l ee { frames := 4, cells := 0, slots := 0, locals := 40 * 4 } ss mm aa bb me cde 0 0 (MQ bb (va_Qi (fun r u => u 0 0 = tW C pl (nI c) ∧ LU σ u ∧ (tW C pl (nI c) = 0 → ∃ c', nI c = nI c' ∧ c' < C ∧ r = oI (wkA A (fun b => cmA A (mvF hh ww) mo mi 8 g s (A b) b) (enA A (mvF hh ww) mo mi g s) c' t.toInt 8))) (fun u t => va_P D vCl (wM ad cI cZ cJ u) t.heap ∧ va_D AA (wM ad cI cZ cJ u)) AA) aa ss 0 0 AA) D vCl AA 5 (va_S AA ss.heap) (wM ad cI cZ cJ σ3) [.ref (ad 0), .int (nI c), .int t, .int (nI (EJ A (mvF hh ww) mo mi g s 0)), .int (nI k)] 45 [] := by
        intro j
        induction j with
        | zero =>
          intro k hkn hw
          have hkn : k = n := by omega
          subst hkn
          refine x_iload G dM_works_45 rfl ?_
          refine x_aload_n G 0 dM_works_47 rfl rfl ?_
          refine x_get G 0 rfl rfl 3 (by decide) rfl (fun w h => .tail _ (iM_ok w h)) (.tail _ wd_598) rfl dM_works_48 ?_
          refine x_icmp_ge G 120 dM_works_51 (by decide) (fun h51 => ?_) (fun h51 => (by rw [e0] at h51; exact absurd (nI_le (Nat.le_refl _) (by omega)) h51))
          refine x_iconst G (-1) dM_works_120 (by decide) ?_
          exact x_reti G hr hlk rfl dM_works_121 ⟨by rw [hk]; exact hth, hLU, fun _ => ⟨c, rfl, hc, by rw [hw, wkA_no (by omega) (fun b hb q => hA1 b (by omega) (by rw [q]; exact hc4))]; rfl⟩⟩
        | succ j ih =>
          intro k hkn hw
          have hk8 : k < 8 := by omega
          have h6 := hT.1 k (by omega)
          have hcm := hP.cm (A := A) hc4 hk8
          have htk := hP.tk c k
          rw [wkA_s hk8] at hw
          refine x_iload G dM_works_45 rfl ?_
          refine x_aload_n G 0 dM_works_47 rfl rfl ?_
          refine x_get G 0 rfl rfl 3 (by decide) rfl (fun w h => .tail _ (iM_ok w h)) (.tail _ wd_598) rfl dM_works_48 ?_
          refine x_icmp_ge G 120 dM_works_51 (by decide) (fun h51 => (by rw [e0] at h51; exact absurd h51 (nI_ge (by omega) (by omega)))) (fun h51 => ?_)
          refine x_iload_n G 3 dM_works_54 rfl rfl ?_
          refine x_ldc G 1000000000 dM_works_55 (by decide +kernel) ?_
          refine x_icmp_ge G 120 dM_works_57 (by decide) (fun h57 => (by rw [show (1000000000 : Int32) = nI 1000000000 from rfl, nI_leI (by omega) (by omega)] at h57; omega)) (fun h57 => ?_)
          refine x_aload_n G 0 dM_works_60 rfl rfl ?_
          refine x_get G 0 rfl rfl 11 (by decide) rfl (fun w h => .tail _ (iM_ok w h)) (.tail _ wd_606) rfl dM_works_61 ?_
          refine x_iload G dM_works_64 rfl ?_
          refine x_ialdN G 6 0 rfl rfl (by omega) (by decide) dM_works_66 ?_
          refine x_iload_n G 1 dM_works_67 rfl rfl ?_
          refine x_icmp_ne G 114 dM_works_68 (by decide) (fun h68 => ?_) (fun h68 => ?_)
          · have h68 : A k ≠ c := fun q => h68 (by rw [h6]; exact (aI_eq hc4).mpr q)
            have hno : ¬ (A k = c ∧ ((fun b => cmA A (mvF hh ww) mo mi 8 g s (A b) b) k : Int) ≤ t.toInt ∧ t.toInt < ((enA A (mvF hh ww) mo mi g s) k : Int)) := fun q => h68 q.1
            refine x_iinc G (nI (k + 1)) dM_works_114 rfl (nI_1 k) (by decide) ?_
            refine x_goto G 45 dM_works_117 (by decide) ?_
            exact ih (k + 1) (by omega) (by rw [hw, if_neg hno])
          · have h68 : A k = c := (aI_eq hc4).mp (by rw [← h6]; exact h68)
            have h8 : σ3 8 (8 * c + k) = nI (cmA A (mvF hh ww) mo mi 8 g s c k) := by have := hCM.at hk8 (by rw [h68]; exact hc); rw [h68] at this; exact this
            have hb' : (fun b => cmA A (mvF hh ww) mo mi 8 g s (A b) b) k = cmA A (mvF hh ww) mo mi 8 g s c k := by show cmA A _ _ _ _ _ _ (A k) k = _; rw [h68]
            have he' : (enA A (mvF hh ww) mo mi g s) k = cmA A (mvF hh ww) mo mi 8 g s c k + tkA (mvF hh ww) mo mi c k := by unfold enA; rw [h68]
            refine x_iload_n G 2 dM_works_71 rfl rfl ?_
            refine x_aload_n G 0 dM_works_72 rfl rfl ?_
            refine x_get G 0 rfl rfl 13 (by decide) rfl (fun w h => .tail _ (iM_ok w h)) (.tail _ wd_608) rfl dM_works_73 ?_
            refine x_bipush G (8) dM_works_76 (by decide) ?_
            refine x_iload_n G 1 dM_works_78 rfl rfl ?_
            refine x_imul G dM_works_79 ?_
            refine x_iload G dM_works_80 rfl ?_
            refine x_iadd G dM_works_82 ?_
            refine x_top (z := nI (8 * c + k)) (by show nI 8 * nI c + nI k = _; rw [pk_mul, nI_add]) ?_
            refine x_ialdN G 8 0 rfl rfl (by omega) (by decide) dM_works_83 ?_
            refine x_icmp_lt G 114 dM_works_84 (by decide) (fun h84 => ?_) (fun h84 => ?_)
            · rw [h8, i32_lt, nI_toInt (by omega)] at h84
              have hno : ¬ (A k = c ∧ ((fun b => cmA A (mvF hh ww) mo mi 8 g s (A b) b) k : Int) ≤ t.toInt ∧ t.toInt < ((enA A (mvF hh ww) mo mi g s) k : Int)) := fun q => by have := q.2.1; rw [hb'] at this; omega
              refine x_iinc G (nI (k + 1)) dM_works_114 rfl (nI_1 k) (by decide) ?_
              refine x_goto G 45 dM_works_117 (by decide) ?_
              exact ih (k + 1) (by omega) (by rw [hw, if_neg hno])
            · rw [h8, i32_lt, nI_toInt (by omega)] at h84
              refine x_iload_n G 2 dM_works_87 rfl rfl ?_
              refine x_aload_n G 0 dM_works_88 rfl rfl ?_
              refine x_get G 0 rfl rfl 13 (by decide) rfl (fun w h => .tail _ (iM_ok w h)) (.tail _ wd_608) rfl dM_works_89 ?_
              refine x_bipush G (8) dM_works_92 (by decide) ?_
              refine x_iload_n G 1 dM_works_94 rfl rfl ?_
              refine x_imul G dM_works_95 ?_
              refine x_iload G dM_works_96 rfl ?_
              refine x_iadd G dM_works_98 ?_
              refine x_top (z := nI (8 * c + k)) (by show nI 8 * nI c + nI k = _; rw [pk_mul, nI_add]) ?_
              refine x_ialdN G 8 0 rfl rfl (by omega) (by decide) dM_works_99 ?_
              refine x_isub G dM_works_100 ?_
              refine x_aload_n G 0 dM_works_101 rfl rfl ?_
              refine x_iload_n G 1 dM_works_102 rfl rfl ?_
              refine x_iload G dM_works_103 rfl ?_
              refine x_call0V2i G (cM_takes hP3 hc4 (show k < n by omega)) 0 rfl rfl (cV G.2.2.2.2.1 wd_696 wd_698 wd_41 wd_55 wd_699 (by decide +kernel) ⟨(Nat.le_of_ble_eq_true rfl), (Nat.le_of_ble_eq_true rfl)⟩) dM_works_105 (Nat.le_of_ble_eq_true rfl) ⟨Nat.zero_le _, Nat.zero_le _⟩ (fun r105 e105 => ?_)
              subst e105
              refine x_icmp_ge G 114 dM_works_108 (by decide) (fun h108 => ?_) (fun h108 => ?_)
              · rw [h8, i32_le, sub_nI (by omega) (by omega), nI_toInt (by omega)] at h108
                have hno : ¬ (A k = c ∧ ((fun b => cmA A (mvF hh ww) mo mi 8 g s (A b) b) k : Int) ≤ t.toInt ∧ t.toInt < ((enA A (mvF hh ww) mo mi g s) k : Int)) := fun q => by have := q.2.2; rw [he'] at this; omega
                refine x_iinc G (nI (k + 1)) dM_works_114 rfl (nI_1 k) (by decide) ?_
                refine x_goto G 45 dM_works_117 (by decide) ?_
                exact ih (k + 1) (by omega) (by rw [hw, if_neg hno])
              · rw [h8, i32_le, sub_nI (by omega) (by omega), nI_toInt (by omega)] at h108
                refine x_iload G dM_works_111 rfl ?_
                exact x_reti G hr hlk rfl dM_works_113 ⟨by rw [hk]; exact hth, hLU, fun _ => ⟨c, rfl, hc, by rw [hw, if_pos ⟨h68, by rw [h68]; omega, by rw [he']; omega⟩]; rfl⟩⟩
      refine x_iconst G (0) dM_works_42 (by decide) ?_
      refine x_istore G dM_works_43 (by decide) ?_
      exact loop n 0 (by omega) rfl
    · refine x_iconst G (2) dM_works_20 (by decide) ?_
      refine x_goto G 25 dM_works_21 (by decide) ?_
      have hk : tW C pl v = 2 := by unfold tW; rw [if_pos (hC ▸ h6), if_neg (fun q => by rw [hpl, bI_t q] at h17; exact absurd h17 (by decide))]
      refine x_put G 0 rfl rfl 0 (by decide) (Nat.le_of_ble_eq_true rfl) mput_0_0 (fun w h => .tail _ (iM_ok w h)) tM_ok nM_ok (.tail _ wd_595) rfl rfl (tM_ok 0 (by decide)) rfl rfl dM_works_25 ?_
      refine x_aload_n G 0 dM_works_28 rfl rfl ?_
      refine x_get G 0 rfl rfl 0 (by decide) rfl (fun w h => .tail _ (iM_ok w h)) (.tail _ wd_595) rfl dM_works_29 ?_
      refine x_if_le G 37 dM_works_32 (by decide) (fun h32 => (by rw [sst_same] at h32; exact absurd h32 (by decide))) (fun h32 => ?_)
      refine x_iconst G (0) dM_works_35 (by decide) ?_
      exact x_reti G hr hlk rfl dM_works_36 ⟨by rw [hk]; exact sst_same, LU.thr, fun q => absurd (hk.symm.trans q) (by decide)⟩
  · have h6 := bI_eq0.mp h6
    refine x_iconst G (1) dM_works_9 (by decide) ?_
    refine x_goto G 25 dM_works_10 (by decide) ?_
    have hk : tW C pl v = 1 := if_neg (hC ▸ h6)
    refine x_put G 0 rfl rfl 0 (by decide) (Nat.le_of_ble_eq_true rfl) mput_0_0 (fun w h => .tail _ (iM_ok w h)) tM_ok nM_ok (.tail _ wd_595) rfl rfl (tM_ok 0 (by decide)) rfl rfl dM_works_25 ?_
    refine x_aload_n G 0 dM_works_28 rfl rfl ?_
    refine x_get G 0 rfl rfl 0 (by decide) rfl (fun w h => .tail _ (iM_ok w h)) (.tail _ wd_595) rfl dM_works_29 ?_
    refine x_if_le G 37 dM_works_32 (by decide) (fun h32 => (by rw [sst_same] at h32; exact absurd h32 (by decide))) (fun h32 => ?_)
    refine x_iconst G (0) dM_works_35 (by decide) ?_
    exact x_reti G hr hlk rfl dM_works_36 ⟨by rw [hk]; exact sst_same, LU.thr, fun q => absurd (hk.symm.trans q) (by decide)⟩
/-- where a crane is at a time -/
def whA (A mv mo mi : Nat → Nat) (g s c t : Nat) : Int32 := match fstA A c 8 with
  | none => -1
  | some f => nI (ctA (cmA A mv mo mi 8 g s c) f t ((lstA A c 8).getD 0 + 1 - f))
theorem ctA_s {cm : Nat → Nat} {f t x b : Nat} (h0 : cm f = 0) (hfx : f ≤ x) : ctA cm f t (min (b + 1) (x + 1) - f) = if f < b ∧ b ≤ x ∧ cm b ≤ t then b else ctA cm f t (min b (x + 1) - f) := by
  by_cases h1 : f < b ∧ b ≤ x
  · rw [show min (b + 1) (x + 1) - f = (b - f) + 1 by omega, ctA, show f + (b - f) = b by omega, show min b (x + 1) - f = b - f by omega]
    by_cases h2 : cm b ≤ t
    · rw [if_pos h2, if_pos ⟨h1.1, h1.2, h2⟩]
    · rw [if_neg h2, if_neg (fun q => h2 q.2.2)]
  · rw [if_neg (fun q => h1 ⟨q.1, q.2.1⟩)]
    rcases (show b < f ∨ b = f ∨ x < b by omega) with z | z | z
    · rw [show min (b + 1) (x + 1) - f = 0 by omega, show min b (x + 1) - f = 0 by omega]
    · rw [show min (b + 1) (x + 1) - f = 0 + 1 by omega, show min b (x + 1) - f = 0 by omega]; show (if cm (f + 0) ≤ t then f + 0 else ctA cm f t 0) = f; split <;> rfl
    · rw [show min (b + 1) (x + 1) - f = min b (x + 1) - f by omega]
theorem ctA_le {cm : Nat → Nat} {f t : Nat} : ∀ (k : Nat), ctA cm f t k ≤ f + k
  | 0 => Nat.le_refl _
  | k + 1 => by
    have := ctA_le (cm := cm) (f := f) (t := t) k
    unfold ctA; split <;> omega
theorem i32_nlt {a b : Int32} (h : b ≤ a) : ¬ a < b := by rw [i32_lt]; rw [i32_le] at h; omega
set_option maxHeartbeats 4000000 in
set_option maxRecDepth 100000 in
theorem cM_where {l : Launch} {D : va_G} {cI cZ cJ : ClassId} {ad : Nat → Nat} {σ : xSg} {n C g s : Nat} {hh ww mo mi : Nat → Nat} {ou : Nat → Bool} (hP : PM σ n C g s hh ww mo mi ou) {pl : Bool} {A : Nat → Nat} (hpl : σ 0 10 = bI (pl = true)) (hA : pl = true → PLA σ A n C g) {v t : Int32} : xCi l D vCl (tyC cI cZ cJ) nwW (wM ad cI cZ cJ) yM_where (.code yM_where bM_where 6 (some .int) :: bigW) 4 [.ref (ad 0), .int v, .int t] σ (fun r u => u 0 0 = tH C pl v t ∧ LU σ u ∧ (tH C pl v t = 0 → ∃ c t', v = nI c ∧ c < C ∧ t = nI t' ∧ t' < 2 ^ 31 ∧ r = whA A (mvF hh ww) mo mi g s c t')) := by
  refine xCi.of (cc := bM_where) (nL := 6) (ret := (some .int)) rfl (by decide) [.ref (ad 0), .int v, .int t, .null, .null, .null] rfl (Nat.le_of_ble_eq_true rfl) ?_
  intro pp ee ss mm aa bb me cde AA G hr hlk
  obtain ⟨hn8, hC1, hC4, hg3, hs20, hn, hC, hg, hs, hbw, hrt, hbb, hb0, hbd⟩ := id hP
  refine x_aload_n G 0 dM_where_0 rfl rfl ?_
  refine x_aload_n G 0 dM_where_1 rfl rfl ?_
  refine x_iload_n G 1 dM_where_2 rfl rfl ?_
  refine x_call0V1i G cM_isCrane 0 rfl rfl (cV G.2.2.2.2.1 wd_663 wd_665 wd_35 wd_55 wd_666 (by decide +kernel) ⟨(Nat.le_of_ble_eq_true rfl), (Nat.le_of_ble_eq_true rfl)⟩) dM_where_3 (Nat.le_of_ble_eq_true rfl) ⟨Nat.zero_le _, Nat.zero_le _⟩ (fun r3 e3 => ?_)
  subst e3
  refine x_if_eq G 13 dM_where_6 (by decide) (fun h6 => ?_) (fun h6 => ?_)
  · have h6 := bI_eq0.mp h6
    refine x_iconst G (1) dM_where_13 (by decide) ?_
    refine x_goto G 29 dM_where_14 (by decide) ?_
    have hk : tH C pl v t = 1 := if_neg (fun q => h6 (hC ▸ q.1))
    refine x_put G 0 rfl rfl 0 (by decide) (Nat.le_of_ble_eq_true rfl) mput_0_0 (fun w h => .tail _ (iM_ok w h)) tM_ok nM_ok (.tail _ wd_595) rfl rfl (tM_ok 0 (by decide)) rfl rfl dM_where_29 ?_
    refine x_aload_n G 0 dM_where_32 rfl rfl ?_
    refine x_get G 0 rfl rfl 0 (by decide) rfl (fun w h => .tail _ (iM_ok w h)) (.tail _ wd_595) rfl dM_where_33 ?_
    refine x_if_le G 41 dM_where_36 (by decide) (fun h36 => (by rw [sst_same] at h36; exact absurd h36 (by decide))) (fun h36 => ?_)
    refine x_iconst G (0) dM_where_39 (by decide) ?_
    exact x_reti G hr hlk rfl dM_where_40 ⟨by rw [hk]; exact sst_same, LU.thr, fun q => absurd (hk.symm.trans q) (by decide)⟩
  · have h6 := bI_ne0.mp h6
    refine x_iload_n G 2 dM_where_9 rfl rfl ?_
    refine x_if_ge G 17 dM_where_10 (by decide) (fun h10 => ?_) (fun h10 => ?_)
    · refine x_aload_n G 0 dM_where_17 rfl rfl ?_
      refine x_get G 0 rfl rfl 10 (by decide) rfl (fun w h => .tail _ (iM_ok w h)) (.tail _ wd_605) rfl dM_where_18 ?_
      refine x_if_ne G 28 dM_where_21 (by decide) (fun h21 => ?_) (fun h21 => ?_)
      · refine x_iconst G (0) dM_where_28 (by decide) ?_
        have hk : tH C pl v t = 0 := by unfold tH; rw [if_pos (⟨hC ▸ h6, i32_nlt h10⟩ : (¬ v < 0 ∧ ¬ nI C ≤ v) ∧ ¬ t < 0), if_pos (by cases pl with | true => rfl | false => rw [hpl] at h21; exact absurd rfl h21)]
        refine x_put G 0 rfl rfl 0 (by decide) (Nat.le_of_ble_eq_true rfl) mput_0_0 (fun w h => .tail _ (iM_ok w h)) tM_ok nM_ok (.tail _ wd_595) rfl rfl (tM_ok 0 (by decide)) rfl rfl dM_where_29 ?_
        refine x_aload_n G 0 dM_where_32 rfl rfl ?_
        refine x_get G 0 rfl rfl 0 (by decide) rfl (fun w h => .tail _ (iM_ok w h)) (.tail _ wd_595) rfl dM_where_33 ?_
        refine x_if_le G 41 dM_where_36 (by decide) (fun h36 => ?_) (fun h36 => (by exact absurd (by rw [sst_same]; decide) h36))
        have hp : pl = true := by cases pl with | true => rfl | false => rw [hpl] at h21; exact absurd rfl h21
        obtain ⟨c, rfl, hc⟩ := cr_ex rfl hC4 (show ¬ v < 0 ∧ ¬ nI C ≤ v from hC ▸ h6)
        have hc4 : c < 4 := by omega
        obtain ⟨t', ht', rfl⟩ := nI_of (i32_nlt h10)
        refine x_aload_n G 0 dM_where_41 rfl rfl ?_
        refine x_callV0i G (cM_lays (LU.thr.PM hP) (LU.thr.pla (hA hp)).1 (hA hp).2.1 (hA hp).2.2.1 (hA hp).2.2.2) 0 rfl rfl (cV G.2.2.2.2.1 wd_716 wd_718 wd_45 wd_55 wd_719 (by decide +kernel) ⟨(Nat.le_of_ble_eq_true rfl), (Nat.le_of_ble_eq_true rfl)⟩) dM_where_42 (Nat.le_of_ble_eq_true rfl) ⟨Nat.zero_le _, Nat.zero_le _⟩ (fun r42 u42 e42 => ?_)
        obtain ⟨σ3, hz⟩ : ∃ z, z = u42 := ⟨_, rfl⟩
        subst hz
        obtain ⟨rfl, hT, hF, hCM, hLO⟩ := e42
        have hLU : LU σ σ3 := LU.thr.lo hLO
        have hP3 := hLU.PM hP
        obtain ⟨-, hA1, hA2, hok⟩ := hA hp
        have e0 : σ3 0 3 = nI n := by rw [hLU.2 3 (by omega)]; exact hn
        have hej := hP.ej A 0
        have hth : σ3 0 0 = 0 := by rw [hLO 0 (by omega)]; exact sst_same
        refine x_istore_n G 3 dM_where_45 rfl (by decide) ?_
        have loop : ∀ (f x : Nat), fstA A c 8 = some f → lstA A c 8 = some x → f ≤ x → x < n → σ3 9 c = nI f → σ3 10 c = nI x → ∀ (j k : Nat), k + j = n → xJ pp l ee { frames := 4, cells := 0, slots := 0, locals := 40 * 4 } ss mm aa bb me cde 0 0 (MQ bb (va_Qi (fun r u => u 0 0 = tH C pl (nI c) (nI t') ∧ LU σ u ∧ (tH C pl (nI c) (nI t') = 0 → ∃ c1 t1, nI c = nI c1 ∧ c1 < C ∧ nI t' = nI t1 ∧ t1 < 2 ^ 31 ∧ r = whA A (mvF hh ww) mo mi g s c1 t1)) (fun u t => va_P D vCl (wM ad cI cZ cJ u) t.heap ∧ va_D AA (wM ad cI cZ cJ u)) AA) aa ss 0 0 AA) D vCl AA 6 (va_S AA ss.heap) (wM ad cI cZ cJ σ3) [.ref (ad 0), .int (nI c), .int (nI t'), .int (nI (EJ A (mvF hh ww) mo mi g s 0)), .int (nI (ctA (cmA A (mvF hh ww) mo mi 8 g s c) f t' (min k (x + 1) - f))), .int (nI k)] 67 [] := by
          intro f x hf hx hfx hxn h9 h10 j
          have hc0 : cmA A (mvF hh ww) mo mi 8 g s c f = 0 := cm_low hf (Nat.le_refl f)
          induction j with
          | zero =>
            intro k hkn
            have hkn : k = n := by omega
            subst hkn
            refine x_iload G dM_where_67 rfl ?_
            refine x_aload_n G 0 dM_where_69 rfl rfl ?_
            refine x_get G 0 rfl rfl 3 (by decide) rfl (fun w h => .tail _ (iM_ok w h)) (.tail _ wd_598) rfl dM_where_70 ?_
            refine x_icmp_ge G 134 dM_where_73 (by decide) (fun h73 => ?_) (fun h73 => (by rw [e0] at h73; exact absurd (nI_le (Nat.le_refl _) (by omega)) h73))
            refine x_iload G dM_where_134 rfl ?_
            exact x_reti G hr hlk rfl dM_where_136 ⟨by rw [hk]; exact hth, hLU, fun _ => ⟨c, t', rfl, hc, rfl, ht', by unfold whA; rw [hf, hx]; show nI _ = nI (ctA _ f t' (x + 1 - f)); rw [show min k (x + 1) = x + 1 by omega]⟩⟩
          | succ j ih =>
            intro k hkn
            have hk8 : k < 8 := by omega
            have hcm := hP.cm (A := A) hc4 hk8
            have hcl := ctA_le (cm := cmA A (mvF hh ww) mo mi 8 g s c) (f := f) (t := t') (min k (x + 1) - f)
            have es := ctA_s (b := k) (t := t') hc0 hfx
            refine x_iload G dM_where_67 rfl ?_
            refine x_aload_n G 0 dM_where_69 rfl rfl ?_
            refine x_get G 0 rfl rfl 3 (by decide) rfl (fun w h => .tail _ (iM_ok w h)) (.tail _ wd_598) rfl dM_where_70 ?_
            refine x_icmp_ge G 134 dM_where_73 (by decide) (fun h73 => (by rw [e0] at h73; exact absurd h73 (nI_ge (by omega) (by omega)))) (fun h73 => ?_)
            refine x_iload G dM_where_76 rfl ?_
            refine x_if_lt G 134 dM_where_78 (by decide) (fun h78 => (by exact absurd h78 (nI_pos (by omega)))) (fun h78 => ?_)
            refine x_iload G dM_where_81 rfl ?_
            refine x_aload_n G 0 dM_where_83 rfl rfl ?_
            refine x_get G 0 rfl rfl 14 (by decide) rfl (fun w h => .tail _ (iM_ok w h)) (.tail _ wd_609) rfl dM_where_84 ?_
            refine x_iload_n G 1 dM_where_87 rfl rfl ?_
            refine x_ialdN G 9 0 rfl rfl (by omega) (by decide) dM_where_88 ?_
            refine x_icmp_le G 124 dM_where_89 (by decide) (fun h89 => ?_) (fun h89 => ?_)
            · rw [h9, nI_leI (by omega) (by omega)] at h89
              rw [if_neg (by omega)] at es
              refine x_iload G dM_where_124 rfl ?_
              refine x_istore G dM_where_126 (by decide) ?_
              refine x_iinc G (nI (k + 1)) dM_where_128 rfl (nI_1 k) (by decide) ?_
              refine x_goto G 67 dM_where_131 (by decide) ?_
              exact x_eq rfl (by rw [es]; rfl) rfl rfl (ih (k + 1) (by omega))
            · rw [h9, nI_leI (by omega) (by omega)] at h89
              refine x_iload G dM_where_92 rfl ?_
              refine x_aload_n G 0 dM_where_94 rfl rfl ?_
              refine x_get G 0 rfl rfl 15 (by decide) rfl (fun w h => .tail _ (iM_ok w h)) (.tail _ wd_610) rfl dM_where_95 ?_
              refine x_iload_n G 1 dM_where_98 rfl rfl ?_
              refine x_ialdN G 10 0 rfl rfl (by omega) (by decide) dM_where_99 ?_
              refine x_icmp_gt G 124 dM_where_100 (by decide) (fun h100 => ?_) (fun h100 => ?_)
              · rw [h10, nI_ltI (by omega) (by omega)] at h100
                rw [if_neg (by omega)] at es
                refine x_iload G dM_where_124 rfl ?_
                refine x_istore G dM_where_126 (by decide) ?_
                refine x_iinc G (nI (k + 1)) dM_where_128 rfl (nI_1 k) (by decide) ?_
                refine x_goto G 67 dM_where_131 (by decide) ?_
                exact x_eq rfl (by rw [es]; rfl) rfl rfl (ih (k + 1) (by omega))
              · rw [h10, nI_ltI (by omega) (by omega)] at h100
                have h8 := hCM c f x (by omega) hc hf hx k (by omega)
                refine x_aload_n G 0 dM_where_103 rfl rfl ?_
                refine x_get G 0 rfl rfl 13 (by decide) rfl (fun w h => .tail _ (iM_ok w h)) (.tail _ wd_608) rfl dM_where_104 ?_
                refine x_bipush G (8) dM_where_107 (by decide) ?_
                refine x_iload_n G 1 dM_where_109 rfl rfl ?_
                refine x_imul G dM_where_110 ?_
                refine x_iload G dM_where_111 rfl ?_
                refine x_iadd G dM_where_113 ?_
                refine x_top (z := nI (8 * c + k)) (by show nI 8 * nI c + nI k = _; rw [pk_mul, nI_add]) ?_
                refine x_ialdN G 8 0 rfl rfl (by omega) (by decide) dM_where_114 ?_
                refine x_iload_n G 2 dM_where_115 rfl rfl ?_
                refine x_icmp_gt G 124 dM_where_116 (by decide) (fun h116 => ?_) (fun h116 => ?_)
                · rw [h8, nI_ltI (by omega) (by omega)] at h116
                  rw [if_neg (by omega)] at es
                  refine x_iload G dM_where_124 rfl ?_
                  refine x_istore G dM_where_126 (by decide) ?_
                  refine x_iinc G (nI (k + 1)) dM_where_128 rfl (nI_1 k) (by decide) ?_
                  refine x_goto G 67 dM_where_131 (by decide) ?_
                  exact x_eq rfl (by rw [es]; rfl) rfl rfl (ih (k + 1) (by omega))
                · rw [h8, nI_ltI (by omega) (by omega)] at h116
                  rw [if_pos (by omega)] at es
                  refine x_iload G dM_where_119 rfl ?_
                  refine x_goto G 126 dM_where_121 (by decide) ?_
                  refine x_istore G dM_where_126 (by decide) ?_
                  refine x_iinc G (nI (k + 1)) dM_where_128 rfl (nI_1 k) (by decide) ?_
                  refine x_goto G 67 dM_where_131 (by decide) ?_
                  exact x_eq rfl (by rw [es]; rfl) rfl rfl (ih (k + 1) (by omega))
        refine x_iload_n G 3 dM_where_46 rfl rfl ?_
        refine x_ldc G 1000000000 dM_where_47 (by decide +kernel) ?_
        refine x_icmp_ge G 61 dM_where_49 (by decide) (fun h49 => (by rw [show (1000000000 : Int32) = nI 1000000000 from rfl, nI_leI (by omega) (by omega)] at h49; omega)) (fun h49 => ?_)
        obtain ⟨h9, h10'⟩ := hF c hc
        cases hf : fstA A c 8 with
        | none =>
          rw [hf] at h9
          have h9 : σ3 9 c = -1 := h9
          refine x_aload_n G 0 dM_where_52 rfl rfl ?_
          refine x_get G 0 rfl rfl 14 (by decide) rfl (fun w h => .tail _ (iM_ok w h)) (.tail _ wd_609) rfl dM_where_53 ?_
          refine x_iload_n G 1 dM_where_56 rfl rfl ?_
          refine x_ialdN G 9 0 rfl rfl (by omega) (by decide) dM_where_57 ?_
          refine x_top h9 ?_
          refine x_goto G 62 dM_where_58 (by decide) ?_
          refine x_istore G dM_where_62 (by decide) ?_
          refine x_iconst G (0) dM_where_64 (by decide) ?_
          refine x_istore G dM_where_65 (by decide) ?_
          refine x_iload G dM_where_67 rfl ?_
          refine x_aload_n G 0 dM_where_69 rfl rfl ?_
          refine x_get G 0 rfl rfl 3 (by decide) rfl (fun w h => .tail _ (iM_ok w h)) (.tail _ wd_598) rfl dM_where_70 ?_
          refine x_icmp_ge G 134 dM_where_73 (by decide) (fun h73 => ?_) (fun h73 => ?_)
          · skip
            refine x_iload G dM_where_134 rfl ?_
            exact x_reti G hr hlk rfl dM_where_136 ⟨by rw [hk]; exact hth, hLU, fun _ => ⟨c, t', rfl, hc, rfl, ht', by unfold whA; rw [hf]⟩⟩
          · skip
            refine x_iload G dM_where_76 rfl ?_
            refine x_if_lt G 134 dM_where_78 (by decide) (fun h78 => ?_) (fun h78 => (by exact absurd (show (-1 : Int32) < 0 by decide) h78))
            refine x_iload G dM_where_134 rfl ?_
            exact x_reti G hr hlk rfl dM_where_136 ⟨by rw [hk]; exact hth, hLU, fun _ => ⟨c, t', rfl, hc, rfl, ht', by unfold whA; rw [hf]⟩⟩
        | some f =>
          rw [hf] at h9
          have h9 : σ3 9 c = nI f := h9
          obtain ⟨x, hx, hfx, hx8, hAx⟩ := lst_of_fst hf
          have h10 := h10' x hx
          have hxn : x < n := by rcases Nat.lt_or_ge x n with z | z; (· exact z); (· exact absurd (by rw [hAx]; exact hc4) (hA1 x z))
          refine x_aload_n G 0 dM_where_52 rfl rfl ?_
          refine x_get G 0 rfl rfl 14 (by decide) rfl (fun w h => .tail _ (iM_ok w h)) (.tail _ wd_609) rfl dM_where_53 ?_
          refine x_iload_n G 1 dM_where_56 rfl rfl ?_
          refine x_ialdN G 9 0 rfl rfl (by omega) (by decide) dM_where_57 ?_
          refine x_top h9 ?_
          refine x_goto G 62 dM_where_58 (by decide) ?_
          refine x_istore G dM_where_62 (by decide) ?_
          refine x_iconst G (0) dM_where_64 (by decide) ?_
          refine x_istore G dM_where_65 (by decide) ?_
          exact x_eq rfl (by rw [show (min 0 (x + 1) - f) = 0 by omega]; rfl) rfl rfl (loop f x hf hx hfx hxn h9 h10 n 0 (by omega))
      · refine x_iconst G (2) dM_where_24 (by decide) ?_
        refine x_goto G 29 dM_where_25 (by decide) ?_
        have hk : tH C pl v t = 2 := by unfold tH; rw [if_pos (⟨hC ▸ h6, i32_nlt h10⟩ : (¬ v < 0 ∧ ¬ nI C ≤ v) ∧ ¬ t < 0), if_neg (fun q => by rw [hpl, bI_t q] at h21; exact absurd h21 (by decide))]
        refine x_put G 0 rfl rfl 0 (by decide) (Nat.le_of_ble_eq_true rfl) mput_0_0 (fun w h => .tail _ (iM_ok w h)) tM_ok nM_ok (.tail _ wd_595) rfl rfl (tM_ok 0 (by decide)) rfl rfl dM_where_29 ?_
        refine x_aload_n G 0 dM_where_32 rfl rfl ?_
        refine x_get G 0 rfl rfl 0 (by decide) rfl (fun w h => .tail _ (iM_ok w h)) (.tail _ wd_595) rfl dM_where_33 ?_
        refine x_if_le G 41 dM_where_36 (by decide) (fun h36 => (by rw [sst_same] at h36; exact absurd h36 (by decide))) (fun h36 => ?_)
        refine x_iconst G (0) dM_where_39 (by decide) ?_
        exact x_reti G hr hlk rfl dM_where_40 ⟨by rw [hk]; exact sst_same, LU.thr, fun q => absurd (hk.symm.trans q) (by decide)⟩
    · refine x_iconst G (1) dM_where_13 (by decide) ?_
      refine x_goto G 29 dM_where_14 (by decide) ?_
      have hk : tH C pl v t = 1 := if_neg (fun q => h10 (by have := q.2; rw [i32_lt] at this; rw [i32_le]; omega))
      refine x_put G 0 rfl rfl 0 (by decide) (Nat.le_of_ble_eq_true rfl) mput_0_0 (fun w h => .tail _ (iM_ok w h)) tM_ok nM_ok (.tail _ wd_595) rfl rfl (tM_ok 0 (by decide)) rfl rfl dM_where_29 ?_
      refine x_aload_n G 0 dM_where_32 rfl rfl ?_
      refine x_get G 0 rfl rfl 0 (by decide) rfl (fun w h => .tail _ (iM_ok w h)) (.tail _ wd_595) rfl dM_where_33 ?_
      refine x_if_le G 41 dM_where_36 (by decide) (fun h36 => (by rw [sst_same] at h36; exact absurd h36 (by decide))) (fun h36 => ?_)
      refine x_iconst G (0) dM_where_39 (by decide) ?_
      exact x_reti G hr hlk rfl dM_where_40 ⟨by rw [hk]; exact sst_same, LU.thr, fun q => absurd (hk.symm.trans q) (by decide)⟩
set_option maxHeartbeats 4000000 in
set_option maxRecDepth 100000 in
theorem cM_look {l : Launch} {D : va_G} {cI cZ cJ : ClassId} {ad : Nat → Nat} {σ : xSg} {n C g s : Nat} {hh ww mo mi : Nat → Nat} {ou : Nat → Bool} (hP : PM σ n C g s hh ww mo mi ou) {pl : Bool} {A : Nat → Nat} (hpl : σ 0 10 = bI (pl = true)) (hA : pl = true → PLA σ A n C g) {v t : Int32} : xCi l D vCl (tyC cI cZ cJ) nwW (wM ad cI cZ cJ) yM_look (.code yM_look bM_look 3 (some .int) :: bigW) 1 [.ref (ad 0), .int v, .int t] σ (fun r u => u 0 0 = tLk n v t ∧ LU σ u ∧ (tLk n v t = 0 → ∃ b, v = nI b ∧ b < n ∧ r = if t = 0 then nI (hh b) else if t = 1 then nI (ww b) else if pl = true then aI (A b) else -1)) := by
  refine xCi.of (cc := bM_look) (nL := 3) (ret := (some .int)) rfl (by decide) [.ref (ad 0), .int v, .int t] rfl (Nat.le_of_ble_eq_true rfl) ?_
  intro pp ee ss mm aa bb me cde AA G hr hlk
  obtain ⟨hn8, hC1, hC4, hg3, hs20, hn, hC, hg, hs, hbw, hrt, hbb, hb0, hbd⟩ := id hP
  refine x_iload_n G 1 dM_look_0 rfl rfl ?_
  refine x_if_lt G 21 dM_look_1 (by decide) (fun h1 => ?_) (fun h1 => ?_)
  · have hk : tLk n v t = 1 := if_neg (fun q => q.1.1 h1)
    refine x_aload_n G 0 dM_look_21 rfl rfl ?_
    refine x_iconst G (1) dM_look_22 (by decide) ?_
    refine x_callV1i G cM_refuse 0 rfl rfl (cV G.2.2.2.2.1 wd_655 wd_657 wd_34 wd_55 wd_658 (by decide +kernel) ⟨(Nat.le_of_ble_eq_true rfl), (Nat.le_of_ble_eq_true rfl)⟩) dM_look_23 (Nat.le_of_ble_eq_true rfl) ⟨Nat.zero_le _, Nat.zero_le _⟩ (fun r23 u23 e23 => ?_)
    obtain ⟨e23r, e23u⟩ := e23; subst e23u; subst e23r
    exact x_reti G hr hlk rfl dM_look_26 ⟨by rw [hk]; exact sst_same, LU.thr, fun q => absurd (hk.symm.trans q) (by decide)⟩
  · refine x_iload_n G 1 dM_look_4 rfl rfl ?_
    refine x_aload_n G 0 dM_look_5 rfl rfl ?_
    refine x_get G 0 rfl rfl 3 (by decide) rfl (fun w h => .tail _ (iM_ok w h)) (.tail _ wd_598) rfl dM_look_6 ?_
    refine x_icmp_ge G 21 dM_look_9 (by decide) (fun h9 => ?_) (fun h9 => ?_)
    · rw [hn] at h9
      have hk : tLk n v t = 1 := if_neg (fun q => q.1.2 h9)
      refine x_aload_n G 0 dM_look_21 rfl rfl ?_
      refine x_iconst G (1) dM_look_22 (by decide) ?_
      refine x_callV1i G cM_refuse 0 rfl rfl (cV G.2.2.2.2.1 wd_655 wd_657 wd_34 wd_55 wd_658 (by decide +kernel) ⟨(Nat.le_of_ble_eq_true rfl), (Nat.le_of_ble_eq_true rfl)⟩) dM_look_23 (Nat.le_of_ble_eq_true rfl) ⟨Nat.zero_le _, Nat.zero_le _⟩ (fun r23 u23 e23 => ?_)
      obtain ⟨e23r, e23u⟩ := e23; subst e23u; subst e23r
      exact x_reti G hr hlk rfl dM_look_26 ⟨by rw [hk]; exact sst_same, LU.thr, fun q => absurd (hk.symm.trans q) (by decide)⟩
    · rw [hn] at h9
      refine x_iload_n G 2 dM_look_12 rfl rfl ?_
      refine x_iconst G (0) dM_look_13 (by decide) ?_
      refine x_iconst G (2) dM_look_14 (by decide) ?_
      refine x_call0S3i G cM_in (cS G.2.2.2.2.1 wd_652 wd_653 wd_55 wd_654 (by decide +kernel) ⟨(Nat.le_of_ble_eq_true rfl), (Nat.le_of_ble_eq_true rfl)⟩) dM_look_15 (Nat.le_of_ble_eq_true rfl) ⟨Nat.zero_le _, Nat.zero_le _⟩ (fun r15 e15 => ?_)
      subst e15
      refine x_if_ne G 27 dM_look_18 (by decide) (fun h18 => ?_) (fun h18 => ?_)
      · have h18 := bI_ne0.mp h18
        have hk : tLk n v t = 0 := if_pos ⟨⟨h1, h9⟩, h18⟩
        obtain ⟨b, hbj, rfl⟩ := nI_of h1
        have hb : b < n := by rw [nI_leI (by omega) hbj] at h9; omega
        obtain ⟨hb1, hb2⟩ := hbw b hb
        refine x_aload_n G 0 dM_look_27 rfl rfl ?_
        refine x_iconst G (0) dM_look_28 (by decide) ?_
        refine x_put G 0 rfl rfl 0 (by decide) (Nat.le_of_ble_eq_true rfl) mput_0_0 (fun w h => .tail _ (iM_ok w h)) tM_ok nM_ok (.tail _ wd_595) rfl rfl (tM_ok 0 (by decide)) rfl rfl dM_look_29 ?_
        refine x_iload_n G 2 dM_look_32 rfl rfl ?_
        refine x_if_ne G 45 dM_look_33 (by decide) (fun h33 => ?_) (fun h33 => ?_)
        · refine x_iload_n G 2 dM_look_45 rfl rfl ?_
          refine x_iconst G (1) dM_look_46 (by decide) ?_
          refine x_icmp_ne G 59 dM_look_47 (by decide) (fun h47 => ?_) (fun h47 => ?_)
          · refine x_aload_n G 0 dM_look_59 rfl rfl ?_
            refine x_get G 0 rfl rfl 10 (by decide) rfl (fun w h => .tail _ (iM_ok w h)) (.tail _ wd_605) rfl dM_look_60 ?_
            refine x_if_eq G 75 dM_look_63 (by decide) (fun h63 => ?_) (fun h63 => ?_)
            · have hp : ¬ pl = true := fun q => by rw [show sst σ 0 0 0 0 10 = σ 0 10 from sst_i (by omega), hpl, bI_t q] at h63; exact absurd h63 (by decide)
              refine x_iconst G (-1) dM_look_75 (by decide) ?_
              exact x_reti G hr hlk rfl dM_look_76 ⟨by rw [hk]; exact sst_same, LU.thr, fun _ => ⟨b, rfl, hb, by rw [if_neg h33, if_neg h47, if_neg hp]⟩⟩
            · have hp : pl = true := by cases pl with | true => rfl | false => exact absurd (by rw [show sst σ 0 0 0 0 10 = σ 0 10 from sst_i (by omega), hpl]; rfl) h63
              refine x_aload_n G 0 dM_look_66 rfl rfl ?_
              refine x_get G 0 rfl rfl 12 (by decide) rfl (fun w h => .tail _ (iM_ok w h)) (.tail _ wd_607) rfl dM_look_67 ?_
              refine x_iload_n G 1 dM_look_70 rfl rfl ?_
              refine x_ialdN G 7 0 rfl rfl (by omega) (by decide) dM_look_71 ?_
              refine x_goto G 76 dM_look_72 (by decide) ?_
              exact x_reti G hr hlk rfl dM_look_76 ⟨by rw [hk]; exact sst_same, LU.thr, fun _ => ⟨b, rfl, hb, by rw [if_neg h33, if_neg h47, if_pos hp, sst_ne (by omega)]; exact (hA hp).1 b hb⟩⟩
          · refine x_aload_n G 0 dM_look_50 rfl rfl ?_
            refine x_get G 0 rfl rfl 5 (by decide) rfl (fun w h => .tail _ (iM_ok w h)) (.tail _ wd_600) rfl dM_look_51 ?_
            refine x_iload_n G 1 dM_look_54 rfl rfl ?_
            refine x_ialdN G 2 0 rfl rfl (by omega) (by decide) dM_look_55 ?_
            refine x_goto G 76 dM_look_56 (by decide) ?_
            exact x_reti G hr hlk rfl dM_look_76 ⟨by rw [hk]; exact sst_same, LU.thr, fun _ => ⟨b, rfl, hb, by rw [if_neg h33, if_pos h47, sst_ne (by omega)]; exact hb2⟩⟩
        · refine x_aload_n G 0 dM_look_36 rfl rfl ?_
          refine x_get G 0 rfl rfl 4 (by decide) rfl (fun w h => .tail _ (iM_ok w h)) (.tail _ wd_599) rfl dM_look_37 ?_
          refine x_iload_n G 1 dM_look_40 rfl rfl ?_
          refine x_ialdN G 1 0 rfl rfl (by omega) (by decide) dM_look_41 ?_
          refine x_goto G 76 dM_look_42 (by decide) ?_
          exact x_reti G hr hlk rfl dM_look_76 ⟨by rw [hk]; exact sst_same, LU.thr, fun _ => ⟨b, rfl, hb, by rw [if_pos h33, sst_ne (by omega)]; exact hb1⟩⟩
      · have h18 := bI_eq0.mp h18
        have hk : tLk n v t = 1 := if_neg (fun q => h18 q.2)
        refine x_aload_n G 0 dM_look_21 rfl rfl ?_
        refine x_iconst G (1) dM_look_22 (by decide) ?_
        refine x_callV1i G cM_refuse 0 rfl rfl (cV G.2.2.2.2.1 wd_655 wd_657 wd_34 wd_55 wd_658 (by decide +kernel) ⟨(Nat.le_of_ble_eq_true rfl), (Nat.le_of_ble_eq_true rfl)⟩) dM_look_23 (Nat.le_of_ble_eq_true rfl) ⟨Nat.zero_le _, Nat.zero_le _⟩ (fun r23 u23 e23 => ?_)
        obtain ⟨e23r, e23u⟩ := e23; subst e23u; subst e23r
        exact x_reti G hr hlk rfl dM_look_26 ⟨by rw [hk]; exact sst_same, LU.thr, fun q => absurd (hk.symm.trans q) (by decide)⟩
