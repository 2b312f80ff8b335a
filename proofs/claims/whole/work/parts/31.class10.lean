/-! CranePlan: row, count, bound, fails -/
set_option maxHeartbeats 4000000 in
set_option maxRecDepth 100000 in
theorem tP_row1 {l : Launch} {D : va_G} {cI cZ cJ : ClassId} {ad : Nat → Nat} {σ : xSg} {v t : Int32} (hpl : σ 0 4 = 0) (htr : l.stackTraces = false) : xCT l D vCl (tyC cI cZ cJ) nwW (wC ad cI cZ cJ σ) yP_row (.code yP_row bP_row 3 (some .int) :: bigW) 6 [.ref (ad 0), .int v, .int t] "java/lang/IllegalStateException" := by
  refine xCT.of (cc := bP_row) (nL := 3) (ret := (some .int)) rfl (by decide) [.ref (ad 0), .int v, .int t] rfl (Nat.le_of_ble_eq_true rfl) ?_
  intro pp ee ss mm aa bb me cde AA G hr hlk hex hTH
  refine x_aload_n G 0 dP_row_0 rfl rfl ?_
  refine x_get G 0 rfl rfl 4 (by decide) rfl (fun w h => .tail _ (iP_ok w h)) (.tail _ wd_222) rfl dP_row_1 ?_
  refine x_if_ne G 17 dP_row_4 (by decide) (fun h4 => ?_) (fun h4 => ?_)
  · exact absurd hpl h4
  · exact x_throw G hTH htr hex hlk own_70 wd_449 wd_450 wd_60 (tx := "no plan") (by decide) dP_row_7 dP_row_10 dP_row_11 dP_row_13 dP_row_16 ⟨(Nat.le_of_ble_eq_true rfl), (Nat.le_of_ble_eq_true rfl), (Nat.le_of_ble_eq_true rfl), (Nat.le_of_ble_eq_true rfl)⟩
set_option maxHeartbeats 4000000 in
set_option maxRecDepth 100000 in
theorem tP_row2 {l : Launch} {D : va_G} {cI cZ cJ : ClassId} {ad : Nat → Nat} {σ : xSg} {v t : Int32} (hpl : ¬ σ 0 4 = 0) (hno : ¬ ((¬ v < 0 ∧ ¬ σ 3 9 - 1 < v) ∧ ¬ t < 0 ∧ ¬ (3 : Int32) < t)) (htr : l.stackTraces = false) : xCT l D vCl (tyC cI cZ cJ) nwW (wC ad cI cZ cJ σ) yP_row (.code yP_row bP_row 3 (some .int) :: bigW) 6 [.ref (ad 0), .int v, .int t] "java/lang/IndexOutOfBoundsException" := by
  refine xCT.of (cc := bP_row) (nL := 3) (ret := (some .int)) rfl (by decide) [.ref (ad 0), .int v, .int t] rfl (Nat.le_of_ble_eq_true rfl) ?_
  intro pp ee ss mm aa bb me cde AA G hr hlk hex hTH
  refine x_aload_n G 0 dP_row_0 rfl rfl ?_
  refine x_get G 0 rfl rfl 4 (by decide) rfl (fun w h => .tail _ (iP_ok w h)) (.tail _ wd_222) rfl dP_row_1 ?_
  refine x_if_ne G 17 dP_row_4 (by decide) (fun h4 => ?_) (fun h4 => ?_)
  · refine x_iload_n G 1 dP_row_17 rfl rfl ?_
    refine x_iconst G (0) dP_row_18 (by decide) ?_
    refine x_aload_n G 0 dP_row_19 rfl rfl ?_
    refine x_get G 0 rfl rfl 2 (by decide) rfl (fun w h => .tail _ (iP_ok w h)) (.tail _ wd_220) rfl dP_row_20 ?_
    refine x_getN G 3 rfl rfl 9 (by decide) rfl (fun w h => .tail _ (iT_ok w h)) nd_152 rfl dP_row_23 ?_
    refine x_iconst G (1) dP_row_26 (by decide) ?_
    refine x_isub G dP_row_27 ?_
    refine x_call0S3i G cP_within (cS G.2.2.2.2.1 wd_238 wd_239 wd_48 wd_240 (by decide +kernel) ⟨(Nat.le_of_ble_eq_true rfl), (Nat.le_of_ble_eq_true rfl)⟩) dP_row_28 (Nat.le_of_ble_eq_true rfl) ⟨Nat.zero_le _, Nat.zero_le _⟩ (fun r28 e28 => ?_)
    subst e28
    refine x_if_eq G 43 dP_row_31 (by decide) (fun h31 => ?_) (fun h31 => ?_)
    · have h31 := bI_eq0.mp h31
      exact x_throw G hTH htr hex hlk own_104 wd_509 wd_510 wd_63 (tx := "no such row, or nothing such of it") (by decide) dP_row_43 dP_row_46 dP_row_47 dP_row_49 dP_row_52 ⟨(Nat.le_of_ble_eq_true rfl), (Nat.le_of_ble_eq_true rfl), (Nat.le_of_ble_eq_true rfl), (Nat.le_of_ble_eq_true rfl)⟩
    · have h31 := bI_ne0.mp h31
      refine x_iload_n G 2 dP_row_34 rfl rfl ?_
      refine x_iconst G (0) dP_row_35 (by decide) ?_
      refine x_iconst G (3) dP_row_36 (by decide) ?_
      refine x_call0S3i G cP_within (cS G.2.2.2.2.1 wd_238 wd_239 wd_48 wd_240 (by decide +kernel) ⟨(Nat.le_of_ble_eq_true rfl), (Nat.le_of_ble_eq_true rfl)⟩) dP_row_37 (Nat.le_of_ble_eq_true rfl) ⟨Nat.zero_le _, Nat.zero_le _⟩ (fun r37 e37 => ?_)
      subst e37
      refine x_if_ne G 53 dP_row_40 (by decide) (fun h40 => ?_) (fun h40 => ?_)
      · have h40 := bI_ne0.mp h40
        exact (hno (⟨h31, h40⟩)).elim
      · have h40 := bI_eq0.mp h40
        exact x_throw G hTH htr hex hlk own_104 wd_509 wd_510 wd_63 (tx := "no such row, or nothing such of it") (by decide) dP_row_43 dP_row_46 dP_row_47 dP_row_49 dP_row_52 ⟨(Nat.le_of_ble_eq_true rfl), (Nat.le_of_ble_eq_true rfl), (Nat.le_of_ble_eq_true rfl), (Nat.le_of_ble_eq_true rfl)⟩
  · exact absurd h4 hpl
theorem rows_in {L i : Nat} (hi : i < L) (hL : L ≤ 8) : ¬ nI i < 0 ∧ ¬ nI L - 1 < nI i := by
  refine ⟨nI_pos (by omega), ?_⟩
  rw [show (1 : Int32) = nI 1 from rfl, pk_sub (by omega), nI_ltI (by omega) (by omega)]
  omega
theorem rows_out {L : Nat} {v : Int32} (hL : L ≤ 8) : (¬ v < 0 ∧ ¬ nI L - 1 < v) ↔ (¬ v < 0 ∧ ¬ nI L ≤ v) := by
  constructor
  · rintro ⟨h1, h2⟩
    refine ⟨h1, fun q => h2 ?_⟩
    obtain ⟨j, hj, rfl⟩ := nI_of h1
    rw [nI_leI (by omega) hj] at q
    rcases Nat.eq_zero_or_pos L with z | z
    · rw [z, i32_lt, show (nI 0 - 1).toInt = -1 by decide, nI_toInt hj]; omega
    · rw [show (1 : Int32) = nI 1 from rfl, pk_sub (by omega), nI_ltI (by omega) hj]; omega
  · rintro ⟨h1, h2⟩
    refine ⟨h1, fun q => h2 ?_⟩
    obtain ⟨j, hj, rfl⟩ := nI_of h1
    rw [nI_leI (by omega) hj]
    rcases Nat.eq_zero_or_pos L with z | z
    · omega
    · rw [show (1 : Int32) = nI 1 from rfl, pk_sub (by omega), nI_ltI (by omega) hj] at q; omega
theorem w4_cases {t : Int32} (h : ¬ t < 0 ∧ ¬ (3 : Int32) < t) : t = 0 ∨ t = 1 ∨ t = 2 ∨ t = 3 := by
  obtain ⟨j, hj, rfl⟩ := nI_of h.1
  have h2 := h.2
  rw [show (3 : Int32) = nI 3 from rfl, nI_ltI (by omega) hj] at h2
  rcases (show j = 0 ∨ j = 1 ∨ j = 2 ∨ j = 3 by omega) with rfl | rfl | rfl | rfl
  · exact Or.inl rfl
  · exact Or.inr (Or.inl rfl)
  · exact Or.inr (Or.inr (Or.inl rfl))
  · exact Or.inr (Or.inr (Or.inr rfl))
set_option maxHeartbeats 4000000 in
set_option maxRecDepth 100000 in
theorem cP_row {l : Launch} {D : va_G} {cI cZ cJ : ClassId} {ad : Nat → Nat} {σ : xSg} {n C g s : Nat} {hh ww mo mi : Nat → Nat} {ou : Nat → Bool} (hB : PB σ n hh ww) (hK : PK σ C mo mi ou) (hS : PS σ g s) {A : Nat → Nat} (hpl : σ 0 4 = 1) (hPN : PLN σ A (mvF hh ww) mo mi g s) (hAn : ∀ b, A b < 4 → b < n) {L : List Nat} (hL : RW σ A (fun b => cmA A (mvF hh ww) mo mi 8 g s (A b) b) 8 L) {i : Nat} {t : Int32} (hi : i < L.length) (ht : ¬ t < 0 ∧ ¬ (3 : Int32) < t) : xCi0 l D vCl (tyC cI cZ cJ) nwW (wC ad cI cZ cJ σ) yP_row (.code yP_row bP_row 3 (some .int) :: bigW) 2 [.ref (ad 0), .int (nI i), .int t] (fun r => r = rwA A (fun b => cmA A (mvF hh ww) mo mi 8 g s (A b) b) (enA A (mvF hh ww) mo mi g s) (L.getD i 0) t) := by
  refine xCi0.of (cc := bP_row) (nL := 3) (ret := (some .int)) rfl (by decide) [.ref (ad 0), .int (nI i), .int t] rfl (Nat.le_of_ble_eq_true rfl) ?_
  intro pp ee ss mm aa bb me cde AA G hr hlk
  obtain ⟨hn8, hnt, hbw, hbb, hb0⟩ := id hB
  obtain ⟨hC1, hC4, hC, hrt, hbd⟩ := id hK
  obtain ⟨hg3, hs20, hg, hs⟩ := id hS
  have hmv := hB.mv
  have hcm : ∀ c b, c < 4 → b < 8 → cmA A (mvF hh ww) mo mi 8 g s c b ≤ 675540 := fun c b q1 q2 => cmA_le hmv (fun c _ => (hbd c).2.2.2) (fun c _ => (hbd c).1) hg3 hs20 q1 q2
  have htk : ∀ c b, tkA (mvF hh ww) mo mi c b ≤ 25000 := fun c b => tkA_le (hmv b) (hbd c).2.2.2 (hbd c).1
  have hbe : ∀ b, b < 8 → A b < 4 → σ 11 b = nI ((fun b => cmA A (mvF hh ww) mo mi 8 g s (A b) b) b) ∧ σ 12 b = nI ((enA A (mvF hh ww) mo mi g s) b) ∧ (fun b => cmA A (mvF hh ww) mo mi 8 g s (A b) b) b ≤ 1000000 ∧ (enA A (mvF hh ww) mo mi g s) b ≤ 1000000 := fun b q1 q2 => by
    have h1 := hPN.1.2.1.2.1 b q1 (Nat.zero_le _) q2
    have h2 := hcm (A b) b q2 q1
    have h3 := htk (A b) b
    exact ⟨h1.1, h1.2, by show cmA _ _ _ _ _ _ _ _ _ ≤ _; omega, by unfold enA; omega⟩
  have hl8 := hL.len
  have hb4 := hL.mem (getD_mem hi)
  have hbn := hAn _ hb4.2
  obtain ⟨e11, e12, -, -⟩ := hbe _ hb4.1 hb4.2
  have e10 : σ 10 (L.getD i 0) = nI (A (L.getD i 0)) := (hPN.1.1.1 _ hb4.1).trans (aI_t hb4.2)
  have hin : ¬ nI i < 0 ∧ ¬ σ 3 9 - 1 < nI i := by rw [hL.1]; exact rows_in hi hl8
  rcases w4_cases ht with rfl | rfl | rfl | rfl
  · skip
    refine x_aload_n G 0 dP_row_0 rfl rfl ?_
    refine x_get G 0 rfl rfl 4 (by decide) rfl (fun w h => .tail _ (iP_ok w h)) (.tail _ wd_222) rfl dP_row_1 ?_
    refine x_if_ne G 17 dP_row_4 (by decide) (fun h4 => ?_) (fun h4 => (by rw [hpl] at h4; exact absurd h4 (by decide)))
    refine x_iload_n G 1 dP_row_17 rfl rfl ?_
    refine x_iconst G (0) dP_row_18 (by decide) ?_
    refine x_aload_n G 0 dP_row_19 rfl rfl ?_
    refine x_get G 0 rfl rfl 2 (by decide) rfl (fun w h => .tail _ (iP_ok w h)) (.tail _ wd_220) rfl dP_row_20 ?_
    refine x_getN G 3 rfl rfl 9 (by decide) rfl (fun w h => .tail _ (iT_ok w h)) nd_152 rfl dP_row_23 ?_
    refine x_iconst G (1) dP_row_26 (by decide) ?_
    refine x_isub G dP_row_27 ?_
    refine x_call0S3i G cP_within (cS G.2.2.2.2.1 wd_238 wd_239 wd_48 wd_240 (by decide +kernel) ⟨(Nat.le_of_ble_eq_true rfl), (Nat.le_of_ble_eq_true rfl)⟩) dP_row_28 (Nat.le_of_ble_eq_true rfl) ⟨Nat.zero_le _, Nat.zero_le _⟩ (fun r28 e28 => ?_)
    subst e28
    refine x_if_eq G 43 dP_row_31 (by decide) (fun h31 => ?_) (fun h31 => ?_)
    · have h31 := bI_eq0.mp h31
      first | exact absurd hin h31 | exact absurd ht h40
    · have h31 := bI_ne0.mp h31
      refine x_iload_n G 2 dP_row_34 rfl rfl ?_
      refine x_iconst G (0) dP_row_35 (by decide) ?_
      refine x_iconst G (3) dP_row_36 (by decide) ?_
      refine x_call0S3i G cP_within (cS G.2.2.2.2.1 wd_238 wd_239 wd_48 wd_240 (by decide +kernel) ⟨(Nat.le_of_ble_eq_true rfl), (Nat.le_of_ble_eq_true rfl)⟩) dP_row_37 (Nat.le_of_ble_eq_true rfl) ⟨Nat.zero_le _, Nat.zero_le _⟩ (fun r37 e37 => ?_)
      subst e37
      refine x_if_ne G 53 dP_row_40 (by decide) (fun h40 => ?_) (fun h40 => ?_)
      · have h40 := bI_ne0.mp h40
        refine x_aload_n G 0 dP_row_53 rfl rfl ?_
        refine x_get G 0 rfl rfl 2 (by decide) rfl (fun w h => .tail _ (iP_ok w h)) (.tail _ wd_220) rfl dP_row_54 ?_
        refine x_iload_n G 1 dP_row_57 rfl rfl ?_
        refine x_iload_n G 2 dP_row_58 rfl rfl ?_
        refine x_call0VN2i G (cT_ofRow0 hnt hn8 hL.1 hi hl8 (hL.2.1 i hi) hbn) 3 rfl rfl (cVN G.2.2.2.2.1 G.2.2.2.2.2.2.1 nd_576 wd_578 wd_33 wd_53 wd_579 (by decide +kernel) ⟨(Nat.le_of_ble_eq_true rfl), (Nat.le_of_ble_eq_true rfl)⟩) dP_row_59 (Nat.le_of_ble_eq_true rfl) ⟨Nat.zero_le _, Nat.zero_le _⟩ (fun r59 e59 => ?_)
        subst e59
        exact x_ret0i G hr hlk rfl dP_row_62 (e11.trans (if_pos rfl).symm)
      · have h40 := bI_eq0.mp h40
        first | exact absurd hin h31 | exact absurd ht h40
  · skip
    refine x_aload_n G 0 dP_row_0 rfl rfl ?_
    refine x_get G 0 rfl rfl 4 (by decide) rfl (fun w h => .tail _ (iP_ok w h)) (.tail _ wd_222) rfl dP_row_1 ?_
    refine x_if_ne G 17 dP_row_4 (by decide) (fun h4 => ?_) (fun h4 => (by rw [hpl] at h4; exact absurd h4 (by decide)))
    refine x_iload_n G 1 dP_row_17 rfl rfl ?_
    refine x_iconst G (0) dP_row_18 (by decide) ?_
    refine x_aload_n G 0 dP_row_19 rfl rfl ?_
    refine x_get G 0 rfl rfl 2 (by decide) rfl (fun w h => .tail _ (iP_ok w h)) (.tail _ wd_220) rfl dP_row_20 ?_
    refine x_getN G 3 rfl rfl 9 (by decide) rfl (fun w h => .tail _ (iT_ok w h)) nd_152 rfl dP_row_23 ?_
    refine x_iconst G (1) dP_row_26 (by decide) ?_
    refine x_isub G dP_row_27 ?_
    refine x_call0S3i G cP_within (cS G.2.2.2.2.1 wd_238 wd_239 wd_48 wd_240 (by decide +kernel) ⟨(Nat.le_of_ble_eq_true rfl), (Nat.le_of_ble_eq_true rfl)⟩) dP_row_28 (Nat.le_of_ble_eq_true rfl) ⟨Nat.zero_le _, Nat.zero_le _⟩ (fun r28 e28 => ?_)
    subst e28
    refine x_if_eq G 43 dP_row_31 (by decide) (fun h31 => ?_) (fun h31 => ?_)
    · have h31 := bI_eq0.mp h31
      first | exact absurd hin h31 | exact absurd ht h40
    · have h31 := bI_ne0.mp h31
      refine x_iload_n G 2 dP_row_34 rfl rfl ?_
      refine x_iconst G (0) dP_row_35 (by decide) ?_
      refine x_iconst G (3) dP_row_36 (by decide) ?_
      refine x_call0S3i G cP_within (cS G.2.2.2.2.1 wd_238 wd_239 wd_48 wd_240 (by decide +kernel) ⟨(Nat.le_of_ble_eq_true rfl), (Nat.le_of_ble_eq_true rfl)⟩) dP_row_37 (Nat.le_of_ble_eq_true rfl) ⟨Nat.zero_le _, Nat.zero_le _⟩ (fun r37 e37 => ?_)
      subst e37
      refine x_if_ne G 53 dP_row_40 (by decide) (fun h40 => ?_) (fun h40 => ?_)
      · have h40 := bI_ne0.mp h40
        refine x_aload_n G 0 dP_row_53 rfl rfl ?_
        refine x_get G 0 rfl rfl 2 (by decide) rfl (fun w h => .tail _ (iP_ok w h)) (.tail _ wd_220) rfl dP_row_54 ?_
        refine x_iload_n G 1 dP_row_57 rfl rfl ?_
        refine x_iload_n G 2 dP_row_58 rfl rfl ?_
        refine x_call0VN2i G (cT_ofRow1 hnt hn8 hL.1 hi hl8 (hL.2.1 i hi) hbn) 3 rfl rfl (cVN G.2.2.2.2.1 G.2.2.2.2.2.2.1 nd_576 wd_578 wd_33 wd_53 wd_579 (by decide +kernel) ⟨(Nat.le_of_ble_eq_true rfl), (Nat.le_of_ble_eq_true rfl)⟩) dP_row_59 (Nat.le_of_ble_eq_true rfl) ⟨Nat.zero_le _, Nat.zero_le _⟩ (fun r59 e59 => ?_)
        subst e59
        exact x_ret0i G hr hlk rfl dP_row_62 (e10.trans (by unfold rwA; rw [if_neg (by decide), if_pos rfl]))
      · have h40 := bI_eq0.mp h40
        first | exact absurd hin h31 | exact absurd ht h40
  · skip
    refine x_aload_n G 0 dP_row_0 rfl rfl ?_
    refine x_get G 0 rfl rfl 4 (by decide) rfl (fun w h => .tail _ (iP_ok w h)) (.tail _ wd_222) rfl dP_row_1 ?_
    refine x_if_ne G 17 dP_row_4 (by decide) (fun h4 => ?_) (fun h4 => (by rw [hpl] at h4; exact absurd h4 (by decide)))
    refine x_iload_n G 1 dP_row_17 rfl rfl ?_
    refine x_iconst G (0) dP_row_18 (by decide) ?_
    refine x_aload_n G 0 dP_row_19 rfl rfl ?_
    refine x_get G 0 rfl rfl 2 (by decide) rfl (fun w h => .tail _ (iP_ok w h)) (.tail _ wd_220) rfl dP_row_20 ?_
    refine x_getN G 3 rfl rfl 9 (by decide) rfl (fun w h => .tail _ (iT_ok w h)) nd_152 rfl dP_row_23 ?_
    refine x_iconst G (1) dP_row_26 (by decide) ?_
    refine x_isub G dP_row_27 ?_
    refine x_call0S3i G cP_within (cS G.2.2.2.2.1 wd_238 wd_239 wd_48 wd_240 (by decide +kernel) ⟨(Nat.le_of_ble_eq_true rfl), (Nat.le_of_ble_eq_true rfl)⟩) dP_row_28 (Nat.le_of_ble_eq_true rfl) ⟨Nat.zero_le _, Nat.zero_le _⟩ (fun r28 e28 => ?_)
    subst e28
    refine x_if_eq G 43 dP_row_31 (by decide) (fun h31 => ?_) (fun h31 => ?_)
    · have h31 := bI_eq0.mp h31
      first | exact absurd hin h31 | exact absurd ht h40
    · have h31 := bI_ne0.mp h31
      refine x_iload_n G 2 dP_row_34 rfl rfl ?_
      refine x_iconst G (0) dP_row_35 (by decide) ?_
      refine x_iconst G (3) dP_row_36 (by decide) ?_
      refine x_call0S3i G cP_within (cS G.2.2.2.2.1 wd_238 wd_239 wd_48 wd_240 (by decide +kernel) ⟨(Nat.le_of_ble_eq_true rfl), (Nat.le_of_ble_eq_true rfl)⟩) dP_row_37 (Nat.le_of_ble_eq_true rfl) ⟨Nat.zero_le _, Nat.zero_le _⟩ (fun r37 e37 => ?_)
      subst e37
      refine x_if_ne G 53 dP_row_40 (by decide) (fun h40 => ?_) (fun h40 => ?_)
      · have h40 := bI_ne0.mp h40
        refine x_aload_n G 0 dP_row_53 rfl rfl ?_
        refine x_get G 0 rfl rfl 2 (by decide) rfl (fun w h => .tail _ (iP_ok w h)) (.tail _ wd_220) rfl dP_row_54 ?_
        refine x_iload_n G 1 dP_row_57 rfl rfl ?_
        refine x_iload_n G 2 dP_row_58 rfl rfl ?_
        refine x_call0VN2i G (cT_ofRow2 hnt hn8 hL.1 hi hl8 (hL.2.1 i hi) hbn) 3 rfl rfl (cVN G.2.2.2.2.1 G.2.2.2.2.2.2.1 nd_576 wd_578 wd_33 wd_53 wd_579 (by decide +kernel) ⟨(Nat.le_of_ble_eq_true rfl), (Nat.le_of_ble_eq_true rfl)⟩) dP_row_59 (Nat.le_of_ble_eq_true rfl) ⟨Nat.zero_le _, Nat.zero_le _⟩ (fun r59 e59 => ?_)
        subst e59
        exact x_ret0i G hr hlk rfl dP_row_62 (by unfold rwA; rw [if_neg (by decide), if_neg (by decide), if_pos rfl])
      · have h40 := bI_eq0.mp h40
        first | exact absurd hin h31 | exact absurd ht h40
  · skip
    refine x_aload_n G 0 dP_row_0 rfl rfl ?_
    refine x_get G 0 rfl rfl 4 (by decide) rfl (fun w h => .tail _ (iP_ok w h)) (.tail _ wd_222) rfl dP_row_1 ?_
    refine x_if_ne G 17 dP_row_4 (by decide) (fun h4 => ?_) (fun h4 => (by rw [hpl] at h4; exact absurd h4 (by decide)))
    refine x_iload_n G 1 dP_row_17 rfl rfl ?_
    refine x_iconst G (0) dP_row_18 (by decide) ?_
    refine x_aload_n G 0 dP_row_19 rfl rfl ?_
    refine x_get G 0 rfl rfl 2 (by decide) rfl (fun w h => .tail _ (iP_ok w h)) (.tail _ wd_220) rfl dP_row_20 ?_
    refine x_getN G 3 rfl rfl 9 (by decide) rfl (fun w h => .tail _ (iT_ok w h)) nd_152 rfl dP_row_23 ?_
    refine x_iconst G (1) dP_row_26 (by decide) ?_
    refine x_isub G dP_row_27 ?_
    refine x_call0S3i G cP_within (cS G.2.2.2.2.1 wd_238 wd_239 wd_48 wd_240 (by decide +kernel) ⟨(Nat.le_of_ble_eq_true rfl), (Nat.le_of_ble_eq_true rfl)⟩) dP_row_28 (Nat.le_of_ble_eq_true rfl) ⟨Nat.zero_le _, Nat.zero_le _⟩ (fun r28 e28 => ?_)
    subst e28
    refine x_if_eq G 43 dP_row_31 (by decide) (fun h31 => ?_) (fun h31 => ?_)
    · have h31 := bI_eq0.mp h31
      first | exact absurd hin h31 | exact absurd ht h40
    · have h31 := bI_ne0.mp h31
      refine x_iload_n G 2 dP_row_34 rfl rfl ?_
      refine x_iconst G (0) dP_row_35 (by decide) ?_
      refine x_iconst G (3) dP_row_36 (by decide) ?_
      refine x_call0S3i G cP_within (cS G.2.2.2.2.1 wd_238 wd_239 wd_48 wd_240 (by decide +kernel) ⟨(Nat.le_of_ble_eq_true rfl), (Nat.le_of_ble_eq_true rfl)⟩) dP_row_37 (Nat.le_of_ble_eq_true rfl) ⟨Nat.zero_le _, Nat.zero_le _⟩ (fun r37 e37 => ?_)
      subst e37
      refine x_if_ne G 53 dP_row_40 (by decide) (fun h40 => ?_) (fun h40 => ?_)
      · have h40 := bI_ne0.mp h40
        refine x_aload_n G 0 dP_row_53 rfl rfl ?_
        refine x_get G 0 rfl rfl 2 (by decide) rfl (fun w h => .tail _ (iP_ok w h)) (.tail _ wd_220) rfl dP_row_54 ?_
        refine x_iload_n G 1 dP_row_57 rfl rfl ?_
        refine x_iload_n G 2 dP_row_58 rfl rfl ?_
        refine x_call0VN2i G (cT_ofRow3 hnt hn8 hL.1 hi hl8 (hL.2.1 i hi) hbn) 3 rfl rfl (cVN G.2.2.2.2.1 G.2.2.2.2.2.2.1 nd_576 wd_578 wd_33 wd_53 wd_579 (by decide +kernel) ⟨(Nat.le_of_ble_eq_true rfl), (Nat.le_of_ble_eq_true rfl)⟩) dP_row_59 (Nat.le_of_ble_eq_true rfl) ⟨Nat.zero_le _, Nat.zero_le _⟩ (fun r59 e59 => ?_)
        subst e59
        exact x_ret0i G hr hlk rfl dP_row_62 (e12.trans (by unfold rwA; rw [if_neg (by decide), if_neg (by decide), if_neg (by decide)]))
      · have h40 := bI_eq0.mp h40
        first | exact absurd hin h31 | exact absurd ht h40
theorem am_eq {σ : xSg} {n : Nat} {hh ww : Nat → Nat} (hB : PB σ n hh ww) : ∀ {k : Nat}, k ≤ n → amS σ k = nI (amN hh ww k)
  | 0, _ => rfl
  | k + 1, h => by
    have ih := am_eq hB (k := k) (by omega)
    obtain ⟨h1, h2⟩ := hB.2.2.1 k (by omega)
    show amS σ k + (σ 5 k + σ 6 k) = _
    rw [ih, h1, h2, nI_add, nI_add]; rfl
set_option maxHeartbeats 4000000 in
set_option maxRecDepth 100000 in
theorem cP_count {l : Launch} {D : va_G} {cI cZ cJ : ClassId} {ad : Nat → Nat} {σ : xSg} {n C g s : Nat} {hh ww mo mi : Nat → Nat} {ou : Nat → Bool} (hB : PB σ n hh ww) (hK : PK σ C mo mi ou) (hS : PS σ g s) {A : Nat → Nat} {pl : Bool} (hpl : σ 0 4 = bI (pl = true)) (hPN : pl = true → PLN σ A (mvF hh ww) mo mi g s) (hAn : ∀ b, A b < 4 → b < n) {v : Int32} : xCi0 l D vCl (tyC cI cZ cJ) nwW (wC ad cI cZ cJ σ) yP_count (.code yP_count bP_count 2 (some .int) :: bigW) 3 [.ref (ad 0), .int v] (fun r => r = ctN n C hh ww ou pl A v) := by
  refine xCi0.of (cc := bP_count) (nL := 2) (ret := (some .int)) rfl (by decide) [.ref (ad 0), .int v] rfl (Nat.le_of_ble_eq_true rfl) ?_
  intro pp ee ss mm aa bb me cde AA G hr hlk
  obtain ⟨hn8, hnt, hbw, hbb, hb0⟩ := id hB
  obtain ⟨hC1, hC4, hC, hrt, hbd⟩ := id hK
  obtain ⟨hg3, hs20, hg, hs⟩ := id hS
  by_cases hw0 : v = 0
  · subst hw0
    refine x_iload_n G 1 dP_count_0 rfl rfl ?_
    refine x_tableIn G 40 dP_count_1 (by decide) (by decide) rfl (by decide) ?_
    refine x_aload_n G 0 dP_count_40 rfl rfl ?_
    refine x_get G 0 rfl rfl 0 (by decide) rfl (fun w h => .tail _ (iP_ok w h)) (.tail _ wd_218) rfl dP_count_41 ?_
    refine x_getN G 1 rfl rfl 2 (by decide) rfl (fun w h => .tail _ (iB_ok w h)) nd_83 rfl dP_count_44 ?_
    exact x_ret0i G hr hlk rfl dP_count_47 hnt
  by_cases hw1 : v = 1
  · subst hw1
    refine x_iload_n G 1 dP_count_0 rfl rfl ?_
    refine x_tableIn G 48 dP_count_1 (by decide) (by decide) rfl (by decide) ?_
    refine x_aload_n G 0 dP_count_48 rfl rfl ?_
    refine x_get G 0 rfl rfl 1 (by decide) rfl (fun w h => .tail _ (iP_ok w h)) (.tail _ wd_219) rfl dP_count_49 ?_
    refine x_call0VN0i G (cK_able hK) 2 rfl rfl (cVN G.2.2.2.2.1 G.2.2.2.2.2.2.1 nd_338 wd_340 wd_19 wd_50 wd_341 (by decide +kernel) ⟨(Nat.le_of_ble_eq_true rfl), (Nat.le_of_ble_eq_true rfl)⟩) dP_count_52 (Nat.le_of_ble_eq_true rfl) ⟨Nat.zero_le _, Nat.zero_le _⟩ (fun r52 e52 => ?_)
    subst e52
    exact x_ret0i G hr hlk rfl dP_count_55 rfl
  by_cases hw2 : v = 2
  · subst hw2
    refine x_iload_n G 1 dP_count_0 rfl rfl ?_
    refine x_tableIn G 56 dP_count_1 (by decide) (by decide) rfl (by decide) ?_
    refine x_aload_n G 0 dP_count_56 rfl rfl ?_
    refine x_get G 0 rfl rfl 4 (by decide) rfl (fun w h => .tail _ (iP_ok w h)) (.tail _ wd_222) rfl dP_count_57 ?_
    refine x_if_eq G 67 dP_count_60 (by decide) (fun h60 => ?_) (fun h60 => ?_)
    · rw [hpl, bI_eq0] at h60
      refine x_iconst G (0) dP_count_67 (by decide) ?_
      exact x_ret0i G hr hlk rfl dP_count_68 (by first | exact (bI_t h60).symm | exact (bI_f h60).symm)
    · rw [hpl, bI_ne0] at h60
      refine x_iconst G (1) dP_count_63 (by decide) ?_
      refine x_goto G 68 dP_count_64 (by decide) ?_
      exact x_ret0i G hr hlk rfl dP_count_68 (by first | exact (bI_t h60).symm | exact (bI_f h60).symm)
  by_cases hw3 : v = 3
  · subst hw3
    refine x_iload_n G 1 dP_count_0 rfl rfl ?_
    refine x_tableIn G 69 dP_count_1 (by decide) (by decide) rfl (by decide) ?_
    refine x_aload_n G 0 dP_count_69 rfl rfl ?_
    refine x_get G 0 rfl rfl 4 (by decide) rfl (fun w h => .tail _ (iP_ok w h)) (.tail _ wd_222) rfl dP_count_70 ?_
    refine x_if_eq G 86 dP_count_73 (by decide) (fun h73 => ?_) (fun h73 => ?_)
    · rw [hpl, bI_eq0] at h73
      refine x_iconst G (-1) dP_count_86 (by decide) ?_
      exact x_ret0i G hr hlk rfl dP_count_87 (by first | exact (if_neg h73).symm | exact (if_pos h73).symm)
    · rw [hpl, bI_ne0] at h73
      refine x_aload_n G 0 dP_count_76 rfl rfl ?_
      refine x_get G 0 rfl rfl 2 (by decide) rfl (fun w h => .tail _ (iP_ok w h)) (.tail _ wd_220) rfl dP_count_77 ?_
      refine x_getN G 3 rfl rfl 11 (by decide) rfl (fun w h => .tail _ (iT_ok w h)) nd_158 rfl dP_count_80 ?_
      refine x_top (hPN h73).1.2.2 ?_
      refine x_goto G 87 dP_count_83 (by decide) ?_
      exact x_ret0i G hr hlk rfl dP_count_87 (by first | exact (if_neg h73).symm | exact (if_pos h73).symm)
  by_cases hw4 : v = 4
  · subst hw4
    refine x_iload_n G 1 dP_count_0 rfl rfl ?_
    refine x_tableIn G 88 dP_count_1 (by decide) (by decide) rfl (by decide) ?_
    refine x_aload_n G 0 dP_count_88 rfl rfl ?_
    refine x_get G 0 rfl rfl 4 (by decide) rfl (fun w h => .tail _ (iP_ok w h)) (.tail _ wd_222) rfl dP_count_89 ?_
    refine x_if_eq G 105 dP_count_92 (by decide) (fun h92 => ?_) (fun h92 => ?_)
    · rw [hpl, bI_eq0] at h92
      refine x_iconst G (-1) dP_count_105 (by decide) ?_
      exact x_ret0i G hr hlk rfl dP_count_106 (by first | exact (if_neg h92).symm | exact (if_pos h92).symm)
    · rw [hpl, bI_ne0] at h92
      obtain ⟨L, hL⟩ := (hPN h92).2.2
      have hLl : L.length = cntB (fun b => decide (A b < 4)) n := by
        rw [hL.2.2.2.length_eq, fil_len]
        have := cntB_flat (P := fun b => decide (A b < 4)) (k := n) (fun c hc => by cases hq : decide (A c < 4) with | false => rfl | true => have := hAn c (of_decide_eq_true hq); omega) (8 - n)
        rw [show n + (8 - n) = 8 by omega] at this
        exact this
      refine x_aload_n G 0 dP_count_95 rfl rfl ?_
      refine x_get G 0 rfl rfl 2 (by decide) rfl (fun w h => .tail _ (iP_ok w h)) (.tail _ wd_220) rfl dP_count_96 ?_
      refine x_getN G 3 rfl rfl 9 (by decide) rfl (fun w h => .tail _ (iT_ok w h)) nd_152 rfl dP_count_99 ?_
      refine x_top (z := nI (cntB (fun b => decide (A b < 4)) n)) (by rw [← hLl]; exact hL.1) ?_
      refine x_goto G 106 dP_count_102 (by decide) ?_
      exact x_ret0i G hr hlk rfl dP_count_106 (by first | exact (if_neg h92).symm | exact (if_pos h92).symm)
  by_cases hw5 : v = 5
  · subst hw5
    refine x_iload_n G 1 dP_count_0 rfl rfl ?_
    refine x_tableIn G 107 dP_count_1 (by decide) (by decide) rfl (by decide) ?_
    refine x_aload_n G 0 dP_count_107 rfl rfl ?_
    refine x_get G 0 rfl rfl 0 (by decide) rfl (fun w h => .tail _ (iP_ok w h)) (.tail _ wd_218) rfl dP_count_108 ?_
    refine x_call0VN0i G (cB_allMoves hnt hn8) 1 rfl rfl (cVN G.2.2.2.2.1 G.2.2.2.2.2.2.1 nd_343 wd_345 wd_20 wd_49 wd_346 (by decide +kernel) ⟨(Nat.le_of_ble_eq_true rfl), (Nat.le_of_ble_eq_true rfl)⟩) dP_count_111 (Nat.le_of_ble_eq_true rfl) ⟨Nat.zero_le _, Nat.zero_le _⟩ (fun r111 e111 => ?_)
    subst e111
    exact x_ret0i G hr hlk rfl dP_count_114 (am_eq hB (Nat.le_refl n))
  refine x_iload_n G 1 dP_count_0 rfl rfl ?_
  refine x_tableOut G 115 dP_count_1 ?_ (by decide) ?_
  · rcases Nat.lt_or_ge 5 v.toInt.toNat with z | z
    · right; omega
    · rcases Int.lt_or_le v.toInt 0 with y | y
      · left; exact y
      · exfalso
        have e : v = nI v.toInt.toNat := Int32.toInt_inj.mp (by rw [nI_toInt (by omega)]; omega)
        have h6 : v.toInt.toNat = 0 ∨ v.toInt.toNat = 1 ∨ v.toInt.toNat = 2 ∨ v.toInt.toNat = 3 ∨ v.toInt.toNat = 4 ∨ v.toInt.toNat = 5 := by omega
        rcases h6 with q | q | q | q | q | q <;> rw [q] at e
        · exact hw0 e
        · exact hw1 e
        · exact hw2 e
        · exact hw3 e
        · exact hw4 e
        · exact hw5 e
  refine x_iconst G (-1) dP_count_115 (by decide) ?_
  exact x_ret0i G hr hlk rfl dP_count_116 (by unfold ctN; rw [if_neg hw0, if_neg hw1, if_neg hw2, if_neg hw3, if_neg hw4, if_neg hw5])
set_option maxHeartbeats 4000000 in
set_option maxRecDepth 100000 in
theorem cP_bound {l : Launch} {D : va_G} {cI cZ cJ : ClassId} {ad : Nat → Nat} {σ : xSg} {n C g s : Nat} {hh ww mo mi : Nat → Nat} {ou : Nat → Bool} (hB : PB σ n hh ww) (hK : PK σ C mo mi ou) (hS : PS σ g s) : xCi0 l D vCl (tyC cI cZ cJ) nwW (wC ad cI cZ cJ σ) yP_bound (.code yP_bound bP_bound 3 (some .int) :: bigW) 3 [.ref (ad 0)] (fun r => r = bdA n C hh ww mo mi ou) := by
  refine xCi0.of (cc := bP_bound) (nL := 3) (ret := (some .int)) rfl (by decide) [.ref (ad 0), .null, .null] rfl (Nat.le_of_ble_eq_true rfl) ?_
  intro pp ee ss mm aa bb me cde AA G hr hlk
  obtain ⟨hn8, hnt, hbw, hbb, hb0⟩ := id hB
  obtain ⟨hC1, hC4, hC, hrt, hbd⟩ := id hK
  obtain ⟨hg3, hs20, hg, hs⟩ := id hS
  have hmv := hB.mv
  have ham := amN_le hmv n
  have habl := abS_le (ou := ou) C
  have loop : 0 < abS ou C → ∀ (j k : Nat), k + j = n → xJ pp l ee { frames := 3, cells := 0, slots := 0, locals := 40 * 3 } ss mm aa bb me cde 0 0 (MQ bb (vp_Si (fun r => r = bdA n C hh ww mo mi ou)) aa ss 0 0 (fun _ => False)) D vCl AA 3 (fun H locs => H = ss.heap ∧ locs = []) (wC ad cI cZ cJ σ) [.ref (ad 0), .int (nI (max (cdv (amN hh ww n * prM (fun c => !ou c) mi C) (abv (fun c => !ou c) mo mi C)) (mxM ou hh ww mo mi C k))), .int (nI k)] 29 [] := by
    intro hab j
    have htog := tog_le (n := n) hbd hmv hn8 hab
    induction j with
    | zero =>
      intro k hk
      have hk : n = k := by omega
      subst hk
      refine x_iload_n G 2 dP_bound_29 rfl rfl ?_
      refine x_aload_n G 0 dP_bound_30 rfl rfl ?_
      refine x_get G 0 rfl rfl 0 (by decide) rfl (fun w h => .tail _ (iP_ok w h)) (.tail _ wd_218) rfl dP_bound_31 ?_
      refine x_getN G 1 rfl rfl 2 (by decide) rfl (fun w h => .tail _ (iB_ok w h)) nd_83 rfl dP_bound_34 ?_
      refine x_icmp_ge G 66 dP_bound_37 (by decide) (fun h37 => ?_) (fun h37 => (by rw [hnt] at h37; exact absurd (nI_le (Nat.le_refl _) (by omega)) h37))
      refine x_iload_n G 1 dP_bound_66 rfl rfl ?_
      exact x_ret0i G hr hlk rfl dP_bound_67 (by unfold bdA; rw [if_neg (by omega)])
    | succ j ih =>
      intro k hk
      have hmvk := hmv k
      have hmx := mxM_le (ou := ou) (hh := hh) (ww := ww) (mo := mo) (mi := mi) (C := C) k
      have hlt := ltS_le (ou := ou) (mo := mo) (mi := mi) (v := mvF hh ww k) C
      refine x_iload_n G 2 dP_bound_29 rfl rfl ?_
      refine x_aload_n G 0 dP_bound_30 rfl rfl ?_
      refine x_get G 0 rfl rfl 0 (by decide) rfl (fun w h => .tail _ (iP_ok w h)) (.tail _ wd_218) rfl dP_bound_31 ?_
      refine x_getN G 1 rfl rfl 2 (by decide) rfl (fun w h => .tail _ (iB_ok w h)) nd_83 rfl dP_bound_34 ?_
      refine x_icmp_ge G 66 dP_bound_37 (by decide) (fun h37 => (by rw [hnt] at h37; exact absurd h37 (nI_ge (by omega) (by omega)))) (fun h37 => ?_)
      refine x_iload_n G 1 dP_bound_40 rfl rfl ?_
      refine x_aload_n G 0 dP_bound_41 rfl rfl ?_
      refine x_get G 0 rfl rfl 1 (by decide) rfl (fun w h => .tail _ (iP_ok w h)) (.tail _ wd_219) rfl dP_bound_42 ?_
      refine x_aload_n G 0 dP_bound_45 rfl rfl ?_
      refine x_get G 0 rfl rfl 0 (by decide) rfl (fun w h => .tail _ (iP_ok w h)) (.tail _ wd_218) rfl dP_bound_46 ?_
      refine x_iload_n G 2 dP_bound_49 rfl rfl ?_
      refine x_call0VN1i G (cB_movesOf hnt hn8 (show k < 2 ^ 31 by omega)) 1 rfl rfl (cVN G.2.2.2.2.1 G.2.2.2.2.2.2.1 nd_352 wd_256 wd_2 wd_49 wd_257 (by decide +kernel) ⟨(Nat.le_of_ble_eq_true rfl), (Nat.le_of_ble_eq_true rfl)⟩) dP_bound_50 (Nat.le_of_ble_eq_true rfl) ⟨Nat.zero_le _, Nat.zero_le _⟩ (fun r50 e50 => ?_)
      subst e50
      refine x_top (hB.moves k) ?_
      refine x_call0VN1i G (cK_leastTime hK (by omega)) 2 rfl rfl (cVN G.2.2.2.2.1 G.2.2.2.2.2.2.1 nd_353 wd_355 wd_22 wd_50 wd_356 (by decide +kernel) ⟨(Nat.le_of_ble_eq_true rfl), (Nat.le_of_ble_eq_true rfl)⟩) dP_bound_53 (Nat.le_of_ble_eq_true rfl) ⟨Nat.zero_le _, Nat.zero_le _⟩ (fun r53 e53 => ?_)
      subst e53
      refine x_mmax G (.tail _ wd_100) (.tail _ wd_101) (.tail _ wd_51) (.tail _ wd_102) ⟨(Nat.le_of_ble_eq_true rfl), (Nat.le_of_ble_eq_true rfl), Nat.zero_le _, Nat.zero_le _⟩ dP_bound_56 ?_
      refine x_top (z := nI (max (cdv (amN hh ww n * prM (fun c => !ou c) mi C) (abv (fun c => !ou c) mo mi C)) (mxM ou hh ww mo mi C (k + 1)))) (by rw [nI_max (by omega) (by omega)]; congr 1; simp only [mxM]; omega) ?_
      refine x_istore_n G 1 dP_bound_59 rfl (by decide) ?_
      refine x_iinc G (nI (k + 1)) dP_bound_60 rfl (nI_1 k) (by decide) ?_
      refine x_goto G 29 dP_bound_63 (by decide) ?_
      exact ih (k + 1) (by omega)
  refine x_aload_n G 0 dP_bound_0 rfl rfl ?_
  refine x_get G 0 rfl rfl 1 (by decide) rfl (fun w h => .tail _ (iP_ok w h)) (.tail _ wd_219) rfl dP_bound_1 ?_
  refine x_call0VN0i G (cK_able hK) 2 rfl rfl (cVN G.2.2.2.2.1 G.2.2.2.2.2.2.1 nd_338 wd_340 wd_19 wd_50 wd_341 (by decide +kernel) ⟨(Nat.le_of_ble_eq_true rfl), (Nat.le_of_ble_eq_true rfl)⟩) dP_bound_4 (Nat.le_of_ble_eq_true rfl) ⟨Nat.zero_le _, Nat.zero_le _⟩ (fun r4 e4 => ?_)
  subst e4
  refine x_if_ne G 12 dP_bound_7 (by decide) (fun h7 => ?_) (fun h7 => ?_)
  · have h7 : 0 < abS ou C := by rw [show (0 : Int32) = nI 0 from rfl, nI_eq (by omega) (by omega)] at h7; omega
    refine x_aload_n G 0 dP_bound_12 rfl rfl ?_
    refine x_get G 0 rfl rfl 1 (by decide) rfl (fun w h => .tail _ (iP_ok w h)) (.tail _ wd_219) rfl dP_bound_13 ?_
    refine x_aload_n G 0 dP_bound_16 rfl rfl ?_
    refine x_get G 0 rfl rfl 0 (by decide) rfl (fun w h => .tail _ (iP_ok w h)) (.tail _ wd_218) rfl dP_bound_17 ?_
    refine x_call0VN0i G (cB_allMoves hnt hn8) 1 rfl rfl (cVN G.2.2.2.2.1 G.2.2.2.2.2.2.1 nd_343 wd_345 wd_20 wd_49 wd_346 (by decide +kernel) ⟨(Nat.le_of_ble_eq_true rfl), (Nat.le_of_ble_eq_true rfl)⟩) dP_bound_20 (Nat.le_of_ble_eq_true rfl) ⟨Nat.zero_le _, Nat.zero_le _⟩ (fun r20 e20 => ?_)
    subst e20
    refine x_top (am_eq hB (Nat.le_refl n)) ?_
    refine x_call0VN1i G (cK_timeTogether hK (by omega) (abS_ex h7)) 2 rfl rfl (cVN G.2.2.2.2.1 G.2.2.2.2.2.2.1 nd_348 wd_350 wd_21 wd_50 wd_351 (by decide +kernel) ⟨(Nat.le_of_ble_eq_true rfl), (Nat.le_of_ble_eq_true rfl)⟩) dP_bound_23 (Nat.le_of_ble_eq_true rfl) ⟨Nat.zero_le _, Nat.zero_le _⟩ (fun r23 e23 => ?_)
    subst e23
    refine x_istore_n G 1 dP_bound_26 rfl (by decide) ?_
    refine x_iconst G (0) dP_bound_27 (by decide) ?_
    refine x_istore_n G 2 dP_bound_28 rfl (by decide) ?_
    exact x_eq rfl (by rw [show mxM ou hh ww mo mi C 0 = 0 from rfl, Nat.max_zero]; rfl) rfl rfl (loop h7 n 0 (by omega))
  · rw [show (0 : Int32) = nI 0 from rfl, nI_eq (by omega) (by omega)] at h7
    refine x_iconst G (-1) dP_bound_10 (by decide) ?_
    exact x_ret0i G hr hlk rfl dP_bound_11 (by unfold bdA; rw [if_pos h7])
