/-! CranePlan's own methods -/
set_option maxRecDepth 100000 in
theorem own_59 : ownB 59 "java/lang/IllegalArgumentException" = true := by decide +kernel
set_option maxRecDepth 100000 in
theorem own_70 : ownB 70 "java/lang/IllegalStateException" = true := by decide +kernel
set_option maxRecDepth 100000 in
theorem own_79 : ownB 79 "java/lang/ArithmeticException" = true := by decide +kernel
set_option maxRecDepth 100000 in
theorem own_104 : ownB 104 "java/lang/IndexOutOfBoundsException" = true := by decide +kernel
set_option maxHeartbeats 4000000 in
set_option maxRecDepth 100000 in
theorem tP_bay1 {l : Launch} {D : va_G} {cI cZ cJ : ClassId} {ad : Nat → Nat} {σ : xSg} {h v : Int32} (hno : ¬ ((¬ h < 0 ∧ ¬ (50 : Int32) < h) ∧ ¬ v < 0 ∧ ¬ (200 : Int32) < v)) (htr : l.stackTraces = false) : xCT l D vCl (tyC cI cZ cJ) nwW (wC ad cI cZ cJ σ) yP_bay (.code yP_bay bP_bay 3 (some .int) :: bigW) 6 [.ref (ad 0), .int h, .int v] "java/lang/IllegalArgumentException" := by
  refine xCT.of (cc := bP_bay) (nL := 3) (ret := (some .int)) rfl (by decide) [.ref (ad 0), .int h, .int v] rfl (Nat.le_of_ble_eq_true rfl) ?_
  intro pp ee ss mm aa bb me cde AA G hr hlk hex hTH
  refine x_iload_n G 1 dP_bay_0 rfl rfl ?_
  refine x_iconst G (0) dP_bay_1 (by decide) ?_
  refine x_bipush G (50) dP_bay_2 (by decide) ?_
  refine x_call0S3i G cP_within (cS G.2.2.2.2.1 wd_238 wd_239 wd_48 wd_240 (by decide +kernel) ⟨(Nat.le_of_ble_eq_true rfl), (Nat.le_of_ble_eq_true rfl)⟩) dP_bay_4 (Nat.le_of_ble_eq_true rfl) ⟨Nat.zero_le _, Nat.zero_le _⟩ (fun r4 e4 => ?_)
  subst e4
  refine x_if_eq G 21 dP_bay_7 (by decide) (fun h7 => ?_) (fun h7 => ?_)
  · have h7 := bI_eq0.mp h7
    exact x_throw G hTH htr hex hlk own_59 wd_376 wd_377 wd_59 (tx := "moves that can't be") (by decide) dP_bay_21 dP_bay_24 dP_bay_25 dP_bay_27 dP_bay_30 ⟨(Nat.le_of_ble_eq_true rfl), (Nat.le_of_ble_eq_true rfl), (Nat.le_of_ble_eq_true rfl), (Nat.le_of_ble_eq_true rfl)⟩
  · have h7 := bI_ne0.mp h7
    refine x_iload_n G 2 dP_bay_10 rfl rfl ?_
    refine x_iconst G (0) dP_bay_11 (by decide) ?_
    refine x_sipush G (200) dP_bay_12 (by decide) ?_
    refine x_call0S3i G cP_within (cS G.2.2.2.2.1 wd_238 wd_239 wd_48 wd_240 (by decide +kernel) ⟨(Nat.le_of_ble_eq_true rfl), (Nat.le_of_ble_eq_true rfl)⟩) dP_bay_15 (Nat.le_of_ble_eq_true rfl) ⟨Nat.zero_le _, Nat.zero_le _⟩ (fun r15 e15 => ?_)
    subst e15
    refine x_if_ne G 31 dP_bay_18 (by decide) (fun h18 => ?_) (fun h18 => ?_)
    · have h18 := bI_ne0.mp h18
      exact (hno (⟨h7, h18⟩)).elim
    · have h18 := bI_eq0.mp h18
      exact x_throw G hTH htr hex hlk own_59 wd_376 wd_377 wd_59 (tx := "moves that can't be") (by decide) dP_bay_21 dP_bay_24 dP_bay_25 dP_bay_27 dP_bay_30 ⟨(Nat.le_of_ble_eq_true rfl), (Nat.le_of_ble_eq_true rfl), (Nat.le_of_ble_eq_true rfl), (Nat.le_of_ble_eq_true rfl)⟩
set_option maxHeartbeats 4000000 in
set_option maxRecDepth 100000 in
theorem tP_bay2 {l : Launch} {D : va_G} {cI cZ cJ : ClassId} {ad : Nat → Nat} {σ : xSg} {h v : Int32} (hw : ((¬ h < 0 ∧ ¬ (50 : Int32) < h) ∧ ¬ v < 0 ∧ ¬ (200 : Int32) < v)) (hf : (8 : Int32) ≤ σ 1 2) (htr : l.stackTraces = false) : xCT l D vCl (tyC cI cZ cJ) nwW (wC ad cI cZ cJ σ) yP_bay (.code yP_bay bP_bay 3 (some .int) :: bigW) 6 [.ref (ad 0), .int h, .int v] "java/lang/IllegalStateException" := by
  refine xCT.of (cc := bP_bay) (nL := 3) (ret := (some .int)) rfl (by decide) [.ref (ad 0), .int h, .int v] rfl (Nat.le_of_ble_eq_true rfl) ?_
  intro pp ee ss mm aa bb me cde AA G hr hlk hex hTH
  refine x_iload_n G 1 dP_bay_0 rfl rfl ?_
  refine x_iconst G (0) dP_bay_1 (by decide) ?_
  refine x_bipush G (50) dP_bay_2 (by decide) ?_
  refine x_call0S3i G cP_within (cS G.2.2.2.2.1 wd_238 wd_239 wd_48 wd_240 (by decide +kernel) ⟨(Nat.le_of_ble_eq_true rfl), (Nat.le_of_ble_eq_true rfl)⟩) dP_bay_4 (Nat.le_of_ble_eq_true rfl) ⟨Nat.zero_le _, Nat.zero_le _⟩ (fun r4 e4 => ?_)
  subst e4
  refine x_if_eq G 21 dP_bay_7 (by decide) (fun h7 => ?_) (fun h7 => ?_)
  · have h7 := bI_eq0.mp h7
    first | exact absurd hw.1 h7 | exact absurd hw.2 h18
  · have h7 := bI_ne0.mp h7
    refine x_iload_n G 2 dP_bay_10 rfl rfl ?_
    refine x_iconst G (0) dP_bay_11 (by decide) ?_
    refine x_sipush G (200) dP_bay_12 (by decide) ?_
    refine x_call0S3i G cP_within (cS G.2.2.2.2.1 wd_238 wd_239 wd_48 wd_240 (by decide +kernel) ⟨(Nat.le_of_ble_eq_true rfl), (Nat.le_of_ble_eq_true rfl)⟩) dP_bay_15 (Nat.le_of_ble_eq_true rfl) ⟨Nat.zero_le _, Nat.zero_le _⟩ (fun r15 e15 => ?_)
    subst e15
    refine x_if_ne G 31 dP_bay_18 (by decide) (fun h18 => ?_) (fun h18 => ?_)
    · have h18 := bI_ne0.mp h18
      refine x_aload_n G 0 dP_bay_31 rfl rfl ?_
      refine x_get G 0 rfl rfl 0 (by decide) rfl (fun w h => .tail _ (iP_ok w h)) (.tail _ wd_218) rfl dP_bay_32 ?_
      refine x_call0VN0i G cB_isFull 1 rfl rfl (cVN G.2.2.2.2.1 G.2.2.2.2.2.2.1 nd_445 wd_447 wd_24 wd_49 wd_448 (by decide +kernel) ⟨(Nat.le_of_ble_eq_true rfl), (Nat.le_of_ble_eq_true rfl)⟩) dP_bay_35 (Nat.le_of_ble_eq_true rfl) ⟨Nat.zero_le _, Nat.zero_le _⟩ (fun r35 e35 => ?_)
      subst e35
      refine x_if_eq G 51 dP_bay_38 (by decide) (fun h38 => ?_) (fun h38 => ?_)
      · have h38 := bI_eq0.mp h38
        exact absurd hf h38
      · have h38 := bI_ne0.mp h38
        exact x_throw G hTH htr hex hlk own_70 wd_449 wd_450 wd_60 (tx := "no room for one more bay") (by decide) dP_bay_41 dP_bay_44 dP_bay_45 dP_bay_47 dP_bay_50 ⟨(Nat.le_of_ble_eq_true rfl), (Nat.le_of_ble_eq_true rfl), (Nat.le_of_ble_eq_true rfl), (Nat.le_of_ble_eq_true rfl)⟩
    · have h18 := bI_eq0.mp h18
      first | exact absurd hw.1 h7 | exact absurd hw.2 h18
set_option maxHeartbeats 4000000 in
set_option maxRecDepth 100000 in
theorem cP_bay {l : Launch} {D : va_G} {cI cZ cJ : ClassId} {ad : Nat → Nat} {σ : xSg} {n : Nat} {h v : Int32} (ht : σ 1 2 = nI n) (hn : n < 8) (hw : ((¬ h < 0 ∧ ¬ (50 : Int32) < h) ∧ ¬ v < 0 ∧ ¬ (200 : Int32) < v)) : xCi l D vCl (tyC cI cZ cJ) nwW (wC ad cI cZ cJ) yP_bay (.code yP_bay bP_bay 3 (some .int) :: bigW) 2 [.ref (ad 0), .int h, .int v] σ (fun r u => r = nI n ∧ u = sst (sst (sst (sst σ 0 4 0) 5 n h) 6 n v) 1 2 (nI (n + 1))) := by
  refine xCi.of (cc := bP_bay) (nL := 3) (ret := (some .int)) rfl (by decide) [.ref (ad 0), .int h, .int v] rfl (Nat.le_of_ble_eq_true rfl) ?_
  intro pp ee ss mm aa bb me cde AA G hr hlk
  have hf : ¬ (8 : Int32) ≤ σ 1 2 := by rw [ht]; exact nI_ge (show n < 8 by omega) (by decide)
  refine x_iload_n G 1 dP_bay_0 rfl rfl ?_
  refine x_iconst G (0) dP_bay_1 (by decide) ?_
  refine x_bipush G (50) dP_bay_2 (by decide) ?_
  refine x_call0S3i G cP_within (cS G.2.2.2.2.1 wd_238 wd_239 wd_48 wd_240 (by decide +kernel) ⟨(Nat.le_of_ble_eq_true rfl), (Nat.le_of_ble_eq_true rfl)⟩) dP_bay_4 (Nat.le_of_ble_eq_true rfl) ⟨Nat.zero_le _, Nat.zero_le _⟩ (fun r4 e4 => ?_)
  subst e4
  refine x_if_eq G 21 dP_bay_7 (by decide) (fun h7 => ?_) (fun h7 => ?_)
  · have h7 := bI_eq0.mp h7
    first | exact absurd hw.1 h7 | exact absurd hw.2 h18
  · have h7 := bI_ne0.mp h7
    refine x_iload_n G 2 dP_bay_10 rfl rfl ?_
    refine x_iconst G (0) dP_bay_11 (by decide) ?_
    refine x_sipush G (200) dP_bay_12 (by decide) ?_
    refine x_call0S3i G cP_within (cS G.2.2.2.2.1 wd_238 wd_239 wd_48 wd_240 (by decide +kernel) ⟨(Nat.le_of_ble_eq_true rfl), (Nat.le_of_ble_eq_true rfl)⟩) dP_bay_15 (Nat.le_of_ble_eq_true rfl) ⟨Nat.zero_le _, Nat.zero_le _⟩ (fun r15 e15 => ?_)
    subst e15
    refine x_if_ne G 31 dP_bay_18 (by decide) (fun h18 => ?_) (fun h18 => ?_)
    · have h18 := bI_ne0.mp h18
      refine x_aload_n G 0 dP_bay_31 rfl rfl ?_
      refine x_get G 0 rfl rfl 0 (by decide) rfl (fun w h => .tail _ (iP_ok w h)) (.tail _ wd_218) rfl dP_bay_32 ?_
      refine x_call0VN0i G cB_isFull 1 rfl rfl (cVN G.2.2.2.2.1 G.2.2.2.2.2.2.1 nd_445 wd_447 wd_24 wd_49 wd_448 (by decide +kernel) ⟨(Nat.le_of_ble_eq_true rfl), (Nat.le_of_ble_eq_true rfl)⟩) dP_bay_35 (Nat.le_of_ble_eq_true rfl) ⟨Nat.zero_le _, Nat.zero_le _⟩ (fun r35 e35 => ?_)
      subst e35
      refine x_if_eq G 51 dP_bay_38 (by decide) (fun h38 => ?_) (fun h38 => ?_)
      · have h38 := bI_eq0.mp h38
        refine x_aload_n G 0 dP_bay_51 rfl rfl ?_
        refine x_iconst G (0) dP_bay_52 (by decide) ?_
        refine x_put G 0 rfl rfl 4 (by decide) (Nat.le_of_ble_eq_true rfl) wput_0_4 (fun w h => .tail _ (iP_ok w h)) tP_ok nP_ok (.tail _ wd_222) rfl rfl (tP_ok 4 (by decide)) rfl rfl dP_bay_53 ?_
        refine x_aload_n G 0 dP_bay_56 rfl rfl ?_
        refine x_get G 0 rfl rfl 0 (by decide) rfl (fun w h => .tail _ (iP_ok w h)) (.tail _ wd_218) rfl dP_bay_57 ?_
        refine x_iload_n G 1 dP_bay_60 rfl rfl ?_
        refine x_iload_n G 2 dP_bay_61 rfl rfl ?_
        refine x_callVN2i G (cB_add (n := n) (by rw [sst_ne (by omega)]; exact ht) hn) 1 rfl rfl (cVN G.2.2.2.2.1 G.2.2.2.2.2.2.1 nd_465 wd_467 wd_25 wd_49 wd_468 (by decide +kernel) ⟨(Nat.le_of_ble_eq_true rfl), (Nat.le_of_ble_eq_true rfl)⟩) dP_bay_62 (Nat.le_of_ble_eq_true rfl) ⟨Nat.zero_le _, Nat.zero_le _⟩ (fun r62 u62 e62 => ?_)
        obtain ⟨e62r, e62u⟩ := e62; subst e62u; subst e62r
        exact x_reti G hr hlk rfl dP_bay_65 ⟨rfl, rfl⟩
      · have h38 := bI_ne0.mp h38
        exact absurd h38 hf
    · have h18 := bI_eq0.mp h18
      first | exact absurd hw.1 h7 | exact absurd hw.2 h18
set_option maxHeartbeats 4000000 in
set_option maxRecDepth 100000 in
theorem tP_rate1 {l : Launch} {D : va_G} {cI cZ cJ : ClassId} {ad : Nat → Nat} {σ : xSg} {v t1 t2 : Int32} (h0 : t1 = 0) (htr : l.stackTraces = false) : xCT l D vCl (tyC cI cZ cJ) nwW (wC ad cI cZ cJ σ) yP_rate (.code yP_rate bP_rate 4 (some .boolean) :: bigW) 6 [.ref (ad 0), .int v, .int t1, .int t2] "java/lang/ArithmeticException" := by
  refine xCT.of (cc := bP_rate) (nL := 4) (ret := (some .boolean)) rfl (by decide) [.ref (ad 0), .int v, .int t1, .int t2] rfl (Nat.le_of_ble_eq_true rfl) ?_
  intro pp ee ss mm aa bb me cde AA G hr hlk hex hTH
  refine x_iload_n G 2 dP_rate_0 rfl rfl ?_
  refine x_if_ne G 14 dP_rate_1 (by decide) (fun h1 => ?_) (fun h1 => ?_)
  · exact absurd h0 h1
  · exact x_throw G hTH htr hex hlk own_79 wd_478 wd_479 wd_61 (tx := "no moves") (by decide) dP_rate_4 dP_rate_7 dP_rate_8 dP_rate_10 dP_rate_13 ⟨(Nat.le_of_ble_eq_true rfl), (Nat.le_of_ble_eq_true rfl), (Nat.le_of_ble_eq_true rfl), (Nat.le_of_ble_eq_true rfl)⟩
set_option maxHeartbeats 4000000 in
set_option maxRecDepth 100000 in
theorem tP_rate2 {l : Launch} {D : va_G} {cI cZ cJ : ClassId} {ad : Nat → Nat} {σ : xSg} {v t1 t2 : Int32} (h0 : ¬ t1 = 0) (hno : ¬ ((¬ v < 0 ∧ ¬ σ 2 0 ≤ v ∧ ¬ (4 : Int32) ≤ v) ∧ ((¬ t1 < 1 ∧ ¬ (100 : Int32) < t1) ∧ ¬ t2 < 1 ∧ ¬ (100 : Int32) < t2))) (htr : l.stackTraces = false) : xCT l D vCl (tyC cI cZ cJ) nwW (wC ad cI cZ cJ σ) yP_rate (.code yP_rate bP_rate 4 (some .boolean) :: bigW) 6 [.ref (ad 0), .int v, .int t1, .int t2] "java/lang/IllegalArgumentException" := by
  refine xCT.of (cc := bP_rate) (nL := 4) (ret := (some .boolean)) rfl (by decide) [.ref (ad 0), .int v, .int t1, .int t2] rfl (Nat.le_of_ble_eq_true rfl) ?_
  intro pp ee ss mm aa bb me cde AA G hr hlk hex hTH
  refine x_iload_n G 2 dP_rate_0 rfl rfl ?_
  refine x_if_ne G 14 dP_rate_1 (by decide) (fun h1 => ?_) (fun h1 => ?_)
  · refine x_aload_n G 0 dP_rate_14 rfl rfl ?_
    refine x_get G 0 rfl rfl 1 (by decide) rfl (fun w h => .tail _ (iP_ok w h)) (.tail _ wd_219) rfl dP_rate_15 ?_
    refine x_iload_n G 1 dP_rate_18 rfl rfl ?_
    refine x_call0VN1i G cK_has 2 rfl rfl (cVN G.2.2.2.2.1 G.2.2.2.2.2.2.1 nd_494 wd_268 wd_5 wd_50 wd_269 (by decide +kernel) ⟨(Nat.le_of_ble_eq_true rfl), (Nat.le_of_ble_eq_true rfl)⟩) dP_rate_19 (Nat.le_of_ble_eq_true rfl) ⟨Nat.zero_le _, Nat.zero_le _⟩ (fun r19 e19 => ?_)
    subst e19
    refine x_if_ne G 35 dP_rate_22 (by decide) (fun h22 => ?_) (fun h22 => ?_)
    · have h22 := bI_ne0.mp h22
      refine x_iload_n G 2 dP_rate_35 rfl rfl ?_
      refine x_iconst G (1) dP_rate_36 (by decide) ?_
      refine x_bipush G (100) dP_rate_37 (by decide) ?_
      refine x_call0S3i G cP_within (cS G.2.2.2.2.1 wd_238 wd_239 wd_48 wd_240 (by decide +kernel) ⟨(Nat.le_of_ble_eq_true rfl), (Nat.le_of_ble_eq_true rfl)⟩) dP_rate_39 (Nat.le_of_ble_eq_true rfl) ⟨Nat.zero_le _, Nat.zero_le _⟩ (fun r39 e39 => ?_)
      subst e39
      refine x_if_eq G 55 dP_rate_42 (by decide) (fun h42 => ?_) (fun h42 => ?_)
      · have h42 := bI_eq0.mp h42
        exact x_throw G hTH htr hex hlk own_59 wd_376 wd_377 wd_59 (tx := "a rate that can't be") (by decide) dP_rate_55 dP_rate_58 dP_rate_59 dP_rate_61 dP_rate_64 ⟨(Nat.le_of_ble_eq_true rfl), (Nat.le_of_ble_eq_true rfl), (Nat.le_of_ble_eq_true rfl), (Nat.le_of_ble_eq_true rfl)⟩
      · have h42 := bI_ne0.mp h42
        refine x_iload_n G 3 dP_rate_45 rfl rfl ?_
        refine x_iconst G (1) dP_rate_46 (by decide) ?_
        refine x_bipush G (100) dP_rate_47 (by decide) ?_
        refine x_call0S3i G cP_within (cS G.2.2.2.2.1 wd_238 wd_239 wd_48 wd_240 (by decide +kernel) ⟨(Nat.le_of_ble_eq_true rfl), (Nat.le_of_ble_eq_true rfl)⟩) dP_rate_49 (Nat.le_of_ble_eq_true rfl) ⟨Nat.zero_le _, Nat.zero_le _⟩ (fun r49 e49 => ?_)
        subst e49
        refine x_if_ne G 65 dP_rate_52 (by decide) (fun h52 => ?_) (fun h52 => ?_)
        · have h52 := bI_ne0.mp h52
          exact (hno (⟨h22, h42, h52⟩)).elim
        · have h52 := bI_eq0.mp h52
          exact x_throw G hTH htr hex hlk own_59 wd_376 wd_377 wd_59 (tx := "a rate that can't be") (by decide) dP_rate_55 dP_rate_58 dP_rate_59 dP_rate_61 dP_rate_64 ⟨(Nat.le_of_ble_eq_true rfl), (Nat.le_of_ble_eq_true rfl), (Nat.le_of_ble_eq_true rfl), (Nat.le_of_ble_eq_true rfl)⟩
    · have h22 := bI_eq0.mp h22
      exact x_throw G hTH htr hex hlk own_59 wd_376 wd_377 wd_59 (tx := "no such crane") (by decide) dP_rate_25 dP_rate_28 dP_rate_29 dP_rate_31 dP_rate_34 ⟨(Nat.le_of_ble_eq_true rfl), (Nat.le_of_ble_eq_true rfl), (Nat.le_of_ble_eq_true rfl), (Nat.le_of_ble_eq_true rfl)⟩
  · exact absurd h1 h0
set_option maxHeartbeats 4000000 in
set_option maxRecDepth 100000 in
theorem cP_rate {l : Launch} {D : va_G} {cI cZ cJ : ClassId} {ad : Nat → Nat} {σ : xSg} {C c : Nat} {t1 t2 : Int32} (hC : σ 2 0 = nI C) (hC4 : C ≤ 4) (hc : c < C) (h0 : ¬ t1 = 0) (hw : ((¬ t1 < 1 ∧ ¬ (100 : Int32) < t1) ∧ ¬ t2 < 1 ∧ ¬ (100 : Int32) < t2)) : xCi l D vCl (tyC cI cZ cJ) nwW (wC ad cI cZ cJ) yP_rate (.code yP_rate bP_rate 4 (some .boolean) :: bigW) 2 [.ref (ad 0), .int (nI c), .int t1, .int t2] σ (fun r u => r = 1 ∧ u = sst (sst (sst σ 7 c t1) 8 c t2) 0 4 0) := by
  refine xCi.of (cc := bP_rate) (nL := 4) (ret := (some .boolean)) rfl (by decide) [.ref (ad 0), .int (nI c), .int t1, .int t2] rfl (Nat.le_of_ble_eq_true rfl) ?_
  intro pp ee ss mm aa bb me cde AA G hr hlk
  refine x_iload_n G 2 dP_rate_0 rfl rfl ?_
  refine x_if_ne G 14 dP_rate_1 (by decide) (fun h1 => ?_) (fun h1 => (by exact absurd h1 h0))
  refine x_aload_n G 0 dP_rate_14 rfl rfl ?_
  refine x_get G 0 rfl rfl 1 (by decide) rfl (fun w h => .tail _ (iP_ok w h)) (.tail _ wd_219) rfl dP_rate_15 ?_
  refine x_iload_n G 1 dP_rate_18 rfl rfl ?_
  refine x_call0VN1i G (cK_hasN hC hC4 (by omega)) 2 rfl rfl (cVN G.2.2.2.2.1 G.2.2.2.2.2.2.1 nd_494 wd_268 wd_5 wd_50 wd_269 (by decide +kernel) ⟨(Nat.le_of_ble_eq_true rfl), (Nat.le_of_ble_eq_true rfl)⟩) dP_rate_19 (Nat.le_of_ble_eq_true rfl) ⟨Nat.zero_le _, Nat.zero_le _⟩ (fun r19 e19 => ?_)
  subst e19
  refine x_if_ne G 35 dP_rate_22 (by decide) (fun h22 => ?_) (fun h22 => ?_)
  · have h22 := bI_ne0.mp h22
    refine x_iload_n G 2 dP_rate_35 rfl rfl ?_
    refine x_iconst G (1) dP_rate_36 (by decide) ?_
    refine x_bipush G (100) dP_rate_37 (by decide) ?_
    refine x_call0S3i G cP_within (cS G.2.2.2.2.1 wd_238 wd_239 wd_48 wd_240 (by decide +kernel) ⟨(Nat.le_of_ble_eq_true rfl), (Nat.le_of_ble_eq_true rfl)⟩) dP_rate_39 (Nat.le_of_ble_eq_true rfl) ⟨Nat.zero_le _, Nat.zero_le _⟩ (fun r39 e39 => ?_)
    subst e39
    refine x_if_eq G 55 dP_rate_42 (by decide) (fun h42 => ?_) (fun h42 => ?_)
    · have h42 := bI_eq0.mp h42
      first | exact absurd hw.1 h42 | exact absurd hw.2 h52
    · have h42 := bI_ne0.mp h42
      refine x_iload_n G 3 dP_rate_45 rfl rfl ?_
      refine x_iconst G (1) dP_rate_46 (by decide) ?_
      refine x_bipush G (100) dP_rate_47 (by decide) ?_
      refine x_call0S3i G cP_within (cS G.2.2.2.2.1 wd_238 wd_239 wd_48 wd_240 (by decide +kernel) ⟨(Nat.le_of_ble_eq_true rfl), (Nat.le_of_ble_eq_true rfl)⟩) dP_rate_49 (Nat.le_of_ble_eq_true rfl) ⟨Nat.zero_le _, Nat.zero_le _⟩ (fun r49 e49 => ?_)
      subst e49
      refine x_if_ne G 65 dP_rate_52 (by decide) (fun h52 => ?_) (fun h52 => ?_)
      · have h52 := bI_ne0.mp h52
        refine x_aload_n G 0 dP_rate_65 rfl rfl ?_
        refine x_get G 0 rfl rfl 1 (by decide) rfl (fun w h => .tail _ (iP_ok w h)) (.tail _ wd_219) rfl dP_rate_66 ?_
        refine x_iload_n G 1 dP_rate_69 rfl rfl ?_
        refine x_iload_n G 2 dP_rate_70 rfl rfl ?_
        refine x_iload_n G 3 dP_rate_71 rfl rfl ?_
        refine x_callVN3v G (cK_setRate hC hC4 hc) 2 rfl rfl (cVN G.2.2.2.2.1 G.2.2.2.2.2.2.1 nd_497 wd_499 wd_26 wd_50 wd_500 (by decide +kernel) ⟨(Nat.le_of_ble_eq_true rfl), (Nat.le_of_ble_eq_true rfl)⟩) dP_rate_72 (Nat.le_of_ble_eq_true rfl) ⟨Nat.zero_le _, Nat.zero_le _⟩ (fun u72 e72 => ?_)
        subst e72
        refine x_aload_n G 0 dP_rate_75 rfl rfl ?_
        refine x_iconst G (0) dP_rate_76 (by decide) ?_
        refine x_put G 0 rfl rfl 4 (by decide) (Nat.le_of_ble_eq_true rfl) wput_0_4 (fun w h => .tail _ (iP_ok w h)) tP_ok nP_ok (.tail _ wd_222) rfl rfl (tP_ok 4 (by decide)) rfl rfl dP_rate_77 ?_
        refine x_iconst G (1) dP_rate_80 (by decide) ?_
        exact x_reti G hr hlk rfl dP_rate_81 ⟨rfl, rfl⟩
      · have h52 := bI_eq0.mp h52
        first | exact absurd hw.1 h42 | exact absurd hw.2 h52
  · have h22 := bI_eq0.mp h22
    exact absurd hc h22
set_option maxHeartbeats 4000000 in
set_option maxRecDepth 100000 in
theorem cP_step {l : Launch} {D : va_G} {cI cZ cJ : ClassId} {ad : Nat → Nat} {σ : xSg} {v : Int32} : xCi l D vCl (tyC cI cZ cJ) nwW (wC ad cI cZ cJ) yP_step (.code yP_step bP_step 2 (some .boolean) :: bigW) 1 [.ref (ad 0), .int v] σ (fun r u => if ¬ v < 0 ∧ ¬ (20 : Int32) < v then r = 1 ∧ u = sst (sst σ 2 5 v) 0 4 0 else r = 0 ∧ u = σ) := by
  refine xCi.of (cc := bP_step) (nL := 2) (ret := (some .boolean)) rfl (by decide) [.ref (ad 0), .int v] rfl (Nat.le_of_ble_eq_true rfl) ?_
  intro pp ee ss mm aa bb me cde AA G hr hlk
  refine x_iload_n G 1 dP_step_0 rfl rfl ?_
  refine x_iconst G (0) dP_step_1 (by decide) ?_
  refine x_bipush G (20) dP_step_2 (by decide) ?_
  refine x_call0S3i G cP_within (cS G.2.2.2.2.1 wd_238 wd_239 wd_48 wd_240 (by decide +kernel) ⟨(Nat.le_of_ble_eq_true rfl), (Nat.le_of_ble_eq_true rfl)⟩) dP_step_4 (Nat.le_of_ble_eq_true rfl) ⟨Nat.zero_le _, Nat.zero_le _⟩ (fun r4 e4 => ?_)
  subst e4
  refine x_if_ne G 12 dP_step_7 (by decide) (fun h7 => ?_) (fun h7 => ?_)
  · have h7 := bI_ne0.mp h7
    refine x_aload_n G 0 dP_step_12 rfl rfl ?_
    refine x_get G 0 rfl rfl 1 (by decide) rfl (fun w h => .tail _ (iP_ok w h)) (.tail _ wd_219) rfl dP_step_13 ?_
    refine x_iload_n G 1 dP_step_16 rfl rfl ?_
    refine x_putN G 2 rfl rfl 5 (by decide) (Nat.le_of_ble_eq_true rfl) wput_2_5 (fun w h => .tail _ (iK_ok w h)) tK_ok nK_ok nd_117 rfl rfl (tK_ok 5 (by decide)) rfl rfl dP_step_17 ?_
    refine x_aload_n G 0 dP_step_20 rfl rfl ?_
    refine x_iconst G (0) dP_step_21 (by decide) ?_
    refine x_put G 0 rfl rfl 4 (by decide) (Nat.le_of_ble_eq_true rfl) wput_0_4 (fun w h => .tail _ (iP_ok w h)) tP_ok nP_ok (.tail _ wd_222) rfl rfl (tP_ok 4 (by decide)) rfl rfl dP_step_22 ?_
    refine x_iconst G (1) dP_step_25 (by decide) ?_
    exact x_reti G hr hlk rfl dP_step_26 (by rw [if_pos h7]; exact ⟨rfl, rfl⟩)
  · have h7 := bI_eq0.mp h7
    refine x_iconst G (0) dP_step_10 (by decide) ?_
    exact x_reti G hr hlk rfl dP_step_11 (by rw [if_neg h7]; exact ⟨rfl, rfl⟩)
theorem PLN.of {σ τ : xSg} {A mv mo mi : Nat → Nat} {g s : Nat} (h : PLN σ A mv mo mi g s) (e : ∀ q, 3 ≤ q → (q < 5 ∨ 9 < q) → τ q = σ q) : PLN τ A mv mo mi g s := by
  obtain ⟨⟨h1, ⟨h2, h3, h4⟩, h5⟩, h6, L, r1, r2, r3, r4⟩ := h
  exact ⟨⟨h1.of (e 10 (by omega) (by omega)) (e 13 (by omega) (by omega)) (e 14 (by omega) (by omega)), ⟨fun d f l' a b c0 d0 x y z => by rw [e (16 + d) (by omega) (by omega)]; exact h2 d f l' a b c0 d0 x y z, fun b a c0 d0 => by rw [e 11 (by omega) (by omega), e 12 (by omega) (by omega)]; exact h3 b a c0 d0, by rw [e 3 (by omega) (by omega)]; exact h4⟩, by rw [e 3 (by omega) (by omega)]; exact h5⟩, h6, L, by rw [e 3 (by omega) (by omega)]; exact r1, fun i hi => by rw [e 20 (by omega) (by omega)]; exact r2 i hi, r3, r4⟩
/-- what plan leaves and answers -/
def SBC (u : xSg) (n C g s : Nat) (hh ww mo mi : Nat → Nat) (ou : Nat → Bool) (r : Int32) : Prop := (BST n C g s hh ww mo mi ou = none ∧ r = -1 ∧ u 0 4 = 0) ∨ ∃ ys f st, BST n C g s hh ww mo mi ou = some (ys, f, st) ∧ r = nI f ∧ u 0 4 = 1 ∧ PLN u (sprB (bzF hh ww) ys) (mvF hh ww) mo mi g s
def MP (σ u : xSg) : Prop := ∀ q, q = 1 ∨ q = 2 ∨ (5 ≤ q ∧ q < 10) → u q = σ q
theorem MP.PB {σ u : xSg} {n : Nat} {hh ww : Nat → Nat} (h : MP σ u) (hB : PB σ n hh ww) : PB u n hh ww := hB.of (h 1 (by omega)) (h 5 (by omega)) (h 6 (by omega))
theorem MP.PK {σ u : xSg} {C : Nat} {mo mi : Nat → Nat} {ou : Nat → Bool} (h : MP σ u) (hK : PK σ C mo mi ou) : PK u C mo mi ou := hK.of (h 2 (by omega)) (h 7 (by omega)) (h 8 (by omega)) (h 9 (by omega))
theorem MP.PS {σ u : xSg} {g s : Nat} (h : MP σ u) (hS : PS σ g s) : PS u g s := hS.of (h 2 (by omega))
theorem fin_eq {σ : xSg} {n C g s : Nat} {hh ww mo mi : Nat → Nat} {ou : Nat → Bool} (hC : 1 ≤ C) {ys : List Nat} {f st : Nat} (hb : BST n C g s hh ww mo mi ou = some (ys, f, st)) (hP : PLN σ (sprB (bzF hh ww) ys) (mvF hh ww) mo mi g s) : σ 3 10 = nI f := by
  rw [(keyM_A (BST_key hC hb).2.2.1).2.1]; exact hP.1.2.1.2.2
set_option maxHeartbeats 4000000 in
set_option maxRecDepth 100000 in
theorem cP_plan {l : Launch} {D : va_G} {cI cZ cJ : ClassId} {ad : Nat → Nat} {σ : xSg} {n C g s : Nat} {hh ww mo mi : Nat → Nat} {ou : Nat → Bool} (hB : PB σ n hh ww) (hK : PK σ C mo mi ou) (hS : PS σ g s) {pl : Bool} (hpl : σ 0 4 = bI (pl = true)) (hPl : pl = true → ∃ ys f st, BST n C g s hh ww mo mi ou = some (ys, f, st) ∧ PLN σ (sprB (bzF hh ww) ys) (mvF hh ww) mo mi g s) : xCi l D vCl (tyC cI cZ cJ) nwW (wC ad cI cZ cJ) yP_plan (.code yP_plan bP_plan 1 (some .int) :: bigW) 5 [.ref (ad 0)] σ (fun r u => SBC u n C g s hh ww mo mi ou r ∧ MP σ u) := by
  refine xCi.of (cc := bP_plan) (nL := 1) (ret := (some .int)) rfl (by decide) [.ref (ad 0)] rfl (Nat.le_of_ble_eq_true rfl) ?_
  intro pp ee ss mm aa bb me cde AA G hr hlk
  obtain ⟨hn8, hnt, hbw, hbb, hb0⟩ := id hB
  obtain ⟨hC1, hC4, hC, hrt, hbd⟩ := id hK
  obtain ⟨hg3, hs20, hg, hs⟩ := id hS
  have hz : ∀ b, bzF hh ww b = true → b < n := fun b hb => bz_lt hB hb
  obtain ⟨mk, hm2, hmk⟩ := mask_ex ou hC4
  refine x_aload_n G 0 dP_plan_0 rfl rfl ?_
  refine x_get G 0 rfl rfl 4 (by decide) rfl (fun w h => .tail _ (iP_ok w h)) (.tail _ wd_222) rfl dP_plan_1 ?_
  refine x_if_ne G 18 dP_plan_4 (by decide) (fun h4 => ?_) (fun h4 => ?_)
  · have hp : pl = true := bI_ne0.mp (by rw [← hpl]; exact h4)
    obtain ⟨ys, f, st, hb, hPN⟩ := hPl hp
    refine x_aload_n G 0 dP_plan_18 rfl rfl ?_
    refine x_get G 0 rfl rfl 4 (by decide) rfl (fun w h => .tail _ (iP_ok w h)) (.tail _ wd_222) rfl dP_plan_19 ?_
    refine x_if_eq G 35 dP_plan_22 (by decide) (fun h22 => (by rw [hpl, bI_t hp] at h22; exact absurd h22 (by decide))) (fun h22 => ?_)
    refine x_aload_n G 0 dP_plan_25 rfl rfl ?_
    refine x_get G 0 rfl rfl 2 (by decide) rfl (fun w h => .tail _ (iP_ok w h)) (.tail _ wd_220) rfl dP_plan_26 ?_
    refine x_getN G 3 rfl rfl 10 (by decide) rfl (fun w h => .tail _ (iT_ok w h)) nd_155 rfl dP_plan_29 ?_
    refine x_top (fin_eq hC1 hb hPN) ?_
    refine x_goto G 36 dP_plan_32 (by decide) ?_
    exact x_reti G hr hlk rfl dP_plan_36 ⟨Or.inr ⟨ys, f, st, hb, rfl, by rw [hpl]; exact bI_t hp, hPN⟩, fun _ _ => rfl⟩
  · refine x_aload_n G 0 dP_plan_7 rfl rfl ?_
    refine x_aload_n G 0 dP_plan_8 rfl rfl ?_
    refine x_get G 0 rfl rfl 3 (by decide) rfl (fun w h => .tail _ (iP_ok w h)) (.tail _ wd_221) rfl dP_plan_9 ?_
    refine x_callVN0i G (cS_makeBest hB hK hS hmk) 4 rfl rfl (cVN G.2.2.2.2.1 G.2.2.2.2.2.2.1 nd_245 wd_247 wd_0 wd_54 wd_248 (by decide +kernel) ⟨(Nat.le_of_ble_eq_true rfl), (Nat.le_of_ble_eq_true rfl)⟩) dP_plan_12 (Nat.le_of_ble_eq_true rfl) ⟨Nat.zero_le _, Nat.zero_le _⟩ (fun r12 u12 e12 => ?_)
    obtain ⟨hMB, hMO⟩ := e12
    rcases MB_BST hn8 hz hC1 hC4 hm2 hmk hMB with ⟨hb, rfl⟩ | ⟨ys, f, st, hb, rfl, hPN⟩
    · skip
      refine x_put G 0 rfl rfl 4 (by decide) (Nat.le_of_ble_eq_true rfl) wput_0_4 (fun w h => .tail _ (iP_ok w h)) tP_ok nP_ok (.tail _ wd_222) rfl rfl (tP_ok 4 (by decide)) rfl rfl dP_plan_15 ?_
      refine x_aload_n G 0 dP_plan_18 rfl rfl ?_
      refine x_get G 0 rfl rfl 4 (by decide) rfl (fun w h => .tail _ (iP_ok w h)) (.tail _ wd_222) rfl dP_plan_19 ?_
      refine x_if_eq G 35 dP_plan_22 (by decide) (fun h22 => ?_) (fun h22 => (by exact absurd sst_same h22))
      refine x_iconst G (-1) dP_plan_35 (by decide) ?_
      exact x_reti G hr hlk rfl dP_plan_36 ⟨Or.inl ⟨hb, rfl, sst_same⟩, fun q hq => by rw [sst_ne (by omega)]; exact hMO q (by omega)⟩
    · skip
      refine x_put G 0 rfl rfl 4 (by decide) (Nat.le_of_ble_eq_true rfl) wput_0_4 (fun w h => .tail _ (iP_ok w h)) tP_ok nP_ok (.tail _ wd_222) rfl rfl (tP_ok 4 (by decide)) rfl rfl dP_plan_15 ?_
      refine x_aload_n G 0 dP_plan_18 rfl rfl ?_
      refine x_get G 0 rfl rfl 4 (by decide) rfl (fun w h => .tail _ (iP_ok w h)) (.tail _ wd_222) rfl dP_plan_19 ?_
      refine x_if_eq G 35 dP_plan_22 (by decide) (fun h22 => (by rw [sst_same] at h22; exact absurd h22 (by decide))) (fun h22 => ?_)
      refine x_aload_n G 0 dP_plan_25 rfl rfl ?_
      refine x_get G 0 rfl rfl 2 (by decide) rfl (fun w h => .tail _ (iP_ok w h)) (.tail _ wd_220) rfl dP_plan_26 ?_
      refine x_getN G 3 rfl rfl 10 (by decide) rfl (fun w h => .tail _ (iT_ok w h)) nd_155 rfl dP_plan_29 ?_
      refine x_top (z := nI f) (by rw [sst_ne (by omega)]; exact fin_eq hC1 hb hPN) ?_
      refine x_goto G 36 dP_plan_32 (by decide) ?_
      exact x_reti G hr hlk rfl dP_plan_36 ⟨Or.inr ⟨ys, f, st, hb, rfl, sst_same, hPN.of (fun q h1 h2 => sst_ne (by omega))⟩, fun q hq => by rw [sst_ne (by omega)]; exact hMO q (by omega)⟩
set_option maxHeartbeats 4000000 in
set_option maxRecDepth 100000 in
theorem tP_works1 {l : Launch} {D : va_G} {cI cZ cJ : ClassId} {ad : Nat → Nat} {σ : xSg} {v t : Int32} (hno : ¬ (¬ v < 0 ∧ ¬ σ 2 0 ≤ v ∧ ¬ (4 : Int32) ≤ v)) (htr : l.stackTraces = false) : xCT l D vCl (tyC cI cZ cJ) nwW (wC ad cI cZ cJ σ) yP_works (.code yP_works bP_works 3 (some .int) :: bigW) 6 [.ref (ad 0), .int v, .int t] "java/lang/IndexOutOfBoundsException" := by
  refine xCT.of (cc := bP_works) (nL := 3) (ret := (some .int)) rfl (by decide) [.ref (ad 0), .int v, .int t] rfl (Nat.le_of_ble_eq_true rfl) ?_
  intro pp ee ss mm aa bb me cde AA G hr hlk hex hTH
  refine x_aload_n G 0 dP_works_0 rfl rfl ?_
  refine x_get G 0 rfl rfl 1 (by decide) rfl (fun w h => .tail _ (iP_ok w h)) (.tail _ wd_219) rfl dP_works_1 ?_
  refine x_iload_n G 1 dP_works_4 rfl rfl ?_
  refine x_call0VN1i G cK_has 2 rfl rfl (cVN G.2.2.2.2.1 G.2.2.2.2.2.2.1 nd_494 wd_268 wd_5 wd_50 wd_269 (by decide +kernel) ⟨(Nat.le_of_ble_eq_true rfl), (Nat.le_of_ble_eq_true rfl)⟩) dP_works_5 (Nat.le_of_ble_eq_true rfl) ⟨Nat.zero_le _, Nat.zero_le _⟩ (fun r5 e5 => ?_)
  subst e5
  refine x_if_ne G 21 dP_works_8 (by decide) (fun h8 => ?_) (fun h8 => ?_)
  · have h8 := bI_ne0.mp h8
    exact (hno (h8)).elim
  · have h8 := bI_eq0.mp h8
    exact x_throw G hTH htr hex hlk own_104 wd_509 wd_510 wd_63 (tx := "no such crane") (by decide) dP_works_11 dP_works_14 dP_works_15 dP_works_17 dP_works_20 ⟨(Nat.le_of_ble_eq_true rfl), (Nat.le_of_ble_eq_true rfl), (Nat.le_of_ble_eq_true rfl), (Nat.le_of_ble_eq_true rfl)⟩
set_option maxHeartbeats 4000000 in
set_option maxRecDepth 100000 in
theorem tP_works2 {l : Launch} {D : va_G} {cI cZ cJ : ClassId} {ad : Nat → Nat} {σ : xSg} {v t : Int32} (hk : (¬ v < 0 ∧ ¬ σ 2 0 ≤ v ∧ ¬ (4 : Int32) ≤ v)) (hpl : σ 0 4 = 0) (htr : l.stackTraces = false) : xCT l D vCl (tyC cI cZ cJ) nwW (wC ad cI cZ cJ σ) yP_works (.code yP_works bP_works 3 (some .int) :: bigW) 6 [.ref (ad 0), .int v, .int t] "java/lang/IllegalStateException" := by
  refine xCT.of (cc := bP_works) (nL := 3) (ret := (some .int)) rfl (by decide) [.ref (ad 0), .int v, .int t] rfl (Nat.le_of_ble_eq_true rfl) ?_
  intro pp ee ss mm aa bb me cde AA G hr hlk hex hTH
  refine x_aload_n G 0 dP_works_0 rfl rfl ?_
  refine x_get G 0 rfl rfl 1 (by decide) rfl (fun w h => .tail _ (iP_ok w h)) (.tail _ wd_219) rfl dP_works_1 ?_
  refine x_iload_n G 1 dP_works_4 rfl rfl ?_
  refine x_call0VN1i G cK_has 2 rfl rfl (cVN G.2.2.2.2.1 G.2.2.2.2.2.2.1 nd_494 wd_268 wd_5 wd_50 wd_269 (by decide +kernel) ⟨(Nat.le_of_ble_eq_true rfl), (Nat.le_of_ble_eq_true rfl)⟩) dP_works_5 (Nat.le_of_ble_eq_true rfl) ⟨Nat.zero_le _, Nat.zero_le _⟩ (fun r5 e5 => ?_)
  subst e5
  refine x_if_ne G 21 dP_works_8 (by decide) (fun h8 => ?_) (fun h8 => ?_)
  · have h8 := bI_ne0.mp h8
    refine x_aload_n G 0 dP_works_21 rfl rfl ?_
    refine x_get G 0 rfl rfl 4 (by decide) rfl (fun w h => .tail _ (iP_ok w h)) (.tail _ wd_222) rfl dP_works_22 ?_
    refine x_if_ne G 38 dP_works_25 (by decide) (fun h25 => ?_) (fun h25 => ?_)
    · exact absurd hpl h25
    · exact x_throw G hTH htr hex hlk own_70 wd_449 wd_450 wd_60 (tx := "no plan") (by decide) dP_works_28 dP_works_31 dP_works_32 dP_works_34 dP_works_37 ⟨(Nat.le_of_ble_eq_true rfl), (Nat.le_of_ble_eq_true rfl), (Nat.le_of_ble_eq_true rfl), (Nat.le_of_ble_eq_true rfl)⟩
  · have h8 := bI_eq0.mp h8
    exact absurd hk h8
set_option maxHeartbeats 4000000 in
set_option maxRecDepth 100000 in
theorem cP_works {l : Launch} {D : va_G} {cI cZ cJ : ClassId} {ad : Nat → Nat} {σ : xSg} {n C g s : Nat} {hh ww mo mi : Nat → Nat} {ou : Nat → Bool} (hB : PB σ n hh ww) (hK : PK σ C mo mi ou) (hS : PS σ g s) {A : Nat → Nat} (hpl : σ 0 4 = 1) (hPN : PLN σ A (mvF hh ww) mo mi g s) {c : Nat} {t : Int32} (hc : c < C) : xCi0 l D vCl (tyC cI cZ cJ) nwW (wC ad cI cZ cJ σ) yP_works (.code yP_works bP_works 3 (some .int) :: bigW) 2 [.ref (ad 0), .int (nI c), .int t] (fun r => r = oI (wkA A (fun b => cmA A (mvF hh ww) mo mi 8 g s (A b) b) (enA A (mvF hh ww) mo mi g s) c t.toInt 8)) := by
  refine xCi0.of (cc := bP_works) (nL := 3) (ret := (some .int)) rfl (by decide) [.ref (ad 0), .int (nI c), .int t] rfl (Nat.le_of_ble_eq_true rfl) ?_
  intro pp ee ss mm aa bb me cde AA G hr hlk
  obtain ⟨hn8, hnt, hbw, hbb, hb0⟩ := id hB
  obtain ⟨hC1, hC4, hC, hrt, hbd⟩ := id hK
  obtain ⟨hg3, hs20, hg, hs⟩ := id hS
  have hmv := hB.mv
  have hcm : ∀ c b, c < 4 → b < 8 → cmA A (mvF hh ww) mo mi 8 g s c b ≤ 675540 := fun c b q1 q2 => cmA_le hmv (fun c _ => (hbd c).2.2.2) (fun c _ => (hbd c).1) hg3 hs20 q1 q2
  have htk : ∀ c b, tkA (mvF hh ww) mo mi c b ≤ 25000 := fun c b => tkA_le (hmv b) (hbd c).2.2.2 (hbd c).1
  have hbe : ∀ b, b < 8 → A b < 4 → σ 11 b = nI ((fun b => cmA A (mvF hh ww) mo mi 8 g s (A b) b) b) ∧ σ 12 b = nI ((enA A (mvF hh ww) mo mi g s) b) ∧ (fun b => cmA A (mvF hh ww) mo mi 8 g s (A b) b) b ≤ 1000000 ∧ (enA A (mvF hh ww) mo mi g s) b ≤ 1000000 := fun b q1 q2 => by
    have h1 := hPN.1.2.1.2.1 b q1 (Nat.zero_le _) q2
    have h2 := hcm (A b) b q2 q1
    have h3 := htk (A b) b
    exact ⟨h1.1, h1.2, by show cmA _ _ _ _ _ _ _ _ _ ≤ _; omega, by unfold enA; omega⟩
  refine x_aload_n G 0 dP_works_0 rfl rfl ?_
  refine x_get G 0 rfl rfl 1 (by decide) rfl (fun w h => .tail _ (iP_ok w h)) (.tail _ wd_219) rfl dP_works_1 ?_
  refine x_iload_n G 1 dP_works_4 rfl rfl ?_
  refine x_call0VN1i G (cK_hasN hC hC4 (by omega)) 2 rfl rfl (cVN G.2.2.2.2.1 G.2.2.2.2.2.2.1 nd_494 wd_268 wd_5 wd_50 wd_269 (by decide +kernel) ⟨(Nat.le_of_ble_eq_true rfl), (Nat.le_of_ble_eq_true rfl)⟩) dP_works_5 (Nat.le_of_ble_eq_true rfl) ⟨Nat.zero_le _, Nat.zero_le _⟩ (fun r5 e5 => ?_)
  subst e5
  refine x_if_ne G 21 dP_works_8 (by decide) (fun h8 => ?_) (fun h8 => ?_)
  · have h8 := bI_ne0.mp h8
    refine x_aload_n G 0 dP_works_21 rfl rfl ?_
    refine x_get G 0 rfl rfl 4 (by decide) rfl (fun w h => .tail _ (iP_ok w h)) (.tail _ wd_222) rfl dP_works_22 ?_
    refine x_if_ne G 38 dP_works_25 (by decide) (fun h25 => ?_) (fun h25 => (by rw [hpl] at h25; exact absurd h25 (by decide)))
    refine x_aload_n G 0 dP_works_38 rfl rfl ?_
    refine x_get G 0 rfl rfl 2 (by decide) rfl (fun w h => .tail _ (iP_ok w h)) (.tail _ wd_220) rfl dP_works_39 ?_
    refine x_iload_n G 1 dP_works_42 rfl rfl ?_
    refine x_iload_n G 2 dP_works_43 rfl rfl ?_
    refine x_call0VN2i G (cT_bayWorkedAt (bg := (fun b => cmA A (mvF hh ww) mo mi 8 g s (A b) b)) (en := (enA A (mvF hh ww) mo mi g s)) hPN.1.1 (show c < 4 by omega) (fun b q1 q2 => by have := hbe b q1 (by omega); exact ⟨this.1, this.2.1, Nat.lt_of_le_of_lt this.2.2.1 (by decide), Nat.lt_of_le_of_lt this.2.2.2 (by decide)⟩)) 3 rfl rfl (cVN G.2.2.2.2.1 G.2.2.2.2.2.2.1 nd_525 wd_527 wd_27 wd_53 wd_528 (by decide +kernel) ⟨(Nat.le_of_ble_eq_true rfl), (Nat.le_of_ble_eq_true rfl)⟩) dP_works_44 (Nat.le_of_ble_eq_true rfl) ⟨Nat.zero_le _, Nat.zero_le _⟩ (fun r44 e44 => ?_)
    subst e44
    exact x_ret0i G hr hlk rfl dP_works_47 rfl
  · have h8 := bI_eq0.mp h8
    exact absurd hc h8
set_option maxHeartbeats 4000000 in
set_option maxRecDepth 100000 in
theorem tP_where1 {l : Launch} {D : va_G} {cI cZ cJ : ClassId} {ad : Nat → Nat} {σ : xSg} {v t : Int32} (hno : ¬ ((¬ v < 0 ∧ ¬ σ 2 0 ≤ v ∧ ¬ (4 : Int32) ≤ v) ∧ ¬ t < 0)) (htr : l.stackTraces = false) : xCT l D vCl (tyC cI cZ cJ) nwW (wC ad cI cZ cJ σ) yP_where (.code yP_where bP_where 3 (some .int) :: bigW) 6 [.ref (ad 0), .int v, .int t] "java/lang/IndexOutOfBoundsException" := by
  refine xCT.of (cc := bP_where) (nL := 3) (ret := (some .int)) rfl (by decide) [.ref (ad 0), .int v, .int t] rfl (Nat.le_of_ble_eq_true rfl) ?_
  intro pp ee ss mm aa bb me cde AA G hr hlk hex hTH
  refine x_aload_n G 0 dP_where_0 rfl rfl ?_
  refine x_get G 0 rfl rfl 1 (by decide) rfl (fun w h => .tail _ (iP_ok w h)) (.tail _ wd_219) rfl dP_where_1 ?_
  refine x_iload_n G 1 dP_where_4 rfl rfl ?_
  refine x_call0VN1i G cK_has 2 rfl rfl (cVN G.2.2.2.2.1 G.2.2.2.2.2.2.1 nd_494 wd_268 wd_5 wd_50 wd_269 (by decide +kernel) ⟨(Nat.le_of_ble_eq_true rfl), (Nat.le_of_ble_eq_true rfl)⟩) dP_where_5 (Nat.le_of_ble_eq_true rfl) ⟨Nat.zero_le _, Nat.zero_le _⟩ (fun r5 e5 => ?_)
  subst e5
  refine x_if_eq G 15 dP_where_8 (by decide) (fun h8 => ?_) (fun h8 => ?_)
  · have h8 := bI_eq0.mp h8
    exact x_throw G hTH htr hex hlk own_104 wd_509 wd_510 wd_63 (tx := "no such crane or time") (by decide) dP_where_15 dP_where_18 dP_where_19 dP_where_21 dP_where_24 ⟨(Nat.le_of_ble_eq_true rfl), (Nat.le_of_ble_eq_true rfl), (Nat.le_of_ble_eq_true rfl), (Nat.le_of_ble_eq_true rfl)⟩
  · have h8 := bI_ne0.mp h8
    refine x_iload_n G 2 dP_where_11 rfl rfl ?_
    refine x_if_ge G 25 dP_where_12 (by decide) (fun h12 => ?_) (fun h12 => ?_)
    · exact (hno (⟨h8, i32_nlt h12⟩)).elim
    · exact x_throw G hTH htr hex hlk own_104 wd_509 wd_510 wd_63 (tx := "no such crane or time") (by decide) dP_where_15 dP_where_18 dP_where_19 dP_where_21 dP_where_24 ⟨(Nat.le_of_ble_eq_true rfl), (Nat.le_of_ble_eq_true rfl), (Nat.le_of_ble_eq_true rfl), (Nat.le_of_ble_eq_true rfl)⟩
set_option maxHeartbeats 4000000 in
set_option maxRecDepth 100000 in
theorem tP_where2 {l : Launch} {D : va_G} {cI cZ cJ : ClassId} {ad : Nat → Nat} {σ : xSg} {v t : Int32} (hk : (¬ v < 0 ∧ ¬ σ 2 0 ≤ v ∧ ¬ (4 : Int32) ≤ v) ∧ ¬ t < 0) (hpl : σ 0 4 = 0) (htr : l.stackTraces = false) : xCT l D vCl (tyC cI cZ cJ) nwW (wC ad cI cZ cJ σ) yP_where (.code yP_where bP_where 3 (some .int) :: bigW) 6 [.ref (ad 0), .int v, .int t] "java/lang/IllegalStateException" := by
  refine xCT.of (cc := bP_where) (nL := 3) (ret := (some .int)) rfl (by decide) [.ref (ad 0), .int v, .int t] rfl (Nat.le_of_ble_eq_true rfl) ?_
  intro pp ee ss mm aa bb me cde AA G hr hlk hex hTH
  refine x_aload_n G 0 dP_where_0 rfl rfl ?_
  refine x_get G 0 rfl rfl 1 (by decide) rfl (fun w h => .tail _ (iP_ok w h)) (.tail _ wd_219) rfl dP_where_1 ?_
  refine x_iload_n G 1 dP_where_4 rfl rfl ?_
  refine x_call0VN1i G cK_has 2 rfl rfl (cVN G.2.2.2.2.1 G.2.2.2.2.2.2.1 nd_494 wd_268 wd_5 wd_50 wd_269 (by decide +kernel) ⟨(Nat.le_of_ble_eq_true rfl), (Nat.le_of_ble_eq_true rfl)⟩) dP_where_5 (Nat.le_of_ble_eq_true rfl) ⟨Nat.zero_le _, Nat.zero_le _⟩ (fun r5 e5 => ?_)
  subst e5
  refine x_if_eq G 15 dP_where_8 (by decide) (fun h8 => ?_) (fun h8 => ?_)
  · have h8 := bI_eq0.mp h8
    first | exact absurd hk.1 h8 | exact absurd (by have := hk.2; rw [i32_lt] at this; rw [i32_le]; omega) h12
  · have h8 := bI_ne0.mp h8
    refine x_iload_n G 2 dP_where_11 rfl rfl ?_
    refine x_if_ge G 25 dP_where_12 (by decide) (fun h12 => ?_) (fun h12 => ?_)
    · refine x_aload_n G 0 dP_where_25 rfl rfl ?_
      refine x_get G 0 rfl rfl 4 (by decide) rfl (fun w h => .tail _ (iP_ok w h)) (.tail _ wd_222) rfl dP_where_26 ?_
      refine x_if_ne G 42 dP_where_29 (by decide) (fun h29 => ?_) (fun h29 => ?_)
      · exact absurd hpl h29
      · exact x_throw G hTH htr hex hlk own_70 wd_449 wd_450 wd_60 (tx := "no plan") (by decide) dP_where_32 dP_where_35 dP_where_36 dP_where_38 dP_where_41 ⟨(Nat.le_of_ble_eq_true rfl), (Nat.le_of_ble_eq_true rfl), (Nat.le_of_ble_eq_true rfl), (Nat.le_of_ble_eq_true rfl)⟩
    · first | exact absurd hk.1 h8 | exact absurd (by have := hk.2; rw [i32_lt] at this; rw [i32_le]; omega) h12
set_option maxHeartbeats 4000000 in
set_option maxRecDepth 100000 in
theorem cP_where {l : Launch} {D : va_G} {cI cZ cJ : ClassId} {ad : Nat → Nat} {σ : xSg} {n C g s : Nat} {hh ww mo mi : Nat → Nat} {ou : Nat → Bool} (hB : PB σ n hh ww) (hK : PK σ C mo mi ou) (hS : PS σ g s) {A : Nat → Nat} (hpl : σ 0 4 = 1) (hPN : PLN σ A (mvF hh ww) mo mi g s) {c t : Nat} (hc : c < C) (ht : t < 2 ^ 31) : xCi0 l D vCl (tyC cI cZ cJ) nwW (wC ad cI cZ cJ σ) yP_where (.code yP_where bP_where 3 (some .int) :: bigW) 2 [.ref (ad 0), .int (nI c), .int (nI t)] (fun r => r = whA A (mvF hh ww) mo mi g s c t) := by
  refine xCi0.of (cc := bP_where) (nL := 3) (ret := (some .int)) rfl (by decide) [.ref (ad 0), .int (nI c), .int (nI t)] rfl (Nat.le_of_ble_eq_true rfl) ?_
  intro pp ee ss mm aa bb me cde AA G hr hlk
  obtain ⟨hn8, hnt, hbw, hbb, hb0⟩ := id hB
  obtain ⟨hC1, hC4, hC, hrt, hbd⟩ := id hK
  obtain ⟨hg3, hs20, hg, hs⟩ := id hS
  have hmv := hB.mv
  have hcm : ∀ c b, c < 4 → b < 8 → cmA A (mvF hh ww) mo mi 8 g s c b ≤ 675540 := fun c b q1 q2 => cmA_le hmv (fun c _ => (hbd c).2.2.2) (fun c _ => (hbd c).1) hg3 hs20 q1 q2
  have htk : ∀ c b, tkA (mvF hh ww) mo mi c b ≤ 25000 := fun c b => tkA_le (hmv b) (hbd c).2.2.2 (hbd c).1
  have hbe : ∀ b, b < 8 → A b < 4 → σ 11 b = nI ((fun b => cmA A (mvF hh ww) mo mi 8 g s (A b) b) b) ∧ σ 12 b = nI ((enA A (mvF hh ww) mo mi g s) b) ∧ (fun b => cmA A (mvF hh ww) mo mi 8 g s (A b) b) b ≤ 1000000 ∧ (enA A (mvF hh ww) mo mi g s) b ≤ 1000000 := fun b q1 q2 => by
    have h1 := hPN.1.2.1.2.1 b q1 (Nat.zero_le _) q2
    have h2 := hcm (A b) b q2 q1
    have h3 := htk (A b) b
    exact ⟨h1.1, h1.2, by show cmA _ _ _ _ _ _ _ _ _ ≤ _; omega, by unfold enA; omega⟩
  obtain ⟨h13, h14⟩ := hPN.1.1.2 c (by omega)
  cases hf : fstA A c 8 with
  | none =>
    rw [hf] at h13
    have h13 : σ 13 c = -1 := h13
    refine x_aload_n G 0 dP_where_0 rfl rfl ?_
    refine x_get G 0 rfl rfl 1 (by decide) rfl (fun w h => .tail _ (iP_ok w h)) (.tail _ wd_219) rfl dP_where_1 ?_
    refine x_iload_n G 1 dP_where_4 rfl rfl ?_
    refine x_call0VN1i G (cK_hasN hC hC4 (by omega)) 2 rfl rfl (cVN G.2.2.2.2.1 G.2.2.2.2.2.2.1 nd_494 wd_268 wd_5 wd_50 wd_269 (by decide +kernel) ⟨(Nat.le_of_ble_eq_true rfl), (Nat.le_of_ble_eq_true rfl)⟩) dP_where_5 (Nat.le_of_ble_eq_true rfl) ⟨Nat.zero_le _, Nat.zero_le _⟩ (fun r5 e5 => ?_)
    subst e5
    refine x_if_eq G 15 dP_where_8 (by decide) (fun h8 => ?_) (fun h8 => ?_)
    · have h8 := bI_eq0.mp h8
      exact absurd hc h8
    · have h8 := bI_ne0.mp h8
      refine x_iload_n G 2 dP_where_11 rfl rfl ?_
      refine x_if_ge G 25 dP_where_12 (by decide) (fun h12 => ?_) (fun h12 => (by exact absurd (nI_pos' ht) h12))
      refine x_aload_n G 0 dP_where_25 rfl rfl ?_
      refine x_get G 0 rfl rfl 4 (by decide) rfl (fun w h => .tail _ (iP_ok w h)) (.tail _ wd_222) rfl dP_where_26 ?_
      refine x_if_ne G 42 dP_where_29 (by decide) (fun h29 => ?_) (fun h29 => (by rw [hpl] at h29; exact absurd h29 (by decide)))
      refine x_aload_n G 0 dP_where_42 rfl rfl ?_
      refine x_get G 0 rfl rfl 2 (by decide) rfl (fun w h => .tail _ (iP_ok w h)) (.tail _ wd_220) rfl dP_where_43 ?_
      refine x_iload_n G 1 dP_where_46 rfl rfl ?_
      refine x_iload_n G 2 dP_where_47 rfl rfl ?_
      refine x_call0VN2i G (cT_bayCameTo0 hC hC4 hc h13) 3 rfl rfl (cVN G.2.2.2.2.1 G.2.2.2.2.2.2.1 nd_537 wd_539 wd_28 wd_53 wd_540 (by decide +kernel) ⟨(Nat.le_of_ble_eq_true rfl), (Nat.le_of_ble_eq_true rfl)⟩) dP_where_48 (Nat.le_of_ble_eq_true rfl) ⟨Nat.zero_le _, Nat.zero_le _⟩ (fun r48 e48 => ?_)
      subst e48
      exact x_ret0i G hr hlk rfl dP_where_51 (by unfold whA; rw [hf])
  | some f =>
    rw [hf] at h13
    obtain ⟨x, hx, hfx, hx8, -⟩ := lst_of_fst hf
    rw [hx] at h14
    have h13 : σ 13 c = nI f := h13
    have h14 : σ 14 c = nI x := h14
    refine x_aload_n G 0 dP_where_0 rfl rfl ?_
    refine x_get G 0 rfl rfl 1 (by decide) rfl (fun w h => .tail _ (iP_ok w h)) (.tail _ wd_219) rfl dP_where_1 ?_
    refine x_iload_n G 1 dP_where_4 rfl rfl ?_
    refine x_call0VN1i G (cK_hasN hC hC4 (by omega)) 2 rfl rfl (cVN G.2.2.2.2.1 G.2.2.2.2.2.2.1 nd_494 wd_268 wd_5 wd_50 wd_269 (by decide +kernel) ⟨(Nat.le_of_ble_eq_true rfl), (Nat.le_of_ble_eq_true rfl)⟩) dP_where_5 (Nat.le_of_ble_eq_true rfl) ⟨Nat.zero_le _, Nat.zero_le _⟩ (fun r5 e5 => ?_)
    subst e5
    refine x_if_eq G 15 dP_where_8 (by decide) (fun h8 => ?_) (fun h8 => ?_)
    · have h8 := bI_eq0.mp h8
      exact absurd hc h8
    · have h8 := bI_ne0.mp h8
      refine x_iload_n G 2 dP_where_11 rfl rfl ?_
      refine x_if_ge G 25 dP_where_12 (by decide) (fun h12 => ?_) (fun h12 => (by exact absurd (nI_pos' ht) h12))
      refine x_aload_n G 0 dP_where_25 rfl rfl ?_
      refine x_get G 0 rfl rfl 4 (by decide) rfl (fun w h => .tail _ (iP_ok w h)) (.tail _ wd_222) rfl dP_where_26 ?_
      refine x_if_ne G 42 dP_where_29 (by decide) (fun h29 => ?_) (fun h29 => (by rw [hpl] at h29; exact absurd h29 (by decide)))
      refine x_aload_n G 0 dP_where_42 rfl rfl ?_
      refine x_get G 0 rfl rfl 2 (by decide) rfl (fun w h => .tail _ (iP_ok w h)) (.tail _ wd_220) rfl dP_where_43 ?_
      refine x_iload_n G 1 dP_where_46 rfl rfl ?_
      refine x_iload_n G 2 dP_where_47 rfl rfl ?_
      refine x_call0VN2i G (cT_bayCameTo (cm := cmA A (mvF hh ww) mo mi 8 g s c) hC hC4 hc h13 h14 hfx hx8 ht (fun b q1 q2 => ⟨hPN.1.2.1.1 c f x (Nat.zero_le _) (by omega) hf hx b q1 q2, by have := hcm c b (by omega) (by omega); omega⟩)) 3 rfl rfl (cVN G.2.2.2.2.1 G.2.2.2.2.2.2.1 nd_537 wd_539 wd_28 wd_53 wd_540 (by decide +kernel) ⟨(Nat.le_of_ble_eq_true rfl), (Nat.le_of_ble_eq_true rfl)⟩) dP_where_48 (Nat.le_of_ble_eq_true rfl) ⟨Nat.zero_le _, Nat.zero_le _⟩ (fun r48 e48 => ?_)
      subst e48
      exact x_ret0i G hr hlk rfl dP_where_51 (by unfold whA; rw [hf, hx]; rfl)
set_option maxHeartbeats 4000000 in
set_option maxRecDepth 100000 in
theorem tP_look1 {l : Launch} {D : va_G} {cI cZ cJ : ClassId} {ad : Nat → Nat} {σ : xSg} {v t : Int32} (hno : ¬ ((¬ v < 0 ∧ ¬ σ 1 2 ≤ v ∧ ¬ (8 : Int32) ≤ v) ∧ ¬ t < 0 ∧ ¬ (2 : Int32) < t)) (htr : l.stackTraces = false) : xCT l D vCl (tyC cI cZ cJ) nwW (wC ad cI cZ cJ σ) yP_look (.code yP_look bP_look 3 (some .int) :: bigW) 6 [.ref (ad 0), .int v, .int t] "java/lang/IndexOutOfBoundsException" := by
  refine xCT.of (cc := bP_look) (nL := 3) (ret := (some .int)) rfl (by decide) [.ref (ad 0), .int v, .int t] rfl (Nat.le_of_ble_eq_true rfl) ?_
  intro pp ee ss mm aa bb me cde AA G hr hlk hex hTH
  refine x_aload_n G 0 dP_look_0 rfl rfl ?_
  refine x_get G 0 rfl rfl 0 (by decide) rfl (fun w h => .tail _ (iP_ok w h)) (.tail _ wd_218) rfl dP_look_1 ?_
  refine x_iload_n G 1 dP_look_4 rfl rfl ?_
  refine x_call0VN1i G cB_has 1 rfl rfl (cVN G.2.2.2.2.1 G.2.2.2.2.2.2.1 nd_587 wd_260 wd_3 wd_49 wd_261 (by decide +kernel) ⟨(Nat.le_of_ble_eq_true rfl), (Nat.le_of_ble_eq_true rfl)⟩) dP_look_5 (Nat.le_of_ble_eq_true rfl) ⟨Nat.zero_le _, Nat.zero_le _⟩ (fun r5 e5 => ?_)
  subst e5
  refine x_if_eq G 20 dP_look_8 (by decide) (fun h8 => ?_) (fun h8 => ?_)
  · have h8 := bI_eq0.mp h8
    exact x_throw G hTH htr hex hlk own_104 wd_509 wd_510 wd_63 (tx := "no such bay, or nothing such of it") (by decide) dP_look_20 dP_look_23 dP_look_24 dP_look_26 dP_look_29 ⟨(Nat.le_of_ble_eq_true rfl), (Nat.le_of_ble_eq_true rfl), (Nat.le_of_ble_eq_true rfl), (Nat.le_of_ble_eq_true rfl)⟩
  · have h8 := bI_ne0.mp h8
    refine x_iload_n G 2 dP_look_11 rfl rfl ?_
    refine x_iconst G (0) dP_look_12 (by decide) ?_
    refine x_iconst G (2) dP_look_13 (by decide) ?_
    refine x_call0S3i G cP_within (cS G.2.2.2.2.1 wd_238 wd_239 wd_48 wd_240 (by decide +kernel) ⟨(Nat.le_of_ble_eq_true rfl), (Nat.le_of_ble_eq_true rfl)⟩) dP_look_14 (Nat.le_of_ble_eq_true rfl) ⟨Nat.zero_le _, Nat.zero_le _⟩ (fun r14 e14 => ?_)
    subst e14
    refine x_if_ne G 30 dP_look_17 (by decide) (fun h17 => ?_) (fun h17 => ?_)
    · have h17 := bI_ne0.mp h17
      exact (hno (⟨h8, h17⟩)).elim
    · have h17 := bI_eq0.mp h17
      exact x_throw G hTH htr hex hlk own_104 wd_509 wd_510 wd_63 (tx := "no such bay, or nothing such of it") (by decide) dP_look_20 dP_look_23 dP_look_24 dP_look_26 dP_look_29 ⟨(Nat.le_of_ble_eq_true rfl), (Nat.le_of_ble_eq_true rfl), (Nat.le_of_ble_eq_true rfl), (Nat.le_of_ble_eq_true rfl)⟩
set_option maxHeartbeats 4000000 in
set_option maxRecDepth 100000 in
theorem cP_look {l : Launch} {D : va_G} {cI cZ cJ : ClassId} {ad : Nat → Nat} {σ : xSg} {n C g s : Nat} {hh ww mo mi : Nat → Nat} {ou : Nat → Bool} (hB : PB σ n hh ww) (hK : PK σ C mo mi ou) (hS : PS σ g s) {A : Nat → Nat} {pl : Bool} (hpl : σ 0 4 = bI (pl = true)) (hPN : pl = true → PLN σ A (mvF hh ww) mo mi g s) {b : Nat} {t : Int32} (hb : b < n) (ht : ¬ t < 0 ∧ ¬ (2 : Int32) < t) : xCi0 l D vCl (tyC cI cZ cJ) nwW (wC ad cI cZ cJ σ) yP_look (.code yP_look bP_look 3 (some .int) :: bigW) 1 [.ref (ad 0), .int (nI b), .int t] (fun r => r = if t = 0 then nI (hh b) else if t = 1 then nI (ww b) else if pl = true then aI (A b) else -1) := by
  refine xCi0.of (cc := bP_look) (nL := 3) (ret := (some .int)) rfl (by decide) [.ref (ad 0), .int (nI b), .int t] rfl (Nat.le_of_ble_eq_true rfl) ?_
  intro pp ee ss mm aa bb me cde AA G hr hlk
  obtain ⟨hn8, hnt, hbw, hbb, hb0⟩ := id hB
  obtain ⟨hC1, hC4, hC, hrt, hbd⟩ := id hK
  obtain ⟨hg3, hs20, hg, hs⟩ := id hS
  obtain ⟨hb1, hb2⟩ := hbw b hb
  refine x_aload_n G 0 dP_look_0 rfl rfl ?_
  refine x_get G 0 rfl rfl 0 (by decide) rfl (fun w h => .tail _ (iP_ok w h)) (.tail _ wd_218) rfl dP_look_1 ?_
  refine x_iload_n G 1 dP_look_4 rfl rfl ?_
  refine x_call0VN1i G (cB_hasN hnt hn8 (by omega)) 1 rfl rfl (cVN G.2.2.2.2.1 G.2.2.2.2.2.2.1 nd_587 wd_260 wd_3 wd_49 wd_261 (by decide +kernel) ⟨(Nat.le_of_ble_eq_true rfl), (Nat.le_of_ble_eq_true rfl)⟩) dP_look_5 (Nat.le_of_ble_eq_true rfl) ⟨Nat.zero_le _, Nat.zero_le _⟩ (fun r5 e5 => ?_)
  subst e5
  refine x_if_eq G 20 dP_look_8 (by decide) (fun h8 => ?_) (fun h8 => ?_)
  · have h8 := bI_eq0.mp h8
    first | exact absurd hb h8 | exact absurd ht h17
  · have h8 := bI_ne0.mp h8
    refine x_iload_n G 2 dP_look_11 rfl rfl ?_
    refine x_iconst G (0) dP_look_12 (by decide) ?_
    refine x_iconst G (2) dP_look_13 (by decide) ?_
    refine x_call0S3i G cP_within (cS G.2.2.2.2.1 wd_238 wd_239 wd_48 wd_240 (by decide +kernel) ⟨(Nat.le_of_ble_eq_true rfl), (Nat.le_of_ble_eq_true rfl)⟩) dP_look_14 (Nat.le_of_ble_eq_true rfl) ⟨Nat.zero_le _, Nat.zero_le _⟩ (fun r14 e14 => ?_)
    subst e14
    refine x_if_ne G 30 dP_look_17 (by decide) (fun h17 => ?_) (fun h17 => ?_)
    · have h17 := bI_ne0.mp h17
      refine x_iload_n G 2 dP_look_30 rfl rfl ?_
      refine x_if_ne G 44 dP_look_31 (by decide) (fun h31 => ?_) (fun h31 => ?_)
      · refine x_iload_n G 2 dP_look_44 rfl rfl ?_
        refine x_iconst G (1) dP_look_45 (by decide) ?_
        refine x_icmp_ne G 59 dP_look_46 (by decide) (fun h46 => ?_) (fun h46 => ?_)
        · refine x_aload_n G 0 dP_look_59 rfl rfl ?_
          refine x_get G 0 rfl rfl 4 (by decide) rfl (fun w h => .tail _ (iP_ok w h)) (.tail _ wd_222) rfl dP_look_60 ?_
          refine x_if_eq G 78 dP_look_63 (by decide) (fun h63 => ?_) (fun h63 => ?_)
          · rw [hpl, bI_eq0] at h63
            refine x_iconst G (-1) dP_look_78 (by decide) ?_
            exact x_ret0i G hr hlk rfl dP_look_79 (by first | rw [if_neg h31, if_neg h46, if_pos h63] | rw [if_neg h31, if_neg h46, if_neg h63])
          · rw [hpl, bI_ne0] at h63
            refine x_aload_n G 0 dP_look_66 rfl rfl ?_
            refine x_get G 0 rfl rfl 2 (by decide) rfl (fun w h => .tail _ (iP_ok w h)) (.tail _ wd_220) rfl dP_look_67 ?_
            refine x_getN G 3 rfl rfl 2 (by decide) rfl (fun w h => .tail _ (iT_ok w h)) nd_144 rfl dP_look_70 ?_
            refine x_iload_n G 1 dP_look_73 rfl rfl ?_
            refine x_ialdN G 10 0 rfl rfl (by omega) (by decide) dP_look_74 ?_
            refine x_top (z := aI (A b)) ((hPN h63).1.1.1 b (by omega)) ?_
            refine x_goto G 79 dP_look_75 (by decide) ?_
            exact x_ret0i G hr hlk rfl dP_look_79 (by first | rw [if_neg h31, if_neg h46, if_pos h63] | rw [if_neg h31, if_neg h46, if_neg h63])
        · refine x_aload_n G 0 dP_look_49 rfl rfl ?_
          refine x_get G 0 rfl rfl 0 (by decide) rfl (fun w h => .tail _ (iP_ok w h)) (.tail _ wd_218) rfl dP_look_50 ?_
          refine x_getN G 1 rfl rfl 1 (by decide) rfl (fun w h => .tail _ (iB_ok w h)) nd_81 rfl dP_look_53 ?_
          refine x_iload_n G 1 dP_look_56 rfl rfl ?_
          refine x_ialdN G 6 0 rfl rfl (by omega) (by decide) dP_look_57 ?_
          exact x_ret0i G hr hlk rfl dP_look_58 (by rw [if_neg h31, if_pos h46]; exact hb2)
      · refine x_aload_n G 0 dP_look_34 rfl rfl ?_
        refine x_get G 0 rfl rfl 0 (by decide) rfl (fun w h => .tail _ (iP_ok w h)) (.tail _ wd_218) rfl dP_look_35 ?_
        refine x_getN G 1 rfl rfl 0 (by decide) rfl (fun w h => .tail _ (iB_ok w h)) nd_79 rfl dP_look_38 ?_
        refine x_iload_n G 1 dP_look_41 rfl rfl ?_
        refine x_ialdN G 5 0 rfl rfl (by omega) (by decide) dP_look_42 ?_
        exact x_ret0i G hr hlk rfl dP_look_43 (by rw [if_pos h31]; exact hb1)
    · have h17 := bI_eq0.mp h17
      first | exact absurd hb h8 | exact absurd ht h17
