/-! THE REFERENCE: small methods, spans, steps -/
/-- what the reference holds -/
def PM (σ : xSg) (n C g s : Nat) (hh ww mo mi : Nat → Nat) (ou : Nat → Bool) : Prop := n ≤ 8 ∧ 1 ≤ C ∧ C ≤ 4 ∧ g ≤ 3 ∧ s ≤ 20 ∧ σ 0 3 = nI n ∧ σ 0 1 = nI C ∧ σ 0 2 = nI g ∧ σ 0 9 = nI s ∧ (∀ b, b < n → σ 1 b = nI (hh b) ∧ σ 2 b = nI (ww b)) ∧ (∀ c, c < 4 → σ 3 c = nI (mo c) ∧ σ 4 c = nI (mi c) ∧ σ 5 c = bI (ou c = true)) ∧ (∀ b, hh b ≤ 50 ∧ ww b ≤ 200) ∧ (∀ b, n ≤ b → hh b = 0 ∧ ww b = 0) ∧ ∀ c, 1 ≤ mo c ∧ mo c ≤ 100 ∧ 1 ≤ mi c ∧ mi c ≤ 100
theorem PM.of {σ τ : xSg} {n C g s : Nat} {hh ww mo mi : Nat → Nat} {ou : Nat → Bool} (h : PM σ n C g s hh ww mo mi ou) (h0 : τ 0 3 = σ 0 3 ∧ τ 0 1 = σ 0 1 ∧ τ 0 2 = σ 0 2 ∧ τ 0 9 = σ 0 9) (h1 : τ 1 = σ 1) (h2 : τ 2 = σ 2) (h3 : τ 3 = σ 3) (h4 : τ 4 = σ 4) (h5 : τ 5 = σ 5) : PM τ n C g s hh ww mo mi ou := by
  unfold PM; rw [h0.1, h0.2.1, h0.2.2.1, h0.2.2.2, h1, h2, h3, h4, h5]; exact h
theorem PM.mv {σ : xSg} {n C g s : Nat} {hh ww mo mi : Nat → Nat} {ou : Nat → Bool} (h : PM σ n C g s hh ww mo mi ou) (b : Nat) : mvF hh ww b ≤ 250 := by
  have := h.2.2.2.2.2.2.2.2.2.2.2.1 b; unfold mvF; omega
set_option maxHeartbeats 4000000 in
set_option maxRecDepth 100000 in
theorem cM_thrown {l : Launch} {D : va_G} {cI cZ cJ : ClassId} {ad : Nat → Nat} {σ : xSg}  : xCi0 l D vCl (tyC cI cZ cJ) nwW (wM ad cI cZ cJ σ) yM_thrown (.code yM_thrown bM_thrown 1 (some .int) :: bigW) 0 [.ref (ad 0)] (fun r => r = σ 0 0) := by
  refine xCi0.of (cc := bM_thrown) (nL := 1) (ret := (some .int)) rfl (by decide) [.ref (ad 0)] rfl (Nat.le_of_ble_eq_true rfl) ?_
  intro pp ee ss mm aa bb me cde AA G hr hlk
  refine x_aload_n G 0 dM_thrown_0 rfl rfl ?_
  refine x_get G 0 rfl rfl 0 (by decide) rfl (fun w h => .tail _ (iM_ok w h)) (.tail _ wd_595) rfl dM_thrown_1 ?_
  exact x_ret0i G hr hlk rfl dM_thrown_4 rfl
set_option maxHeartbeats 4000000 in
set_option maxRecDepth 100000 in
theorem cM_refuse {l : Launch} {D : va_G} {cI cZ cJ : ClassId} {ad : Nat → Nat} {σ : xSg} {v : Int32} : xCi l D vCl (tyC cI cZ cJ) nwW (wM ad cI cZ cJ) yM_refuse (.code yM_refuse bM_refuse 2 (some .int) :: bigW) 0 [.ref (ad 0), .int v] σ (fun r u => r = 0 ∧ u = sst σ 0 0 v) := by
  refine xCi.of (cc := bM_refuse) (nL := 2) (ret := (some .int)) rfl (by decide) [.ref (ad 0), .int v] rfl (Nat.le_of_ble_eq_true rfl) ?_
  intro pp ee ss mm aa bb me cde AA G hr hlk
  refine x_aload_n G 0 dM_refuse_0 rfl rfl ?_
  refine x_iload_n G 1 dM_refuse_1 rfl rfl ?_
  refine x_put G 0 rfl rfl 0 (by decide) (Nat.le_of_ble_eq_true rfl) mput_0_0 (fun w h => .tail _ (iM_ok w h)) tM_ok nM_ok (.tail _ wd_595) rfl rfl (tM_ok 0 (by decide)) rfl rfl dM_refuse_2 ?_
  refine x_iconst G (0) dM_refuse_5 (by decide) ?_
  exact x_reti G hr hlk rfl dM_refuse_6 ⟨rfl, rfl⟩
set_option maxHeartbeats 4000000 in
set_option maxRecDepth 100000 in
theorem cM_in {l : Launch} {D : va_G} {cI cZ cJ : ClassId} {ad : Nat → Nat} {σ : xSg} {v a b : Int32} : xCi0 l D vCl (tyC cI cZ cJ) nwW (wM ad cI cZ cJ σ) yM_in (.code yM_in bM_in 3 (some .boolean) :: bigW) 0 [.int v, .int a, .int b] (fun r => r = bI (¬ v < a ∧ ¬ b < v)) := by
  refine xCi0.of (cc := bM_in) (nL := 3) (ret := (some .boolean)) rfl (by decide) [.int v, .int a, .int b] rfl (Nat.le_of_ble_eq_true rfl) ?_
  intro pp ee ss mm aa bb me cde AA G hr hlk
  refine x_iload_n G 0 dM_in_0 rfl rfl ?_
  refine x_iload_n G 1 dM_in_1 rfl rfl ?_
  refine x_icmp_lt G 14 dM_in_2 (by decide) (fun h2 => ?_) (fun h2 => ?_)
  · refine x_iconst G (0) dM_in_14 (by decide) ?_
    exact x_ret0i G hr hlk rfl dM_in_15 (by simp [bI, *])
  · refine x_iload_n G 0 dM_in_5 rfl rfl ?_
    refine x_iload_n G 2 dM_in_6 rfl rfl ?_
    refine x_icmp_gt G 14 dM_in_7 (by decide) (fun h7 => ?_) (fun h7 => ?_)
    · refine x_iconst G (0) dM_in_14 (by decide) ?_
      exact x_ret0i G hr hlk rfl dM_in_15 (by simp [bI, *])
    · refine x_iconst G (1) dM_in_10 (by decide) ?_
      refine x_goto G 15 dM_in_11 (by decide) ?_
      exact x_ret0i G hr hlk rfl dM_in_15 (by simp [bI, *])
set_option maxHeartbeats 4000000 in
set_option maxRecDepth 100000 in
theorem cM_isCrane {l : Launch} {D : va_G} {cI cZ cJ : ClassId} {ad : Nat → Nat} {σ : xSg} {v : Int32} : xCi0 l D vCl (tyC cI cZ cJ) nwW (wM ad cI cZ cJ σ) yM_isCrane (.code yM_isCrane bM_isCrane 2 (some .boolean) :: bigW) 0 [.ref (ad 0), .int v] (fun r => r = bI (¬ v < 0 ∧ ¬ σ 0 1 ≤ v)) := by
  refine xCi0.of (cc := bM_isCrane) (nL := 2) (ret := (some .boolean)) rfl (by decide) [.ref (ad 0), .int v] rfl (Nat.le_of_ble_eq_true rfl) ?_
  intro pp ee ss mm aa bb me cde AA G hr hlk
  refine x_iload_n G 1 dM_isCrane_0 rfl rfl ?_
  refine x_if_lt G 16 dM_isCrane_1 (by decide) (fun h1 => ?_) (fun h1 => ?_)
  · refine x_iconst G (0) dM_isCrane_16 (by decide) ?_
    exact x_ret0i G hr hlk rfl dM_isCrane_17 (by simp [bI, *])
  · refine x_iload_n G 1 dM_isCrane_4 rfl rfl ?_
    refine x_aload_n G 0 dM_isCrane_5 rfl rfl ?_
    refine x_get G 0 rfl rfl 1 (by decide) rfl (fun w h => .tail _ (iM_ok w h)) (.tail _ wd_596) rfl dM_isCrane_6 ?_
    refine x_icmp_ge G 16 dM_isCrane_9 (by decide) (fun h9 => ?_) (fun h9 => ?_)
    · refine x_iconst G (0) dM_isCrane_16 (by decide) ?_
      exact x_ret0i G hr hlk rfl dM_isCrane_17 (by simp [bI, *])
    · refine x_iconst G (1) dM_isCrane_12 (by decide) ?_
      refine x_goto G 17 dM_isCrane_13 (by decide) ?_
      exact x_ret0i G hr hlk rfl dM_isCrane_17 (by simp [bI, *])
set_option maxHeartbeats 4000000 in
set_option maxRecDepth 100000 in
theorem cM_all {l : Launch} {D : va_G} {cI cZ cJ : ClassId} {ad : Nat → Nat} {σ : xSg} {b : Nat} (hb : b < 8) : xCi0 l D vCl (tyC cI cZ cJ) nwW (wM ad cI cZ cJ σ) yM_all (.code yM_all bM_all 2 (some .int) :: bigW) 0 [.ref (ad 0), .int (nI b)] (fun r => r = σ 1 b + σ 2 b) := by
  refine xCi0.of (cc := bM_all) (nL := 2) (ret := (some .int)) rfl (by decide) [.ref (ad 0), .int (nI b)] rfl (Nat.le_of_ble_eq_true rfl) ?_
  intro pp ee ss mm aa bb me cde AA G hr hlk
  refine x_aload_n G 0 dM_all_0 rfl rfl ?_
  refine x_get G 0 rfl rfl 4 (by decide) rfl (fun w h => .tail _ (iM_ok w h)) (.tail _ wd_599) rfl dM_all_1 ?_
  refine x_iload_n G 1 dM_all_4 rfl rfl ?_
  refine x_ialdN G 1 0 rfl rfl (by omega) (by decide) dM_all_5 ?_
  refine x_aload_n G 0 dM_all_6 rfl rfl ?_
  refine x_get G 0 rfl rfl 5 (by decide) rfl (fun w h => .tail _ (iM_ok w h)) (.tail _ wd_600) rfl dM_all_7 ?_
  refine x_iload_n G 1 dM_all_10 rfl rfl ?_
  refine x_ialdN G 2 0 rfl rfl (by omega) (by decide) dM_all_11 ?_
  refine x_iadd G dM_all_12 ?_
  exact x_ret0i G hr hlk rfl dM_all_13 rfl
set_option maxHeartbeats 4000000 in
set_option maxRecDepth 100000 in
theorem cM_takes {l : Launch} {D : va_G} {cI cZ cJ : ClassId} {ad : Nat → Nat} {σ : xSg} {n C g s : Nat} {hh ww mo mi : Nat → Nat} {ou : Nat → Bool} (hP : PM σ n C g s hh ww mo mi ou) {c b : Nat} (hc : c < 4) (hb : b < n) : xCi0 l D vCl (tyC cI cZ cJ) nwW (wM ad cI cZ cJ σ) yM_takes (.code yM_takes bM_takes 4 (some .int) :: bigW) 1 [.ref (ad 0), .int (nI c), .int (nI b)] (fun r => r = nI (tkA (mvF hh ww) mo mi c b)) := by
  refine xCi0.of (cc := bM_takes) (nL := 4) (ret := (some .int)) rfl (by decide) [.ref (ad 0), .int (nI c), .int (nI b), .null] rfl (Nat.le_of_ble_eq_true rfl) ?_
  intro pp ee ss mm aa bb me cde AA G hr hlk
  obtain ⟨hn8, hC1, hC4, hg3, hs20, hn, hC, hg, hs, hbw, hrt, hbb, hb0, hbd⟩ := id hP
  obtain ⟨h3, h4, -⟩ := hrt c hc
  obtain ⟨hm1, hm2, hi1, hi2⟩ := hbd c
  have hmv := hP.mv b
  have hvm : mvF hh ww b * mi c ≤ 250 * 100 := Nat.mul_le_mul hmv hi2
  have e12 : σ 1 b + σ 2 b = nI (mvF hh ww b) := by rw [(hbw b hb).1, (hbw b hb).2, nI_add]; rfl
  have htk := cdv_eq (v := mvF hh ww b * mi c) hm1
  refine x_aload_n G 0 dM_takes_0 rfl rfl ?_
  refine x_iload_n G 2 dM_takes_1 rfl rfl ?_
  refine x_call0V1i G (cM_all (by omega)) 0 rfl rfl (cV G.2.2.2.2.1 wd_679 wd_681 wd_37 wd_55 wd_682 (by decide +kernel) ⟨(Nat.le_of_ble_eq_true rfl), (Nat.le_of_ble_eq_true rfl)⟩) dM_takes_2 (Nat.le_of_ble_eq_true rfl) ⟨Nat.zero_le _, Nat.zero_le _⟩ (fun r2 e2 => ?_)
  subst e2
  refine x_aload_n G 0 dM_takes_5 rfl rfl ?_
  refine x_get G 0 rfl rfl 7 (by decide) rfl (fun w h => .tail _ (iM_ok w h)) (.tail _ wd_602) rfl dM_takes_6 ?_
  refine x_iload_n G 1 dM_takes_9 rfl rfl ?_
  refine x_ialdN G 4 0 rfl rfl (by omega) (by decide) dM_takes_10 ?_
  refine x_imul G dM_takes_11 ?_
  refine x_top (z := nI (mvF hh ww b * mi c)) (by rw [e12, h4]; exact pk_mul _ _) ?_
  refine x_istore_n G 3 dM_takes_12 rfl (by decide) ?_
  refine x_iload_n G 3 dM_takes_13 rfl rfl ?_
  refine x_aload_n G 0 dM_takes_14 rfl rfl ?_
  refine x_get G 0 rfl rfl 6 (by decide) rfl (fun w h => .tail _ (iM_ok w h)) (.tail _ wd_601) rfl dM_takes_15 ?_
  refine x_iload_n G 1 dM_takes_18 rfl rfl ?_
  refine x_ialdN G 3 0 rfl rfl (by omega) (by decide) dM_takes_19 ?_
  refine x_top h3 ?_
  refine x_idiv G dM_takes_20 (nI_ne0 hm1 (by omega)) ?_
  refine x_top (pk_div (by omega) hm1 (by omega)) ?_
  refine x_iload_n G 3 dM_takes_21 rfl rfl ?_
  refine x_aload_n G 0 dM_takes_22 rfl rfl ?_
  refine x_get G 0 rfl rfl 6 (by decide) rfl (fun w h => .tail _ (iM_ok w h)) (.tail _ wd_601) rfl dM_takes_23 ?_
  refine x_iload_n G 1 dM_takes_26 rfl rfl ?_
  refine x_ialdN G 3 0 rfl rfl (by omega) (by decide) dM_takes_27 ?_
  refine x_top h3 ?_
  refine x_irem G dM_takes_28 (nI_ne0 hm1 (by omega)) ?_
  refine x_top (pk_rem (by omega) hm1 (by omega)) ?_
  refine x_if_le G 36 dM_takes_29 (by decide) (fun h29 => ?_) (fun h29 => ?_)
  · have hmd := Nat.mod_lt (mvF hh ww b * mi c) hm1
    rw [show (0 : Int32) = nI 0 from rfl, nI_leI (by omega) (by omega)] at h29
    refine x_iconst G (0) dM_takes_36 (by decide) ?_
    refine x_iadd G dM_takes_37 ?_
    exact x_ret0i G hr hlk rfl dM_takes_38 (by unfold tkA; rw [← htk]; first | (rw [if_neg (by omega)]; exact nI_add _ 0) | (rw [if_pos (by omega)]; exact nI_add _ 1))
  · have hmd := Nat.mod_lt (mvF hh ww b * mi c) hm1
    rw [show (0 : Int32) = nI 0 from rfl, nI_leI (by omega) (by omega)] at h29
    refine x_iconst G (1) dM_takes_32 (by decide) ?_
    refine x_goto G 37 dM_takes_33 (by decide) ?_
    refine x_iadd G dM_takes_37 ?_
    exact x_ret0i G hr hlk rfl dM_takes_38 (by unfold tkA; rw [← htk]; first | (rw [if_neg (by omega)]; exact nI_add _ 0) | (rw [if_pos (by omega)]; exact nI_add _ 1))
set_option maxHeartbeats 4000000 in
set_option maxRecDepth 100000 in
theorem cM_bay {l : Launch} {D : va_G} {cI cZ cJ : ClassId} {ad : Nat → Nat} {σ : xSg} {n : Nat} {h v : Int32} (hn : σ 0 3 = nI n) (hn8 : n ≤ 8) : xCi l D vCl (tyC cI cZ cJ) nwW (wM ad cI cZ cJ) yM_bay (.code yM_bay bM_bay 3 (some .int) :: bigW) 1 [.ref (ad 0), .int h, .int v] σ (fun r u => if ¬ ((¬ h < 0 ∧ ¬ (50 : Int32) < h) ∧ ¬ v < 0 ∧ ¬ (200 : Int32) < v) then u = sst σ 0 0 1 else if n = 8 then u = sst σ 0 0 2 else r = nI n ∧ u = sst (sst (sst (sst (sst σ 0 0 0) 1 n h) 2 n v) 0 3 (nI (n + 1))) 0 10 0) := by
  refine xCi.of (cc := bM_bay) (nL := 3) (ret := (some .int)) rfl (by decide) [.ref (ad 0), .int h, .int v] rfl (Nat.le_of_ble_eq_true rfl) ?_
  intro pp ee ss mm aa bb me cde AA G hr hlk
  refine x_iload_n G 1 dM_bay_0 rfl rfl ?_
  refine x_iconst G (0) dM_bay_1 (by decide) ?_
  refine x_bipush G (50) dM_bay_2 (by decide) ?_
  refine x_call0S3i G cM_in (cS G.2.2.2.2.1 wd_652 wd_653 wd_55 wd_654 (by decide +kernel) ⟨(Nat.le_of_ble_eq_true rfl), (Nat.le_of_ble_eq_true rfl)⟩) dM_bay_4 (Nat.le_of_ble_eq_true rfl) ⟨Nat.zero_le _, Nat.zero_le _⟩ (fun r4 e4 => ?_)
  subst e4
  refine x_if_eq G 21 dM_bay_7 (by decide) (fun h7 => ?_) (fun h7 => ?_)
  · have h7 := bI_eq0.mp h7
    refine x_aload_n G 0 dM_bay_21 rfl rfl ?_
    refine x_iconst G (1) dM_bay_22 (by decide) ?_
    refine x_callV1i G cM_refuse 0 rfl rfl (cV G.2.2.2.2.1 wd_655 wd_657 wd_34 wd_55 wd_658 (by decide +kernel) ⟨(Nat.le_of_ble_eq_true rfl), (Nat.le_of_ble_eq_true rfl)⟩) dM_bay_23 (Nat.le_of_ble_eq_true rfl) ⟨Nat.zero_le _, Nat.zero_le _⟩ (fun r23 u23 e23 => ?_)
    obtain ⟨e23r, e23u⟩ := e23; subst e23u; subst e23r
    exact x_reti G hr hlk rfl dM_bay_26 (by simp only [*]; simp)
  · have h7 := bI_ne0.mp h7
    refine x_iload_n G 2 dM_bay_10 rfl rfl ?_
    refine x_iconst G (0) dM_bay_11 (by decide) ?_
    refine x_sipush G (200) dM_bay_12 (by decide) ?_
    refine x_call0S3i G cM_in (cS G.2.2.2.2.1 wd_652 wd_653 wd_55 wd_654 (by decide +kernel) ⟨(Nat.le_of_ble_eq_true rfl), (Nat.le_of_ble_eq_true rfl)⟩) dM_bay_15 (Nat.le_of_ble_eq_true rfl) ⟨Nat.zero_le _, Nat.zero_le _⟩ (fun r15 e15 => ?_)
    subst e15
    refine x_if_ne G 27 dM_bay_18 (by decide) (fun h18 => ?_) (fun h18 => ?_)
    · have h18 := bI_ne0.mp h18
      refine x_aload_n G 0 dM_bay_27 rfl rfl ?_
      refine x_get G 0 rfl rfl 3 (by decide) rfl (fun w h => .tail _ (iM_ok w h)) (.tail _ wd_598) rfl dM_bay_28 ?_
      refine x_bipush G (8) dM_bay_31 (by decide) ?_
      refine x_icmp_ne G 42 dM_bay_33 (by decide) (fun h33 => ?_) (fun h33 => ?_)
      · rw [hn, show (8 : Int32) = nI 8 from rfl, nI_eq (by omega) (by omega)] at h33
        refine x_aload_n G 0 dM_bay_42 rfl rfl ?_
        refine x_iconst G (0) dM_bay_43 (by decide) ?_
        refine x_put G 0 rfl rfl 0 (by decide) (Nat.le_of_ble_eq_true rfl) mput_0_0 (fun w h => .tail _ (iM_ok w h)) tM_ok nM_ok (.tail _ wd_595) rfl rfl (tM_ok 0 (by decide)) rfl rfl dM_bay_44 ?_
        refine x_aload_n G 0 dM_bay_47 rfl rfl ?_
        refine x_get G 0 rfl rfl 4 (by decide) rfl (fun w h => .tail _ (iM_ok w h)) (.tail _ wd_599) rfl dM_bay_48 ?_
        refine x_aload_n G 0 dM_bay_51 rfl rfl ?_
        refine x_get G 0 rfl rfl 3 (by decide) rfl (fun w h => .tail _ (iM_ok w h)) (.tail _ wd_598) rfl dM_bay_52 ?_
        refine x_top (z := nI n) hn ?_
        refine x_iload_n G 1 dM_bay_55 rfl rfl ?_
        refine x_iastN G 1 0 rfl rfl marr_1 (by omega) (by decide) dM_bay_56 ?_
        refine x_aload_n G 0 dM_bay_57 rfl rfl ?_
        refine x_get G 0 rfl rfl 5 (by decide) rfl (fun w h => .tail _ (iM_ok w h)) (.tail _ wd_600) rfl dM_bay_58 ?_
        refine x_aload_n G 0 dM_bay_61 rfl rfl ?_
        refine x_get G 0 rfl rfl 3 (by decide) rfl (fun w h => .tail _ (iM_ok w h)) (.tail _ wd_598) rfl dM_bay_62 ?_
        refine x_top (z := nI n) hn ?_
        refine x_iload_n G 2 dM_bay_65 rfl rfl ?_
        refine x_iastN G 2 0 rfl rfl marr_2 (by omega) (by decide) dM_bay_66 ?_
        refine x_aload_n G 0 dM_bay_67 rfl rfl ?_
        refine x_dup G dM_bay_68 rfl ?_
        refine x_get G 0 rfl rfl 3 (by decide) rfl (fun w h => .tail _ (iM_ok w h)) (.tail _ wd_598) rfl dM_bay_69 ?_
        refine x_top (z := nI n) hn ?_
        refine x_iconst G (1) dM_bay_72 (by decide) ?_
        refine x_iadd G dM_bay_73 ?_
        refine x_top (nI_1 n) ?_
        refine x_put G 0 rfl rfl 3 (by decide) (Nat.le_of_ble_eq_true rfl) mput_0_3 (fun w h => .tail _ (iM_ok w h)) tM_ok nM_ok (.tail _ wd_598) rfl rfl (tM_ok 3 (by decide)) rfl rfl dM_bay_74 ?_
        refine x_aload_n G 0 dM_bay_77 rfl rfl ?_
        refine x_iconst G (0) dM_bay_78 (by decide) ?_
        refine x_put G 0 rfl rfl 10 (by decide) (Nat.le_of_ble_eq_true rfl) mput_0_10 (fun w h => .tail _ (iM_ok w h)) tM_ok nM_ok (.tail _ wd_605) rfl rfl (tM_ok 10 (by decide)) rfl rfl dM_bay_79 ?_
        refine x_aload_n G 0 dM_bay_82 rfl rfl ?_
        refine x_get G 0 rfl rfl 3 (by decide) rfl (fun w h => .tail _ (iM_ok w h)) (.tail _ wd_598) rfl dM_bay_83 ?_
        refine x_iconst G (1) dM_bay_86 (by decide) ?_
        refine x_isub G dM_bay_87 ?_
        refine x_top (z := nI n) (nI_pred n) ?_
        exact x_reti G hr hlk rfl dM_bay_88 (by rw [if_neg (fun q => q ⟨h7, h18⟩), if_neg h33]; exact ⟨rfl, rfl⟩)
      · rw [hn, show (8 : Int32) = nI 8 from rfl, nI_eq (by omega) (by omega)] at h33
        refine x_aload_n G 0 dM_bay_36 rfl rfl ?_
        refine x_iconst G (2) dM_bay_37 (by decide) ?_
        refine x_callV1i G cM_refuse 0 rfl rfl (cV G.2.2.2.2.1 wd_655 wd_657 wd_34 wd_55 wd_658 (by decide +kernel) ⟨(Nat.le_of_ble_eq_true rfl), (Nat.le_of_ble_eq_true rfl)⟩) dM_bay_38 (Nat.le_of_ble_eq_true rfl) ⟨Nat.zero_le _, Nat.zero_le _⟩ (fun r38 u38 e38 => ?_)
        obtain ⟨e38r, e38u⟩ := e38; subst e38u; subst e38r
        exact x_reti G hr hlk rfl dM_bay_41 (by simp only [*]; simp)
    · have h18 := bI_eq0.mp h18
      refine x_aload_n G 0 dM_bay_21 rfl rfl ?_
      refine x_iconst G (1) dM_bay_22 (by decide) ?_
      refine x_callV1i G cM_refuse 0 rfl rfl (cV G.2.2.2.2.1 wd_655 wd_657 wd_34 wd_55 wd_658 (by decide +kernel) ⟨(Nat.le_of_ble_eq_true rfl), (Nat.le_of_ble_eq_true rfl)⟩) dM_bay_23 (Nat.le_of_ble_eq_true rfl) ⟨Nat.zero_le _, Nat.zero_le _⟩ (fun r23 u23 e23 => ?_)
      obtain ⟨e23r, e23u⟩ := e23; subst e23u; subst e23r
      exact x_reti G hr hlk rfl dM_bay_26 (by simp only [*]; simp)
set_option maxHeartbeats 4000000 in
set_option maxRecDepth 100000 in
theorem cM_step {l : Launch} {D : va_G} {cI cZ cJ : ClassId} {ad : Nat → Nat} {σ : xSg} {v : Int32} : xCi l D vCl (tyC cI cZ cJ) nwW (wM ad cI cZ cJ) yM_step (.code yM_step bM_step 2 (some .boolean) :: bigW) 1 [.ref (ad 0), .int v] σ (fun r u => if ¬ v < 0 ∧ ¬ (20 : Int32) < v then r = 1 ∧ u = sst (sst (sst σ 0 0 0) 0 9 v) 0 10 0 else r = 0 ∧ u = sst σ 0 0 0) := by
  refine xCi.of (cc := bM_step) (nL := 2) (ret := (some .boolean)) rfl (by decide) [.ref (ad 0), .int v] rfl (Nat.le_of_ble_eq_true rfl) ?_
  intro pp ee ss mm aa bb me cde AA G hr hlk
  refine x_aload_n G 0 dM_step_0 rfl rfl ?_
  refine x_iconst G (0) dM_step_1 (by decide) ?_
  refine x_put G 0 rfl rfl 0 (by decide) (Nat.le_of_ble_eq_true rfl) mput_0_0 (fun w h => .tail _ (iM_ok w h)) tM_ok nM_ok (.tail _ wd_595) rfl rfl (tM_ok 0 (by decide)) rfl rfl dM_step_2 ?_
  refine x_iload_n G 1 dM_step_5 rfl rfl ?_
  refine x_iconst G (0) dM_step_6 (by decide) ?_
  refine x_bipush G (20) dM_step_7 (by decide) ?_
  refine x_call0S3i G cM_in (cS G.2.2.2.2.1 wd_652 wd_653 wd_55 wd_654 (by decide +kernel) ⟨(Nat.le_of_ble_eq_true rfl), (Nat.le_of_ble_eq_true rfl)⟩) dM_step_9 (Nat.le_of_ble_eq_true rfl) ⟨Nat.zero_le _, Nat.zero_le _⟩ (fun r9 e9 => ?_)
  subst e9
  refine x_if_ne G 17 dM_step_12 (by decide) (fun h12 => ?_) (fun h12 => ?_)
  · have h12 := bI_ne0.mp h12
    refine x_aload_n G 0 dM_step_17 rfl rfl ?_
    refine x_iload_n G 1 dM_step_18 rfl rfl ?_
    refine x_put G 0 rfl rfl 9 (by decide) (Nat.le_of_ble_eq_true rfl) mput_0_9 (fun w h => .tail _ (iM_ok w h)) tM_ok nM_ok (.tail _ wd_604) rfl rfl (tM_ok 9 (by decide)) rfl rfl dM_step_19 ?_
    refine x_aload_n G 0 dM_step_22 rfl rfl ?_
    refine x_iconst G (0) dM_step_23 (by decide) ?_
    refine x_put G 0 rfl rfl 10 (by decide) (Nat.le_of_ble_eq_true rfl) mput_0_10 (fun w h => .tail _ (iM_ok w h)) tM_ok nM_ok (.tail _ wd_605) rfl rfl (tM_ok 10 (by decide)) rfl rfl dM_step_24 ?_
    refine x_iconst G (1) dM_step_27 (by decide) ?_
    exact x_reti G hr hlk rfl dM_step_28 (by rw [if_pos h12]; exact ⟨rfl, rfl⟩)
  · have h12 := bI_eq0.mp h12
    refine x_iconst G (0) dM_step_15 (by decide) ?_
    exact x_reti G hr hlk rfl dM_step_16 (by rw [if_neg h12]; exact ⟨rfl, rfl⟩)
theorem cr_ex {v t : Int32} {C : Nat} (ht : t = nI C) (hC : C ≤ 4) (h : ¬ v < 0 ∧ ¬ t ≤ v) : ∃ c, v = nI c ∧ c < C := by
  subst ht
  obtain ⟨j, hj, rfl⟩ := nI_of h.1
  exact ⟨j, rfl, by have := h.2; rw [nI_leI (by omega) hj] at this; omega⟩
set_option maxHeartbeats 4000000 in
set_option maxRecDepth 100000 in
theorem cM_rate {l : Launch} {D : va_G} {cI cZ cJ : ClassId} {ad : Nat → Nat} {σ : xSg} {C : Nat} {v t1 t2 : Int32} (hC : σ 0 1 = nI C) (hC4 : C ≤ 4) : xCi l D vCl (tyC cI cZ cJ) nwW (wM ad cI cZ cJ) yM_rate (.code yM_rate bM_rate 4 (some .boolean) :: bigW) 1 [.ref (ad 0), .int v, .int t1, .int t2] σ (fun r u => if t1 = 0 then u = sst σ 0 0 1 else if ¬ ((¬ v < 0 ∧ ¬ σ 0 1 ≤ v) ∧ (¬ t1 < 1 ∧ ¬ (100 : Int32) < t1) ∧ (¬ t2 < 1 ∧ ¬ (100 : Int32) < t2)) then u = sst σ 0 0 2 else ∃ c, v = nI c ∧ c < C ∧ r = 1 ∧ u = sst (sst (sst (sst σ 0 0 0) 3 c t1) 4 c t2) 0 10 0) := by
  refine xCi.of (cc := bM_rate) (nL := 4) (ret := (some .boolean)) rfl (by decide) [.ref (ad 0), .int v, .int t1, .int t2] rfl (Nat.le_of_ble_eq_true rfl) ?_
  intro pp ee ss mm aa bb me cde AA G hr hlk
  refine x_aload_n G 0 dM_rate_0 rfl rfl ?_
  refine x_iload_n G 2 dM_rate_1 rfl rfl ?_
  refine x_if_ne G 9 dM_rate_2 (by decide) (fun h2 => ?_) (fun h2 => ?_)
  · refine x_aload_n G 0 dM_rate_9 rfl rfl ?_
    refine x_iload_n G 1 dM_rate_10 rfl rfl ?_
    refine x_call0V1i G cM_isCrane 0 rfl rfl (cV G.2.2.2.2.1 wd_663 wd_665 wd_35 wd_55 wd_666 (by decide +kernel) ⟨(Nat.le_of_ble_eq_true rfl), (Nat.le_of_ble_eq_true rfl)⟩) dM_rate_11 (Nat.le_of_ble_eq_true rfl) ⟨Nat.zero_le _, Nat.zero_le _⟩ (fun r11 e11 => ?_)
    subst e11
    refine x_if_eq G 37 dM_rate_14 (by decide) (fun h14 => ?_) (fun h14 => ?_)
    · have h14 := bI_eq0.mp h14
      refine x_iconst G (2) dM_rate_37 (by decide) ?_
      refine x_goto G 42 dM_rate_38 (by decide) ?_
      refine x_put G 0 rfl rfl 0 (by decide) (Nat.le_of_ble_eq_true rfl) mput_0_0 (fun w h => .tail _ (iM_ok w h)) tM_ok nM_ok (.tail _ wd_595) rfl rfl (tM_ok 0 (by decide)) rfl rfl dM_rate_42 ?_
      refine x_aload_n G 0 dM_rate_45 rfl rfl ?_
      refine x_get G 0 rfl rfl 0 (by decide) rfl (fun w h => .tail _ (iM_ok w h)) (.tail _ wd_595) rfl dM_rate_46 ?_
      refine x_if_le G 54 dM_rate_49 (by decide) (fun h49 => (by rw [sst_same] at h49; exact absurd h49 (by decide))) (fun h49 => ?_)
      refine x_iconst G (0) dM_rate_52 (by decide) ?_
      exact x_reti G hr hlk rfl dM_rate_53 (by rw [if_neg h2, if_pos (fun q => by first | exact h14 q.1 | exact h24 q.2.1 | exact h34 q.2.2)])
    · have h14 := bI_ne0.mp h14
      refine x_iload_n G 2 dM_rate_17 rfl rfl ?_
      refine x_iconst G (1) dM_rate_18 (by decide) ?_
      refine x_bipush G (100) dM_rate_19 (by decide) ?_
      refine x_call0S3i G cM_in (cS G.2.2.2.2.1 wd_652 wd_653 wd_55 wd_654 (by decide +kernel) ⟨(Nat.le_of_ble_eq_true rfl), (Nat.le_of_ble_eq_true rfl)⟩) dM_rate_21 (Nat.le_of_ble_eq_true rfl) ⟨Nat.zero_le _, Nat.zero_le _⟩ (fun r21 e21 => ?_)
      subst e21
      refine x_if_eq G 37 dM_rate_24 (by decide) (fun h24 => ?_) (fun h24 => ?_)
      · have h24 := bI_eq0.mp h24
        refine x_iconst G (2) dM_rate_37 (by decide) ?_
        refine x_goto G 42 dM_rate_38 (by decide) ?_
        refine x_put G 0 rfl rfl 0 (by decide) (Nat.le_of_ble_eq_true rfl) mput_0_0 (fun w h => .tail _ (iM_ok w h)) tM_ok nM_ok (.tail _ wd_595) rfl rfl (tM_ok 0 (by decide)) rfl rfl dM_rate_42 ?_
        refine x_aload_n G 0 dM_rate_45 rfl rfl ?_
        refine x_get G 0 rfl rfl 0 (by decide) rfl (fun w h => .tail _ (iM_ok w h)) (.tail _ wd_595) rfl dM_rate_46 ?_
        refine x_if_le G 54 dM_rate_49 (by decide) (fun h49 => (by rw [sst_same] at h49; exact absurd h49 (by decide))) (fun h49 => ?_)
        refine x_iconst G (0) dM_rate_52 (by decide) ?_
        exact x_reti G hr hlk rfl dM_rate_53 (by rw [if_neg h2, if_pos (fun q => by first | exact h14 q.1 | exact h24 q.2.1 | exact h34 q.2.2)])
      · have h24 := bI_ne0.mp h24
        refine x_iload_n G 3 dM_rate_27 rfl rfl ?_
        refine x_iconst G (1) dM_rate_28 (by decide) ?_
        refine x_bipush G (100) dM_rate_29 (by decide) ?_
        refine x_call0S3i G cM_in (cS G.2.2.2.2.1 wd_652 wd_653 wd_55 wd_654 (by decide +kernel) ⟨(Nat.le_of_ble_eq_true rfl), (Nat.le_of_ble_eq_true rfl)⟩) dM_rate_31 (Nat.le_of_ble_eq_true rfl) ⟨Nat.zero_le _, Nat.zero_le _⟩ (fun r31 e31 => ?_)
        subst e31
        refine x_if_ne G 41 dM_rate_34 (by decide) (fun h34 => ?_) (fun h34 => ?_)
        · have h34 := bI_ne0.mp h34
          refine x_iconst G (0) dM_rate_41 (by decide) ?_
          refine x_put G 0 rfl rfl 0 (by decide) (Nat.le_of_ble_eq_true rfl) mput_0_0 (fun w h => .tail _ (iM_ok w h)) tM_ok nM_ok (.tail _ wd_595) rfl rfl (tM_ok 0 (by decide)) rfl rfl dM_rate_42 ?_
          refine x_aload_n G 0 dM_rate_45 rfl rfl ?_
          refine x_get G 0 rfl rfl 0 (by decide) rfl (fun w h => .tail _ (iM_ok w h)) (.tail _ wd_595) rfl dM_rate_46 ?_
          refine x_if_le G 54 dM_rate_49 (by decide) (fun h49 => ?_) (fun h49 => (by exact absurd (by rw [sst_same]; decide) h49))
          obtain ⟨c, rfl, hc⟩ := cr_ex hC hC4 h14
          refine x_aload_n G 0 dM_rate_54 rfl rfl ?_
          refine x_get G 0 rfl rfl 6 (by decide) rfl (fun w h => .tail _ (iM_ok w h)) (.tail _ wd_601) rfl dM_rate_55 ?_
          refine x_iload_n G 1 dM_rate_58 rfl rfl ?_
          refine x_iload_n G 2 dM_rate_59 rfl rfl ?_
          refine x_iastN G 3 0 rfl rfl marr_3 (by omega) (by decide) dM_rate_60 ?_
          refine x_aload_n G 0 dM_rate_61 rfl rfl ?_
          refine x_get G 0 rfl rfl 7 (by decide) rfl (fun w h => .tail _ (iM_ok w h)) (.tail _ wd_602) rfl dM_rate_62 ?_
          refine x_iload_n G 1 dM_rate_65 rfl rfl ?_
          refine x_iload_n G 3 dM_rate_66 rfl rfl ?_
          refine x_iastN G 4 0 rfl rfl marr_4 (by omega) (by decide) dM_rate_67 ?_
          refine x_aload_n G 0 dM_rate_68 rfl rfl ?_
          refine x_iconst G (0) dM_rate_69 (by decide) ?_
          refine x_put G 0 rfl rfl 10 (by decide) (Nat.le_of_ble_eq_true rfl) mput_0_10 (fun w h => .tail _ (iM_ok w h)) tM_ok nM_ok (.tail _ wd_605) rfl rfl (tM_ok 10 (by decide)) rfl rfl dM_rate_70 ?_
          refine x_iconst G (1) dM_rate_73 (by decide) ?_
          exact x_reti G hr hlk rfl dM_rate_74 (by rw [if_neg h2, if_neg (fun q => q ⟨h14, h24, h34⟩)]; exact ⟨c, rfl, hc, rfl, rfl⟩)
        · have h34 := bI_eq0.mp h34
          refine x_iconst G (2) dM_rate_37 (by decide) ?_
          refine x_goto G 42 dM_rate_38 (by decide) ?_
          refine x_put G 0 rfl rfl 0 (by decide) (Nat.le_of_ble_eq_true rfl) mput_0_0 (fun w h => .tail _ (iM_ok w h)) tM_ok nM_ok (.tail _ wd_595) rfl rfl (tM_ok 0 (by decide)) rfl rfl dM_rate_42 ?_
          refine x_aload_n G 0 dM_rate_45 rfl rfl ?_
          refine x_get G 0 rfl rfl 0 (by decide) rfl (fun w h => .tail _ (iM_ok w h)) (.tail _ wd_595) rfl dM_rate_46 ?_
          refine x_if_le G 54 dM_rate_49 (by decide) (fun h49 => (by rw [sst_same] at h49; exact absurd h49 (by decide))) (fun h49 => ?_)
          refine x_iconst G (0) dM_rate_52 (by decide) ?_
          exact x_reti G hr hlk rfl dM_rate_53 (by rw [if_neg h2, if_pos (fun q => by first | exact h14 q.1 | exact h24 q.2.1 | exact h34 q.2.2)])
  · refine x_iconst G (1) dM_rate_5 (by decide) ?_
    refine x_goto G 42 dM_rate_6 (by decide) ?_
    refine x_put G 0 rfl rfl 0 (by decide) (Nat.le_of_ble_eq_true rfl) mput_0_0 (fun w h => .tail _ (iM_ok w h)) tM_ok nM_ok (.tail _ wd_595) rfl rfl (tM_ok 0 (by decide)) rfl rfl dM_rate_42 ?_
    refine x_aload_n G 0 dM_rate_45 rfl rfl ?_
    refine x_get G 0 rfl rfl 0 (by decide) rfl (fun w h => .tail _ (iM_ok w h)) (.tail _ wd_595) rfl dM_rate_46 ?_
    refine x_if_le G 54 dM_rate_49 (by decide) (fun h49 => (by rw [sst_same] at h49; exact absurd h49 (by decide))) (fun h49 => ?_)
    refine x_iconst G (0) dM_rate_52 (by decide) ?_
    exact x_reti G hr hlk rfl dM_rate_53 (by rw [if_pos h2])
theorem fst_ext {A : Nat → Nat} {c n : Nat} (h : ∀ b, n ≤ b → ¬ A b < 4) (hc : c < 4) : ∀ (j : Nat), fstA A c (n + j) = fstA A c n
  | 0 => rfl
  | j + 1 => by
    have ih := fst_ext h hc j
    have := h (n + j) (by omega)
    have e : fstA A c (n + j + 1) = match fstA A c (n + j) with
      | some b => some b
      | none => if A (n + j) = c then some (n + j) else none := rfl
    rw [show n + (j + 1) = n + j + 1 from rfl, e, ih]
    cases hq : fstA A c n with
    | some b => rfl
    | none => show (if A (n + j) = c then some (n + j) else none) = none; rw [if_neg (by omega)]
theorem lst_ext {A : Nat → Nat} {c n : Nat} (h : ∀ b, n ≤ b → ¬ A b < 4) (hc : c < 4) : ∀ (j : Nat), lstA A c (n + j) = lstA A c n
  | 0 => rfl
  | j + 1 => by
    have ih := lst_ext h hc j
    have := h (n + j) (by omega)
    have e : lstA A c (n + j + 1) = if A (n + j) = c then some (n + j) else lstA A c (n + j) := rfl
    rw [show n + (j + 1) = n + j + 1 from rfl, e, if_neg (by omega), ih]
theorem apA_flat {A : Nat → Nat} {g C : Nat} (h : ∀ c, C ≤ c → c < 4 → fstA A c 8 = none) : ∀ {j : Nat}, C + j ≤ 4 → apA A 8 g (C + j) = apA A 8 g C
  | 0, _ => rfl
  | j + 1, hj => by
    rw [show C + (j + 1) = C + j + 1 from rfl, apA_none (h (C + j) (by omega) (by omega))]
    exact apA_flat h (by omega)
/-- what is tried is A -/
def TR (σ : xSg) (A : Nat → Nat) (n C : Nat) : Prop := (∀ b, b < n → σ 6 b = aI (A b)) ∧ (∀ b, n ≤ b → ¬ A b < 4) ∧ ∀ b, A b < 4 → A b < C
theorem TR.none {σ : xSg} {A : Nat → Nat} {n C : Nat} (h : TR σ A n C) {c : Nat} (hc : C ≤ c) (hc4 : c < 4) : fstA A c 8 = none := fstA_none.mpr (fun b _ q => by have := h.2.2 b (by omega); omega)
theorem TR.fst {σ : xSg} {A : Nat → Nat} {n C c : Nat} (h : TR σ A n C) (hn : n ≤ 8) (hc : c < 4) : fstA A c n = fstA A c 8 := by
  have := fst_ext h.2.1 hc (8 - n); rw [show n + (8 - n) = 8 by omega] at this; exact this.symm
theorem TR.lst {σ : xSg} {A : Nat → Nat} {n C c : Nat} (h : TR σ A n C) (hn : n ≤ 8) (hc : c < 4) : lstA A c n = lstA A c 8 := by
  have := lst_ext h.2.1 hc (8 - n); rw [show n + (8 - n) = 8 by omega] at this; exact this.symm
/-- first and last bays of the cranes below k -/
def FL (σ : xSg) (A : Nat → Nat) (k : Nat) : Prop := ∀ c, c < k → σ 9 c = oI (fstA A c 8) ∧ ∀ x, lstA A c 8 = some x → σ 10 c = nI x
def SO (σ u : xSg) : Prop := ∀ q, q ≠ 9 → q ≠ 10 → u q = σ q
theorem SO.tr {σ u v : xSg} (h1 : SO σ u) (h2 : SO u v) : SO σ v := fun q a b => (h2 q a b).trans (h1 q a b)
theorem oI_lt0 {x : Option Nat} (h : ∀ b, x = some b → b < 2 ^ 31) : oI x < 0 ↔ x = none := by
  cases x with
  | none => simp [oI]
  | some b => exact ⟨fun q => absurd q (nI_pos (h b rfl)), fun q => by cases q⟩
theorem fstA_s {A : Nat → Nat} {c k : Nat} : fstA A c (k + 1) = match fstA A c k with
    | some b => some b
    | none => if A k = c then some k else none := rfl
theorem lstA_s {A : Nat → Nat} {c k : Nat} : lstA A c (k + 1) = if A k = c then some k else lstA A c k := rfl
set_option maxHeartbeats 4000000 in
set_option maxRecDepth 100000 in
theorem cM_spans {l : Launch} {D : va_G} {cI cZ cJ : ClassId} {ad : Nat → Nat} {σ : xSg} {n C g s : Nat} {hh ww mo mi : Nat → Nat} {ou : Nat → Bool} (hP : PM σ n C g s hh ww mo mi ou) {A : Nat → Nat} (hT : TR σ A n C) : xCi l D vCl (tyC cI cZ cJ) nwW (wM ad cI cZ cJ) yM_spans (.code yM_spans bM_spans 5 (some .boolean) :: bigW) 0 [.ref (ad 0)] σ (fun r u => r = bI ((apA A 8 g 4).2 = true) ∧ FL u A C ∧ SO σ u) := by
  refine xCi.of (cc := bM_spans) (nL := 5) (ret := (some .boolean)) rfl (by decide) [.ref (ad 0), .null, .null, .null, .null] rfl (Nat.le_of_ble_eq_true rfl) ?_
  intro pp ee ss mm aa bb me cde AA G hr hlk
  obtain ⟨hn8, hC1, hC4, hg3, hs20, hn, hC, hg, hs, hbw, hrt, hbb, hb0, hbd⟩ := id hP
  have loop : ∀ (j k : Nat), k + j = C → ∀ (tz : Value) (σ1 : xSg), FL σ1 A k → SO σ σ1 → xJ pp l ee { frames := 0, cells := 0, slots := 0, locals := 40 * 0 } ss mm aa bb me cde 0 0 (MQ bb (va_Qi (fun r u => r = bI ((apA A 8 g 4).2 = true) ∧ FL u A C ∧ SO σ u) (fun u t => va_P D vCl (wM ad cI cZ cJ u) t.heap ∧ va_D AA (wM ad cI cZ cJ u)) AA) aa ss 0 0 AA) D vCl AA 5 (va_S AA ss.heap) (wM ad cI cZ cJ σ1) [.ref (ad 0), .int (oI (apA A 8 g k).1), .int (bI ((apA A 8 g k).2 = true)), .int (nI k), tz] 6 [] := by
    intro j
    induction j with
    | zero =>
      intro k hk tz σ1 hF hO
      have hk : k = C := by omega
      subst hk
      have e0 : σ1 0 = σ 0 := hO 0 (by omega) (by omega)
      refine x_iload_n G 3 dM_spans_6 rfl rfl ?_
      refine x_aload_n G 0 dM_spans_7 rfl rfl ?_
      refine x_get G 0 rfl rfl 1 (by decide) rfl (fun w h => .tail _ (iM_ok w h)) (.tail _ wd_596) rfl dM_spans_8 ?_
      refine x_icmp_ge G 171 dM_spans_11 (by decide) (fun h11 => ?_) (fun h11 => (by rw [e0, hC] at h11; exact absurd (nI_le (Nat.le_refl _) (by omega)) h11))
      refine x_iload_n G 2 dM_spans_171 rfl rfl ?_
      exact x_reti G hr hlk bI_nar dM_spans_172 ⟨by have := apA_flat (g := g) (C := k) (fun c h1 h2 => hT.none h1 h2) (j := 4 - k) (by omega); rw [show k + (4 - k) = 4 by omega] at this; rw [this], hF, hO⟩
    | succ j ih =>
      intro k hk tz σ1 hF hO
      have hk4 : k < 4 := by omega
      have out84 : ∀ (b : Nat) (σ1 : xSg), FL σ1 A (k + 1) → SO σ σ1 → xJ pp l ee { frames := 0, cells := 0, slots := 0, locals := 40 * 0 } ss mm aa bb me cde 0 0 (MQ bb (va_Qi (fun r u => r = bI ((apA A 8 g 4).2 = true) ∧ FL u A C ∧ SO σ u) (fun u t => va_P D vCl (wM ad cI cZ cJ u) t.heap ∧ va_D AA (wM ad cI cZ cJ u)) AA) aa ss 0 0 AA) D vCl AA 5 (va_S AA ss.heap) (wM ad cI cZ cJ σ1) [.ref (ad 0), .int (oI (apA A 8 g k).1), .int (bI ((apA A 8 g k).2 = true)), .int (nI k), .int (nI b)] 84 [] := by
        intro b σ1 hF hO
        have e0 : σ1 0 = σ 0 := hO 0 (by omega) (by omega)
        obtain ⟨hf, hl⟩ := hF k (by omega)
        have j162 : ∀ (v : Int32), v = bI ((apA A 8 g (k + 1)).2 = true) → (apA A 8 g (k + 1)).1 = some k → xJ pp l ee { frames := 0, cells := 0, slots := 0, locals := 40 * 0 } ss mm aa bb me cde 0 0 (MQ bb (va_Qi (fun r u => r = bI ((apA A 8 g 4).2 = true) ∧ FL u A C ∧ SO σ u) (fun u t => va_P D vCl (wM ad cI cZ cJ u) t.heap ∧ va_D AA (wM ad cI cZ cJ u)) AA) aa ss 0 0 AA) D vCl AA 5 (va_S AA ss.heap) (wM ad cI cZ cJ σ1) [.ref (ad 0), .int (oI (apA A 8 g k).1), .int (bI ((apA A 8 g k).2 = true)), .int (nI k), .int (nI b)] 162 [.int v] := by
          intro v hv h1
          subst hv
          refine x_istore_n G 2 dM_spans_162 rfl (by decide) ?_
          refine x_iload_n G 3 dM_spans_163 rfl rfl ?_
          refine x_istore_n G 1 dM_spans_164 rfl (by decide) ?_
          refine x_iinc G (nI (k + 1)) dM_spans_165 rfl (nI_1 k) (by decide) ?_
          refine x_goto G 6 dM_spans_168 (by decide) ?_
          exact x_eq rfl (by rw [h1]; rfl) rfl rfl (ih (k + 1) (by omega) (.int (nI b)) σ1 hF hO)
        refine x_aload_n G 0 dM_spans_84 rfl rfl ?_
        refine x_get G 0 rfl rfl 14 (by decide) rfl (fun w h => .tail _ (iM_ok w h)) (.tail _ wd_609) rfl dM_spans_85 ?_
        refine x_iload_n G 3 dM_spans_88 rfl rfl ?_
        refine x_ialdN G 9 0 rfl rfl (by omega) (by decide) dM_spans_89 ?_
        refine x_if_lt G 165 dM_spans_90 (by decide) (fun h90 => ?_) (fun h90 => ?_)
        · have hf0 : fstA A k 8 = none := (oI_lt0 (fun b hb => by have := fst_lt hb; omega)).mp (by rw [← hf]; exact h90)
          have e := apA_none (g := g) hf0
          refine x_iinc G (nI (k + 1)) dM_spans_165 rfl (nI_1 k) (by decide) ?_
          refine x_goto G 6 dM_spans_168 (by decide) ?_
          exact x_eq rfl (by rw [← e]; rfl) rfl rfl (ih (k + 1) (by omega) (.int (nI b)) σ1 hF hO)
        · obtain ⟨f, hf1⟩ : ∃ f, fstA A k 8 = some f := by
            cases hq : fstA A k 8 with
            | none => rw [hf, hq] at h90; exact absurd (by decide) h90
            | some f => exact ⟨f, rfl⟩
          obtain ⟨l0, hl1, hfl, hl8, -⟩ := lst_of_fst hf1
          have hf8 := fst_lt hf1
          have hl0 := hl l0 hl1
          rw [hf1] at hf
          have h1 : (apA A 8 g (k + 1)).1 = some k := by simp [apA, hf1]
          refine x_iload_n G 2 dM_spans_93 rfl rfl ?_
          refine x_if_eq G 161 dM_spans_94 (by decide) (fun h94 => ?_) (fun h94 => ?_)
          · have h94 := bI_eq0.mp h94
            have hv : (0 : Int32) = bI ((apA A 8 g (k + 1)).2 = true)  := by rw [bI_f]; first | (simp [apA, hf1, h94]; done) | (simp only [apA, hf1, hd1, hf2, hl2, hl1, h94, Option.getD_some, Bool.true_and, Bool.and_eq_true, decide_eq_true_eq]; omega)
            refine x_iconst G (0) dM_spans_161 (by decide) ?_
            exact x_eq rfl (by first | rfl | (rw [hd1]; rfl)) rfl rfl (j162 _ hv h1)
          · have h94 := bI_ne0.mp h94
            refine x_iload_n G 1 dM_spans_97 rfl rfl ?_
            refine x_if_lt G 157 dM_spans_98 (by decide) (fun h98 => ?_) (fun h98 => ?_)
            · have h98 : (apA A 8 g k).1 = none := (oI_lt0 (fun b hb => by have := (apA_lt hb).1; omega)).mp h98
              have hv : (1 : Int32) = bI ((apA A 8 g (k + 1)).2 = true)   := by rw [bI_t]; first | (simp [apA, hf1, h94, h98]; done) | (simp only [apA, hf1, hd1, hf2, hl2, hl1, h94, Option.getD_some, Bool.true_and, Bool.and_eq_true, decide_eq_true_eq]; omega)
              refine x_iconst G (1) dM_spans_157 (by decide) ?_
              refine x_goto G 162 dM_spans_158 (by decide) ?_
              exact x_eq rfl (by first | rfl | (rw [hd1]; rfl)) rfl rfl (j162 _ hv h1)
            · obtain ⟨d, hd1⟩ : ∃ d, (apA A 8 g k).1 = some d := by
                cases hq : (apA A 8 g k).1 with
                | none => rw [hq] at h98; exact absurd (by decide) h98
                | some d => exact ⟨d, rfl⟩
              obtain ⟨hdk, f2, hf2⟩ := apA_lt hd1
              obtain ⟨l2, hl2, hfl2, hl28, -⟩ := lst_of_fst hf2
              have hf28 := fst_lt hf2
              obtain ⟨qf, ql⟩ := hF d (by omega)
              rw [hf2] at qf
              have ql := ql l2 hl2
              refine x_eq rfl (vs2 := [.ref (ad 0), .int (nI d), .int (bI ((apA A 8 g k).2 = true)), .int (nI k), .int (nI b)]) (by rw [hd1]; rfl) rfl rfl ?_
              refine x_aload_n G 0 dM_spans_101 rfl rfl ?_
              refine x_get G 0 rfl rfl 14 (by decide) rfl (fun w h => .tail _ (iM_ok w h)) (.tail _ wd_609) rfl dM_spans_102 ?_
              refine x_iload_n G 3 dM_spans_105 rfl rfl ?_
              refine x_ialdN G 9 0 rfl rfl (by omega) (by decide) dM_spans_106 ?_
              refine x_aload_n G 0 dM_spans_107 rfl rfl ?_
              refine x_get G 0 rfl rfl 14 (by decide) rfl (fun w h => .tail _ (iM_ok w h)) (.tail _ wd_609) rfl dM_spans_108 ?_
              refine x_iload_n G 1 dM_spans_111 rfl rfl ?_
              refine x_if_lt G 119 dM_spans_112 (by decide) (fun h112 => (by exact absurd h112 (nI_pos (by omega)))) (fun h112 => ?_)
              refine x_iload_n G 1 dM_spans_115 rfl rfl ?_
              refine x_goto G 120 dM_spans_116 (by decide) ?_
              refine x_ialdN G 9 0 rfl rfl (by omega) (by decide) dM_spans_120 ?_
              refine x_isub G dM_spans_121 ?_
              refine x_aload_n G 0 dM_spans_122 rfl rfl ?_
              refine x_get G 0 rfl rfl 2 (by decide) rfl (fun w h => .tail _ (iM_ok w h)) (.tail _ wd_597) rfl dM_spans_123 ?_
              refine x_icmp_le G 161 dM_spans_126 (by decide) (fun h126 => ?_) (fun h126 => ?_)
              · rw [hf, qf, e0, hg] at h126
                have h126 := (near_nI (by omega) (by omega) (by omega)).mp h126
                have hv : (0 : Int32) = bI ((apA A 8 g (k + 1)).2 = true)  := by rw [bI_f]; first | (simp [apA, hf1, h94]; done) | (simp only [apA, hf1, hd1, hf2, hl2, hl1, h94, Option.getD_some, Bool.true_and, Bool.and_eq_true, decide_eq_true_eq]; omega)
                refine x_iconst G (0) dM_spans_161 (by decide) ?_
                exact x_eq rfl (by first | rfl | (rw [hd1]; rfl)) rfl rfl (j162 _ hv h1)
              · rw [hf, qf, e0, hg] at h126
                have h126 : ¬ f ≤ f2 + g := fun q => h126 ((near_nI (a := f) (b := f2) (g := g) (by omega) (by omega) (by omega)).mpr q)
                refine x_aload_n G 0 dM_spans_129 rfl rfl ?_
                refine x_get G 0 rfl rfl 15 (by decide) rfl (fun w h => .tail _ (iM_ok w h)) (.tail _ wd_610) rfl dM_spans_130 ?_
                refine x_iload_n G 3 dM_spans_133 rfl rfl ?_
                refine x_ialdN G 10 0 rfl rfl (by omega) (by decide) dM_spans_134 ?_
                refine x_aload_n G 0 dM_spans_135 rfl rfl ?_
                refine x_get G 0 rfl rfl 15 (by decide) rfl (fun w h => .tail _ (iM_ok w h)) (.tail _ wd_610) rfl dM_spans_136 ?_
                refine x_iload_n G 1 dM_spans_139 rfl rfl ?_
                refine x_if_lt G 147 dM_spans_140 (by decide) (fun h140 => (by exact absurd h140 (nI_pos (by omega)))) (fun h140 => ?_)
                refine x_iload_n G 1 dM_spans_143 rfl rfl ?_
                refine x_goto G 148 dM_spans_144 (by decide) ?_
                refine x_ialdN G 10 0 rfl rfl (by omega) (by decide) dM_spans_148 ?_
                refine x_isub G dM_spans_149 ?_
                refine x_aload_n G 0 dM_spans_150 rfl rfl ?_
                refine x_get G 0 rfl rfl 2 (by decide) rfl (fun w h => .tail _ (iM_ok w h)) (.tail _ wd_597) rfl dM_spans_151 ?_
                refine x_icmp_le G 161 dM_spans_154 (by decide) (fun h154 => ?_) (fun h154 => ?_)
                · rw [hl0, ql, e0, hg] at h154
                  have h154 := (near_nI (by omega) (by omega) (by omega)).mp h154
                  have hv : (0 : Int32) = bI ((apA A 8 g (k + 1)).2 = true)  := by rw [bI_f]; first | (simp [apA, hf1, h94]; done) | (simp only [apA, hf1, hd1, hf2, hl2, hl1, h94, Option.getD_some, Bool.true_and, Bool.and_eq_true, decide_eq_true_eq]; omega)
                  refine x_iconst G (0) dM_spans_161 (by decide) ?_
                  exact x_eq rfl (by first | rfl | (rw [hd1]; rfl)) rfl rfl (j162 _ hv h1)
                · rw [hl0, ql, e0, hg] at h154
                  have h154 : ¬ l0 ≤ l2 + g := fun q => h154 ((near_nI (a := l0) (b := l2) (g := g) (by omega) (by omega) (by omega)).mpr q)
                  have hv : (1 : Int32) = bI ((apA A 8 g (k + 1)).2 = true)   := by rw [bI_t]; first | (simp [apA, hf1, h94, h98]; done) | (simp only [apA, hf1, hd1, hf2, hl2, hl1, h94, Option.getD_some, Bool.true_and, Bool.and_eq_true, decide_eq_true_eq]; omega)
                  refine x_iconst G (1) dM_spans_157 (by decide) ?_
                  refine x_goto G 162 dM_spans_158 (by decide) ?_
                  exact x_eq rfl (by first | rfl | (rw [hd1]; rfl)) rfl rfl (j162 _ hv h1)
      have inner : ∀ (i b : Nat), b + i = n → ∀ (σ1 : xSg), (∀ c, c < k → σ1 9 c = oI (fstA A c 8) ∧ ∀ x, lstA A c 8 = some x → σ1 10 c = nI x) → σ1 9 k = oI (fstA A k b) → (∀ x, lstA A k b = some x → σ1 10 k = nI x) → SO σ σ1 → xJ pp l ee { frames := 0, cells := 0, slots := 0, locals := 40 * 0 } ss mm aa bb me cde 0 0 (MQ bb (va_Qi (fun r u => r = bI ((apA A 8 g 4).2 = true) ∧ FL u A C ∧ SO σ u) (fun u t => va_P D vCl (wM ad cI cZ cJ u) t.heap ∧ va_D AA (wM ad cI cZ cJ u)) AA) aa ss 0 0 AA) D vCl AA 5 (va_S AA ss.heap) (wM ad cI cZ cJ σ1) [.ref (ad 0), .int (oI (apA A 8 g k).1), .int (bI ((apA A 8 g k).2 = true)), .int (nI k), .int (nI b)] 24 [] := by
        intro i
        induction i with
        | zero =>
          intro b hb σ1 g1 g2 g3 hO
          have hb : b = n := by omega
          subst hb
          have e0 : σ1 0 = σ 0 := hO 0 (by omega) (by omega)
          refine x_iload G dM_spans_24 rfl ?_
          refine x_aload_n G 0 dM_spans_26 rfl rfl ?_
          refine x_get G 0 rfl rfl 3 (by decide) rfl (fun w h => .tail _ (iM_ok w h)) (.tail _ wd_598) rfl dM_spans_27 ?_
          refine x_icmp_ge G 84 dM_spans_30 (by decide) (fun h30 => ?_) (fun h30 => (by rw [e0, hn] at h30; exact absurd (nI_le (Nat.le_refl _) (by omega)) h30))
          refine out84 b σ1 (fun c hc => ?_) hO
          rcases (show c < k ∨ c = k by omega) with z | z
          · exact g1 c z
          · subst z; rw [← hT.fst hn8 hk4, ← hT.lst hn8 hk4]; exact ⟨g2, g3⟩
        | succ i ihi =>
          intro b hb σ1 g1 g2 g3 hO
          have e0 : σ1 0 = σ 0 := hO 0 (by omega) (by omega)
          have e6 : σ1 6 b = aI (A b) := by rw [hO 6 (by omega) (by omega)]; exact hT.1 b (by omega)
          have hfb : ∀ x, fstA A k b = some x → x < b := fun x hx => (fstA_some hx).1
          refine x_iload G dM_spans_24 rfl ?_
          refine x_aload_n G 0 dM_spans_26 rfl rfl ?_
          refine x_get G 0 rfl rfl 3 (by decide) rfl (fun w h => .tail _ (iM_ok w h)) (.tail _ wd_598) rfl dM_spans_27 ?_
          refine x_icmp_ge G 84 dM_spans_30 (by decide) (fun h30 => (by rw [e0, hn] at h30; exact absurd h30 (nI_ge (by omega) (by omega)))) (fun h30 => ?_)
          refine x_aload_n G 0 dM_spans_33 rfl rfl ?_
          refine x_get G 0 rfl rfl 11 (by decide) rfl (fun w h => .tail _ (iM_ok w h)) (.tail _ wd_606) rfl dM_spans_34 ?_
          refine x_iload G dM_spans_37 rfl ?_
          refine x_ialdN G 6 0 rfl rfl (by omega) (by decide) dM_spans_39 ?_
          refine x_iload_n G 3 dM_spans_40 rfl rfl ?_
          refine x_icmp_ne G 78 dM_spans_41 (by decide) (fun h41 => ?_) (fun h41 => ?_)
          · have h41 : A b ≠ k := fun q => h41 (by rw [e6]; exact (aI_eq hk4).mpr q)
            refine x_iinc G (nI (b + 1)) dM_spans_78 rfl (nI_1 b) (by decide) ?_
            refine x_goto G 24 dM_spans_81 (by decide) ?_
            first
            | exact ihi (b + 1) (by omega) σ1 g1 (by rw [g2, fstA_s, if_neg h41]; cases fstA A k b <;> rfl) (fun x hx => by rw [lstA_s, if_neg h41] at hx; exact g3 x hx) hO
            | exact ihi (b + 1) (by omega) _ (fun c hc => ⟨by rw [sst_q (by omega), sst_i (by omega)]; exact (g1 c hc).1, fun x hx => by rw [sst_i (by omega), sst_q (by omega)]; exact (g1 c hc).2 x hx⟩) (by rw [sst_q (by omega), sst_same, fstA_s, hf]; first | (rw [g2, hf]) | (simp only [if_pos h41]; rfl)) (fun x hx => by rw [lstA_s, if_pos h41] at hx; cases hx; exact sst_same) (hO.tr (fun q a b => by rw [sst_ne b, sst_ne a]))
          · have h41 : A b = k := (aI_eq hk4).mp (by rw [← e6]; exact h41)
            refine x_aload_n G 0 dM_spans_44 rfl rfl ?_
            refine x_get G 0 rfl rfl 14 (by decide) rfl (fun w h => .tail _ (iM_ok w h)) (.tail _ wd_609) rfl dM_spans_45 ?_
            refine x_iload_n G 3 dM_spans_48 rfl rfl ?_
            refine x_aload_n G 0 dM_spans_49 rfl rfl ?_
            refine x_get G 0 rfl rfl 14 (by decide) rfl (fun w h => .tail _ (iM_ok w h)) (.tail _ wd_609) rfl dM_spans_50 ?_
            refine x_iload_n G 3 dM_spans_53 rfl rfl ?_
            refine x_ialdN G 9 0 rfl rfl (by omega) (by decide) dM_spans_54 ?_
            refine x_if_ge G 63 dM_spans_55 (by decide) (fun h55 => ?_) (fun h55 => ?_)
            · obtain ⟨f, hf⟩ : ∃ f, fstA A k b = some f := by
                cases hq : fstA A k b with
                | none => rw [g2, hq] at h55; exact absurd h55 (by decide)
                | some f => exact ⟨f, rfl⟩
              refine x_aload_n G 0 dM_spans_63 rfl rfl ?_
              refine x_get G 0 rfl rfl 14 (by decide) rfl (fun w h => .tail _ (iM_ok w h)) (.tail _ wd_609) rfl dM_spans_64 ?_
              refine x_iload_n G 3 dM_spans_67 rfl rfl ?_
              refine x_ialdN G 9 0 rfl rfl (by omega) (by decide) dM_spans_68 ?_
              refine x_iastN G 9 0 rfl rfl marr_9 (by omega) (by decide) dM_spans_69 ?_
              refine x_aload_n G 0 dM_spans_70 rfl rfl ?_
              refine x_get G 0 rfl rfl 15 (by decide) rfl (fun w h => .tail _ (iM_ok w h)) (.tail _ wd_610) rfl dM_spans_71 ?_
              refine x_iload_n G 3 dM_spans_74 rfl rfl ?_
              refine x_iload G dM_spans_75 rfl ?_
              refine x_iastN G 10 0 rfl rfl marr_10 (by omega) (by decide) dM_spans_77 ?_
              refine x_iinc G (nI (b + 1)) dM_spans_78 rfl (nI_1 b) (by decide) ?_
              refine x_goto G 24 dM_spans_81 (by decide) ?_
              first
              | exact ihi (b + 1) (by omega) σ1 g1 (by rw [g2, fstA_s, if_neg h41]; cases fstA A k b <;> rfl) (fun x hx => by rw [lstA_s, if_neg h41] at hx; exact g3 x hx) hO
              | exact ihi (b + 1) (by omega) _ (fun c hc => ⟨by rw [sst_q (by omega), sst_i (by omega)]; exact (g1 c hc).1, fun x hx => by rw [sst_i (by omega), sst_q (by omega)]; exact (g1 c hc).2 x hx⟩) (by rw [sst_q (by omega), sst_same, fstA_s, hf]; first | (rw [g2, hf]) | (simp only [if_pos h41]; rfl)) (fun x hx => by rw [lstA_s, if_pos h41] at hx; cases hx; exact sst_same) (hO.tr (fun q a b => by rw [sst_ne b, sst_ne a]))
            · have hf : fstA A k b = none := by
                cases hq : fstA A k b with
                | none => rfl
                | some f => have := hfb f hq; rw [g2, hq] at h55; exact absurd (nI_pos' (by omega)) h55
              refine x_iload G dM_spans_58 rfl ?_
              refine x_goto G 69 dM_spans_60 (by decide) ?_
              refine x_iastN G 9 0 rfl rfl marr_9 (by omega) (by decide) dM_spans_69 ?_
              refine x_aload_n G 0 dM_spans_70 rfl rfl ?_
              refine x_get G 0 rfl rfl 15 (by decide) rfl (fun w h => .tail _ (iM_ok w h)) (.tail _ wd_610) rfl dM_spans_71 ?_
              refine x_iload_n G 3 dM_spans_74 rfl rfl ?_
              refine x_iload G dM_spans_75 rfl ?_
              refine x_iastN G 10 0 rfl rfl marr_10 (by omega) (by decide) dM_spans_77 ?_
              refine x_iinc G (nI (b + 1)) dM_spans_78 rfl (nI_1 b) (by decide) ?_
              refine x_goto G 24 dM_spans_81 (by decide) ?_
              first
              | exact ihi (b + 1) (by omega) σ1 g1 (by rw [g2, fstA_s, if_neg h41]; cases fstA A k b <;> rfl) (fun x hx => by rw [lstA_s, if_neg h41] at hx; exact g3 x hx) hO
              | exact ihi (b + 1) (by omega) _ (fun c hc => ⟨by rw [sst_q (by omega), sst_i (by omega)]; exact (g1 c hc).1, fun x hx => by rw [sst_i (by omega), sst_q (by omega)]; exact (g1 c hc).2 x hx⟩) (by rw [sst_q (by omega), sst_same, fstA_s, hf]; first | (rw [g2, hf]) | (simp only [if_pos h41]; rfl)) (fun x hx => by rw [lstA_s, if_pos h41] at hx; cases hx; exact sst_same) (hO.tr (fun q a b => by rw [sst_ne b, sst_ne a]))
      have e0 : σ1 0 = σ 0 := hO 0 (by omega) (by omega)
      refine x_iload_n G 3 dM_spans_6 rfl rfl ?_
      refine x_aload_n G 0 dM_spans_7 rfl rfl ?_
      refine x_get G 0 rfl rfl 1 (by decide) rfl (fun w h => .tail _ (iM_ok w h)) (.tail _ wd_596) rfl dM_spans_8 ?_
      refine x_icmp_ge G 171 dM_spans_11 (by decide) (fun h11 => (by rw [e0, hC] at h11; exact absurd h11 (nI_ge (by omega) (by omega)))) (fun h11 => ?_)
      refine x_aload_n G 0 dM_spans_14 rfl rfl ?_
      refine x_get G 0 rfl rfl 14 (by decide) rfl (fun w h => .tail _ (iM_ok w h)) (.tail _ wd_609) rfl dM_spans_15 ?_
      refine x_iload_n G 3 dM_spans_18 rfl rfl ?_
      refine x_iconst G (-1) dM_spans_19 (by decide) ?_
      refine x_iastN G 9 0 rfl rfl marr_9 (by omega) (by decide) dM_spans_20 ?_
      refine x_iconst G (0) dM_spans_21 (by decide) ?_
      refine x_istore G dM_spans_22 (by decide) ?_
      exact inner n 0 (by omega) _ (fun c hc => ⟨by rw [sst_i (by omega)]; exact (hF c hc).1, fun x hx => by rw [sst_q (by omega)]; exact (hF c hc).2 x hx⟩) sst_same (fun x hx => by simp [lstA] at hx) (hO.tr (fun q a b => sst_ne a))
  refine x_iconst G (-1) dM_spans_0 (by decide) ?_
  refine x_istore_n G 1 dM_spans_1 rfl (by decide) ?_
  refine x_iconst G (1) dM_spans_2 (by decide) ?_
  refine x_istore_n G 2 dM_spans_3 rfl (by decide) ?_
  refine x_iconst G (0) dM_spans_4 (by decide) ?_
  refine x_istore_n G 3 dM_spans_5 rfl (by decide) ?_
  exact loop C 0 (by omega) .null σ (fun c hc => by omega) (fun _ _ _ => rfl)
theorem spA_flat {A : Nat → Nat} {C : Nat} (h : ∀ c, C ≤ c → c < 4 → fstA A c 8 = none) : ∀ {j : Nat}, C + j ≤ 4 → spA A 8 (C + j) = spA A 8 C
  | 0, _ => rfl
  | j + 1, hj => by
    have e := h (C + j) (by omega) (by omega)
    have ih := spA_flat h (j := j) (by omega)
    rw [show C + (j + 1) = C + j + 1 from rfl]
    simp only [spA, e, lst_none_fst e]
    exact ih
set_option maxHeartbeats 4000000 in
set_option maxRecDepth 100000 in
theorem cM_steps {l : Launch} {D : va_G} {cI cZ cJ : ClassId} {ad : Nat → Nat} {σ : xSg} {n C g s : Nat} {hh ww mo mi : Nat → Nat} {ou : Nat → Bool} (hP : PM σ n C g s hh ww mo mi ou) {A : Nat → Nat} (hT : TR σ A n C) (hF : FL σ A C) : xCi0 l D vCl (tyC cI cZ cJ) nwW (wM ad cI cZ cJ σ) yM_steps (.code yM_steps bM_steps 3 (some .int) :: bigW) 0 [.ref (ad 0)] (fun r => r = nI (spA A 8 4)) := by
  refine xCi0.of (cc := bM_steps) (nL := 3) (ret := (some .int)) rfl (by decide) [.ref (ad 0), .null, .null] rfl (Nat.le_of_ble_eq_true rfl) ?_
  intro pp ee ss mm aa bb me cde AA G hr hlk
  obtain ⟨hn8, hC1, hC4, hg3, hs20, hn, hC, hg, hs, hbw, hrt, hbb, hb0, hbd⟩ := id hP
  have loop : ∀ (j k : Nat), k + j = C → xJ pp l ee { frames := 0, cells := 0, slots := 0, locals := 40 * 0 } ss mm aa bb me cde 0 0 (MQ bb (vp_Si (fun r => r = nI (spA A 8 4))) aa ss 0 0 (fun _ => False)) D vCl AA 3 (fun H locs => H = ss.heap ∧ locs = []) (wM ad cI cZ cJ σ) [.ref (ad 0), .int (nI (spA A 8 k)), .int (nI k)] 4 [] := by
    intro j
    induction j with
    | zero =>
      intro k hk
      have hk : k = C := by omega
      subst hk
      refine x_iload_n G 2 dM_steps_4 rfl rfl ?_
      refine x_aload_n G 0 dM_steps_5 rfl rfl ?_
      refine x_get G 0 rfl rfl 1 (by decide) rfl (fun w h => .tail _ (iM_ok w h)) (.tail _ wd_596) rfl dM_steps_6 ?_
      refine x_icmp_ge G 47 dM_steps_9 (by decide) (fun h9 => ?_) (fun h9 => (by rw [hC] at h9; exact absurd (nI_le (Nat.le_refl _) (by omega)) h9))
      refine x_iload_n G 1 dM_steps_47 rfl rfl ?_
      exact x_ret0i G hr hlk rfl dM_steps_48 (by have := spA_flat (C := k) (fun c h1 h2 => hT.none h1 h2) (j := 4 - k) (by omega); rw [show k + (4 - k) = 4 by omega] at this; rw [this])
    | succ j ih =>
      intro k hk
      obtain ⟨hf, hl⟩ := hF k (by omega)
      refine x_iload_n G 2 dM_steps_4 rfl rfl ?_
      refine x_aload_n G 0 dM_steps_5 rfl rfl ?_
      refine x_get G 0 rfl rfl 1 (by decide) rfl (fun w h => .tail _ (iM_ok w h)) (.tail _ wd_596) rfl dM_steps_6 ?_
      refine x_icmp_ge G 47 dM_steps_9 (by decide) (fun h9 => (by rw [hC] at h9; exact absurd h9 (nI_ge (by omega) (by omega)))) (fun h9 => ?_)
      refine x_iload_n G 1 dM_steps_12 rfl rfl ?_
      refine x_aload_n G 0 dM_steps_13 rfl rfl ?_
      refine x_get G 0 rfl rfl 14 (by decide) rfl (fun w h => .tail _ (iM_ok w h)) (.tail _ wd_609) rfl dM_steps_14 ?_
      refine x_iload_n G 2 dM_steps_17 rfl rfl ?_
      refine x_ialdN G 9 0 rfl rfl (by omega) (by decide) dM_steps_18 ?_
      refine x_if_ge G 26 dM_steps_19 (by decide) (fun h19 => ?_) (fun h19 => ?_)
      · obtain ⟨f, hf1⟩ : ∃ f, fstA A k 8 = some f := by
          cases hq : fstA A k 8 with
          | none => rw [hf, hq] at h19; exact absurd h19 (by decide)
          | some f => exact ⟨f, rfl⟩
        obtain ⟨l0, hl1, hfl, hl8, -⟩ := lst_of_fst hf1
        have hl0 := hl l0 hl1
        rw [hf1] at hf
        have e : spA A 8 (k + 1) = spA A 8 k + (l0 - f) := by simp only [spA, hf1, hl1, Option.getD_some]
        refine x_aload_n G 0 dM_steps_26 rfl rfl ?_
        refine x_get G 0 rfl rfl 15 (by decide) rfl (fun w h => .tail _ (iM_ok w h)) (.tail _ wd_610) rfl dM_steps_27 ?_
        refine x_iload_n G 2 dM_steps_30 rfl rfl ?_
        refine x_ialdN G 10 0 rfl rfl (by omega) (by decide) dM_steps_31 ?_
        refine x_aload_n G 0 dM_steps_32 rfl rfl ?_
        refine x_get G 0 rfl rfl 14 (by decide) rfl (fun w h => .tail _ (iM_ok w h)) (.tail _ wd_609) rfl dM_steps_33 ?_
        refine x_iload_n G 2 dM_steps_36 rfl rfl ?_
        refine x_ialdN G 9 0 rfl rfl (by omega) (by decide) dM_steps_37 ?_
        refine x_isub G dM_steps_38 ?_
        refine x_iadd G dM_steps_39 ?_
        first | refine x_top (z := nI (spA A 8 (k + 1))) (by rw [hl0, hf, e]; show _ + (nI l0 - nI f) = _; rw [pk_sub hfl, nI_add]) ?_ | refine x_top (z := nI (spA A 8 (k + 1))) (by rw [e]; exact nI_add _ 0) ?_
        refine x_istore_n G 1 dM_steps_40 rfl (by decide) ?_
        refine x_iinc G (nI (k + 1)) dM_steps_41 rfl (nI_1 k) (by decide) ?_
        refine x_goto G 4 dM_steps_44 (by decide) ?_
        exact ih (k + 1) (by omega)
      · have hf0 : fstA A k 8 = none := by
          cases hq : fstA A k 8 with
          | none => rfl
          | some f => have := fst_lt hq; rw [hf, hq] at h19; exact absurd (nI_pos' (by omega)) h19
        have e : spA A 8 (k + 1) = spA A 8 k + 0 := by simp only [spA, hf0, lst_none_fst hf0]; rfl
        refine x_iconst G (0) dM_steps_22 (by decide) ?_
        refine x_goto G 39 dM_steps_23 (by decide) ?_
        refine x_iadd G dM_steps_39 ?_
        first | refine x_top (z := nI (spA A 8 (k + 1))) (by rw [hl0, hf, e]; show _ + (nI l0 - nI f) = _; rw [pk_sub hfl, nI_add]) ?_ | refine x_top (z := nI (spA A 8 (k + 1))) (by rw [e]; exact nI_add _ 0) ?_
        refine x_istore_n G 1 dM_steps_40 rfl (by decide) ?_
        refine x_iinc G (nI (k + 1)) dM_steps_41 rfl (nI_1 k) (by decide) ?_
        refine x_goto G 4 dM_steps_44 (by decide) ?_
        exact ih (k + 1) (by omega)
  refine x_iconst G (0) dM_steps_0 (by decide) ?_
  refine x_istore_n G 1 dM_steps_1 rfl (by decide) ?_
  refine x_iconst G (0) dM_steps_2 (by decide) ?_
  refine x_istore_n G 2 dM_steps_3 rfl (by decide) ?_
  exact loop C 0 (by omega)
