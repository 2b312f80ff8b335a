/-! Bays that write, Cranes -/
/-- what the bays hold: n of them, hatch and work left -/
def PB (σ : xSg) (n : Nat) (hh ww : Nat → Nat) : Prop := n ≤ 8 ∧ σ 1 2 = nI n ∧ (∀ b, b < n → σ 5 b = nI (hh b) ∧ σ 6 b = nI (ww b)) ∧ (∀ b, hh b ≤ 50 ∧ ww b ≤ 200) ∧ ∀ b, n ≤ b → hh b = 0 ∧ ww b = 0
/-- what the cranes hold: C of them, their rates, who is out -/
def PK (σ : xSg) (C : Nat) (mo mi : Nat → Nat) (ou : Nat → Bool) : Prop := 1 ≤ C ∧ C ≤ 4 ∧ σ 2 0 = nI C ∧ (∀ c, c < 4 → σ 7 c = nI (mo c) ∧ σ 8 c = nI (mi c) ∧ σ 9 c = bI (ou c = true)) ∧ ∀ c, 1 ≤ mo c ∧ mo c ≤ 100 ∧ 1 ≤ mi c ∧ mi c ≤ 100
set_option maxHeartbeats 4000000 in
set_option maxRecDepth 100000 in
theorem cB_add {l : Launch} {D : va_G} {cI cZ cJ : ClassId} {ad : Nat → Nat} {σ : xSg} {n : Nat} {h v : Int32} (ht : σ 1 2 = nI n) (hn : n < 8) : xCi l D vCl (tyC cI cZ cJ) nwW (wC ad cI cZ cJ) yB_add (.code yB_add bB_add 3 (some .int) :: bigW) 1 [.ref (ad 1), .int h, .int v] σ (fun r u => r = nI n ∧ u = sst (sst (sst σ 5 n h) 6 n v) 1 2 (nI (n + 1))) := by
  refine xCi.of (cc := bB_add) (nL := 3) (ret := (some .int)) rfl (by decide) [.ref (ad 1), .int h, .int v] rfl (Nat.le_of_ble_eq_true rfl) ?_
  intro pp ee ss mm aa bb me cde AA G hr hlk
  refine x_aload_n G 0 dB_add_0 rfl rfl ?_
  refine x_call0V0i G cB_isFull 1 rfl rfl (cV G.2.2.2.2.1 wd_469 wd_447 wd_24 wd_49 wd_448 (by decide +kernel) ⟨(Nat.le_of_ble_eq_true rfl), (Nat.le_of_ble_eq_true rfl)⟩) dB_add_1 (Nat.le_of_ble_eq_true rfl) ⟨Nat.zero_le _, Nat.zero_le _⟩ (fun r1 e1 => ?_)
  subst e1
  refine x_if_eq G 9 dB_add_4 (by decide) (fun h4 => ?_) (fun h4 => (by have h4 := bI_ne0.mp h4; rw [ht, show (8 : Int32) = nI 8 from rfl, nI_leI (by omega) (by omega)] at h4; omega))
  refine x_aload_n G 0 dB_add_9 rfl rfl ?_
  refine x_get G 1 rfl rfl 0 (by decide) rfl (fun w h => .tail _ (iB_ok w h)) (.tail _ wd_78) rfl dB_add_10 ?_
  refine x_aload_n G 0 dB_add_13 rfl rfl ?_
  refine x_get G 1 rfl rfl 2 (by decide) rfl (fun w h => .tail _ (iB_ok w h)) (.tail _ wd_82) rfl dB_add_14 ?_
  refine x_top ht ?_
  refine x_iload_n G 1 dB_add_17 rfl rfl ?_
  refine x_iastN G 5 0 rfl rfl warr_5 (by omega) (by decide) dB_add_18 ?_
  refine x_aload_n G 0 dB_add_19 rfl rfl ?_
  refine x_get G 1 rfl rfl 1 (by decide) rfl (fun w h => .tail _ (iB_ok w h)) (.tail _ wd_80) rfl dB_add_20 ?_
  refine x_aload_n G 0 dB_add_23 rfl rfl ?_
  refine x_get G 1 rfl rfl 2 (by decide) rfl (fun w h => .tail _ (iB_ok w h)) (.tail _ wd_82) rfl dB_add_24 ?_
  refine x_top ht ?_
  refine x_iload_n G 2 dB_add_27 rfl rfl ?_
  refine x_iastN G 6 0 rfl rfl warr_6 (by omega) (by decide) dB_add_28 ?_
  refine x_aload_n G 0 dB_add_29 rfl rfl ?_
  refine x_dup G dB_add_30 rfl ?_
  refine x_get G 1 rfl rfl 2 (by decide) rfl (fun w h => .tail _ (iB_ok w h)) (.tail _ wd_82) rfl dB_add_31 ?_
  refine x_top (z := nI n) ht ?_
  refine x_iconst G (1) dB_add_34 (by decide) ?_
  refine x_iadd G dB_add_35 ?_
  refine x_top (nI_1 n) ?_
  refine x_put G 1 rfl rfl 2 (by decide) (Nat.le_of_ble_eq_true rfl) wput_1_2 (fun w h => .tail _ (iB_ok w h)) tB_ok nB_ok (.tail _ wd_82) rfl rfl (tB_ok 2 (by decide)) rfl rfl dB_add_36 ?_
  refine x_aload_n G 0 dB_add_39 rfl rfl ?_
  refine x_get G 1 rfl rfl 2 (by decide) rfl (fun w h => .tail _ (iB_ok w h)) (.tail _ wd_82) rfl dB_add_40 ?_
  refine x_iconst G (1) dB_add_43 (by decide) ?_
  refine x_isub G dB_add_44 ?_
  refine x_top (z := nI n) (by show nI (n + 1) - 1 = nI n; exact nI_pred n) ?_
  exact x_reti G hr hlk rfl dB_add_45 ⟨rfl, rfl⟩
set_option maxHeartbeats 4000000 in
set_option maxRecDepth 100000 in
theorem cB_takeOff {l : Launch} {D : va_G} {cI cZ cJ : ClassId} {ad : Nat → Nat} {σ : xSg} {n b : Nat} {t : Int32} (ht : σ 1 2 = nI n) (hn : n ≤ 8) (hb : b < n) : xCv l D vCl (tyC cI cZ cJ) nwW (wC ad cI cZ cJ) yB_takeOff (.code yB_takeOff bB_takeOff 4 none :: bigW) 1 [.ref (ad 1), .int (nI b), .int t] σ (fun u => u = sst (sst σ 5 b (σ 5 b - (if σ 5 b < t then σ 5 b else t))) 6 b (σ 6 b - (if σ 6 b < t - (if σ 5 b < t then σ 5 b else t) then σ 6 b else t - (if σ 5 b < t then σ 5 b else t)))) := by
  refine xCv.of (cc := bB_takeOff) (nL := 4) (ret := none) rfl (by decide) [.ref (ad 1), .int (nI b), .int t, .null] rfl (Nat.le_of_ble_eq_true rfl) ?_
  intro pp ee ss mm aa bb me cde AA G hr hlk
  refine x_aload_n G 0 dB_takeOff_0 rfl rfl ?_
  refine x_iload_n G 1 dB_takeOff_1 rfl rfl ?_
  refine x_call0V1i G (cB_hasN ht hn (by omega)) 1 rfl rfl (cV G.2.2.2.2.1 wd_258 wd_260 wd_3 wd_49 wd_261 (by decide +kernel) ⟨(Nat.le_of_ble_eq_true rfl), (Nat.le_of_ble_eq_true rfl)⟩) dB_takeOff_2 (Nat.le_of_ble_eq_true rfl) ⟨Nat.zero_le _, Nat.zero_le _⟩ (fun r2 e2 => ?_)
  subst e2
  refine x_if_ne G 9 dB_takeOff_5 (by decide) (fun h5 => ?_) (fun h5 => (by have h5 := bI_eq0.mp h5; omega))
  refine x_iload_n G 2 dB_takeOff_9 rfl rfl ?_
  refine x_aload_n G 0 dB_takeOff_10 rfl rfl ?_
  refine x_get G 1 rfl rfl 0 (by decide) rfl (fun w h => .tail _ (iB_ok w h)) (.tail _ wd_78) rfl dB_takeOff_11 ?_
  refine x_iload_n G 1 dB_takeOff_14 rfl rfl ?_
  refine x_ialdN G 5 0 rfl rfl (by omega) (by decide) dB_takeOff_15 ?_
  refine x_mmin G (.tail _ wd_562) (.tail _ wd_98) (.tail _ wd_51) (.tail _ wd_99) ⟨(Nat.le_of_ble_eq_true rfl), (Nat.le_of_ble_eq_true rfl), Nat.zero_le _, Nat.zero_le _⟩ dB_takeOff_16 ?_
  refine x_istore_n G 3 dB_takeOff_19 rfl (by decide) ?_
  refine x_aload_n G 0 dB_takeOff_20 rfl rfl ?_
  refine x_get G 1 rfl rfl 0 (by decide) rfl (fun w h => .tail _ (iB_ok w h)) (.tail _ wd_78) rfl dB_takeOff_21 ?_
  refine x_iload_n G 1 dB_takeOff_24 rfl rfl ?_
  refine x_dup2 G dB_takeOff_25 rfl rfl ?_
  refine x_ialdN G 5 0 rfl rfl (by omega) (by decide) dB_takeOff_26 ?_
  refine x_iload_n G 3 dB_takeOff_27 rfl rfl ?_
  refine x_isub G dB_takeOff_28 ?_
  refine x_iastN G 5 0 rfl rfl warr_5 (by omega) (by decide) dB_takeOff_29 ?_
  refine x_aload_n G 0 dB_takeOff_30 rfl rfl ?_
  refine x_get G 1 rfl rfl 1 (by decide) rfl (fun w h => .tail _ (iB_ok w h)) (.tail _ wd_80) rfl dB_takeOff_31 ?_
  refine x_iload_n G 1 dB_takeOff_34 rfl rfl ?_
  refine x_dup2 G dB_takeOff_35 rfl rfl ?_
  refine x_ialdN G 6 0 rfl rfl (by omega) (by decide) dB_takeOff_36 ?_
  refine x_iload_n G 2 dB_takeOff_37 rfl rfl ?_
  refine x_iload_n G 3 dB_takeOff_38 rfl rfl ?_
  refine x_isub G dB_takeOff_39 ?_
  refine x_aload_n G 0 dB_takeOff_40 rfl rfl ?_
  refine x_get G 1 rfl rfl 1 (by decide) rfl (fun w h => .tail _ (iB_ok w h)) (.tail _ wd_80) rfl dB_takeOff_41 ?_
  refine x_iload_n G 1 dB_takeOff_44 rfl rfl ?_
  refine x_ialdN G 6 0 rfl rfl (by omega) (by decide) dB_takeOff_45 ?_
  refine x_mmin G (.tail _ wd_562) (.tail _ wd_98) (.tail _ wd_51) (.tail _ wd_99) ⟨(Nat.le_of_ble_eq_true rfl), (Nat.le_of_ble_eq_true rfl), Nat.zero_le _, Nat.zero_le _⟩ dB_takeOff_46 ?_
  refine x_isub G dB_takeOff_49 ?_
  refine x_iastN G 6 0 rfl rfl warr_6 (by omega) (by decide) dB_takeOff_50 ?_
  exact x_retv G hr hlk dB_takeOff_51 rfl
set_option maxHeartbeats 4000000 in
set_option maxRecDepth 100000 in
theorem cK_has {l : Launch} {D : va_G} {cI cZ cJ : ClassId} {ad : Nat → Nat} {σ : xSg} {b : Int32} : xCi0 l D vCl (tyC cI cZ cJ) nwW (wC ad cI cZ cJ σ) yK_has (.code yK_has bK_has 2 (some .boolean) :: bigW) 0 [.ref (ad 2), .int b] (fun r => r = bI (¬ b < 0 ∧ ¬ σ 2 0 ≤ b ∧ ¬ (4 : Int32) ≤ b)) := by
  refine xCi0.of (cc := bK_has) (nL := 2) (ret := (some .boolean)) rfl (by decide) [.ref (ad 2), .int b] rfl (Nat.le_of_ble_eq_true rfl) ?_
  intro pp ee ss mm aa bb me cde AA G hr hlk
  refine x_iload_n G 1 dK_has_0 rfl rfl ?_
  refine x_if_lt G 21 dK_has_1 (by decide) (fun h1 => ?_) (fun h1 => ?_)
  · refine x_iconst G (0) dK_has_21 (by decide) ?_
    exact x_ret0i G hr hlk rfl dK_has_22 (by simp [bI, *])
  · refine x_iload_n G 1 dK_has_4 rfl rfl ?_
    refine x_aload_n G 0 dK_has_5 rfl rfl ?_
    refine x_get G 2 rfl rfl 0 (by decide) rfl (fun w h => .tail _ (iK_ok w h)) (.tail _ wd_110) rfl dK_has_6 ?_
    refine x_icmp_ge G 21 dK_has_9 (by decide) (fun h9 => ?_) (fun h9 => ?_)
    · refine x_iconst G (0) dK_has_21 (by decide) ?_
      exact x_ret0i G hr hlk rfl dK_has_22 (by simp [bI, *])
    · refine x_iload_n G 1 dK_has_12 rfl rfl ?_
      refine x_iconst G (4) dK_has_13 (by decide) ?_
      refine x_icmp_ge G 21 dK_has_14 (by decide) (fun h14 => ?_) (fun h14 => ?_)
      · refine x_iconst G (0) dK_has_21 (by decide) ?_
        exact x_ret0i G hr hlk rfl dK_has_22 (by simp [bI, *])
      · refine x_iconst G (1) dK_has_17 (by decide) ?_
        refine x_goto G 22 dK_has_18 (by decide) ?_
        exact x_ret0i G hr hlk rfl dK_has_22 (by simp [bI, *])
theorem has_nK {t : Int32} {n b : Nat} (ht : t = nI n) (hn : n ≤ 4) (hb : b < 2 ^ 31) : (¬ nI b < 0 ∧ ¬ t ≤ nI b ∧ ¬ (4 : Int32) ≤ nI b) ↔ b < n := by
  subst ht
  rw [show (4 : Int32) = nI 4 from rfl, nI_leI (by omega) hb, nI_leI (by omega) hb]
  have := nI_pos hb
  constructor
  · rintro ⟨-, h1, -⟩; omega
  · intro h; exact ⟨this, by omega, by omega⟩
theorem cK_hasN {l : Launch} {D : va_G} {cI cZ cJ : ClassId} {ad : Nat → Nat} {σ : xSg} {C b : Nat} (ht : σ 2 0 = nI C) (hC : C ≤ 4) (hb : b < 2 ^ 31) : xCi0 l D vCl (tyC cI cZ cJ) nwW (wC ad cI cZ cJ σ) yK_has (.code yK_has bK_has 2 (some .boolean) :: bigW) 0 [.ref (ad 2), .int (nI b)] (fun r => r = bI (b < C)) :=
  cK_has.mono (fun r h => by rw [h]; exact bI_congr (has_nK ht hC hb))
set_option maxHeartbeats 4000000 in
set_option maxRecDepth 100000 in
theorem cK_isOut {l : Launch} {D : va_G} {cI cZ cJ : ClassId} {ad : Nat → Nat} {σ : xSg} {C b : Nat} (ht : σ 2 0 = nI C) (hC : C ≤ 4) (hb : b < 2 ^ 31) : xCi0 l D vCl (tyC cI cZ cJ) nwW (wC ad cI cZ cJ σ) yK_isOut (.code yK_isOut bK_isOut 2 (some .boolean) :: bigW) 1 [.ref (ad 2), .int (nI b)] (fun r => r = bI (¬ (b < C ∧ σ 9 b = 0))) := by
  refine xCi0.of (cc := bK_isOut) (nL := 2) (ret := (some .boolean)) rfl (by decide) [.ref (ad 2), .int (nI b)] rfl (Nat.le_of_ble_eq_true rfl) ?_
  intro pp ee ss mm aa bb me cde AA G hr hlk
  refine x_aload_n G 0 dK_isOut_0 rfl rfl ?_
  refine x_iload_n G 1 dK_isOut_1 rfl rfl ?_
  refine x_call0V1i G (cK_hasN ht hC hb) 2 rfl rfl (cV G.2.2.2.2.1 wd_266 wd_268 wd_5 wd_50 wd_269 (by decide +kernel) ⟨(Nat.le_of_ble_eq_true rfl), (Nat.le_of_ble_eq_true rfl)⟩) dK_isOut_2 (Nat.le_of_ble_eq_true rfl) ⟨Nat.zero_le _, Nat.zero_le _⟩ (fun r2 e2 => ?_)
  subst e2
  refine x_if_eq G 17 dK_isOut_5 (by decide) (fun h5 => ?_) (fun h5 => ?_)
  · have h5 := bI_eq0.mp h5
    refine x_iconst G (1) dK_isOut_17 (by decide) ?_
    refine x_goto G 22 dK_isOut_18 (by decide) ?_
    exact x_ret0i G hr hlk rfl dK_isOut_22 (by simp [bI, *])
  · have h5 := bI_ne0.mp h5
    refine x_aload_n G 0 dK_isOut_8 rfl rfl ?_
    refine x_get G 2 rfl rfl 4 (by decide) rfl (fun w h => .tail _ (iK_ok w h)) (.tail _ wd_115) rfl dK_isOut_9 ?_
    refine x_iload_n G 1 dK_isOut_12 rfl rfl ?_
    refine x_zaldN G 9 1 rfl rfl (by omega) (by decide) dK_isOut_13 ?_
    refine x_if_eq G 21 dK_isOut_14 (by decide) (fun h14 => ?_) (fun h14 => ?_)
    · refine x_iconst G (0) dK_isOut_21 (by decide) ?_
      exact x_ret0i G hr hlk rfl dK_isOut_22 (by simp [bI, *])
    · refine x_iconst G (1) dK_isOut_17 (by decide) ?_
      refine x_goto G 22 dK_isOut_18 (by decide) ?_
      exact x_ret0i G hr hlk rfl dK_isOut_22 (by simp [bI, *])
set_option maxHeartbeats 4000000 in
set_option maxRecDepth 100000 in
theorem cK_putOut {l : Launch} {D : va_G} {cI cZ cJ : ClassId} {ad : Nat → Nat} {σ : xSg} {C b : Nat} (ht : σ 2 0 = nI C) (hC : C ≤ 4) (hb : b < C) : xCv l D vCl (tyC cI cZ cJ) nwW (wC ad cI cZ cJ) yK_putOut (.code yK_putOut bK_putOut 2 none :: bigW) 1 [.ref (ad 2), .int (nI b)] σ (fun u => u = sst σ 9 b 1) := by
  refine xCv.of (cc := bK_putOut) (nL := 2) (ret := none) rfl (by decide) [.ref (ad 2), .int (nI b)] rfl (Nat.le_of_ble_eq_true rfl) ?_
  intro pp ee ss mm aa bb me cde AA G hr hlk
  refine x_aload_n G 0 dK_putOut_0 rfl rfl ?_
  refine x_iload_n G 1 dK_putOut_1 rfl rfl ?_
  refine x_call0V1i G (cK_hasN ht hC (by omega)) 2 rfl rfl (cV G.2.2.2.2.1 wd_266 wd_268 wd_5 wd_50 wd_269 (by decide +kernel) ⟨(Nat.le_of_ble_eq_true rfl), (Nat.le_of_ble_eq_true rfl)⟩) dK_putOut_2 (Nat.le_of_ble_eq_true rfl) ⟨Nat.zero_le _, Nat.zero_le _⟩ (fun r2 e2 => ?_)
  subst e2
  refine x_if_eq G 15 dK_putOut_5 (by decide) (fun h5 => (by have h5 := bI_eq0.mp h5; omega)) (fun h5 => ?_)
  refine x_aload_n G 0 dK_putOut_8 rfl rfl ?_
  refine x_get G 2 rfl rfl 4 (by decide) rfl (fun w h => .tail _ (iK_ok w h)) (.tail _ wd_115) rfl dK_putOut_9 ?_
  refine x_iload_n G 1 dK_putOut_12 rfl rfl ?_
  refine x_iconst G (1) dK_putOut_13 (by decide) ?_
  refine x_zastN G 9 1 rfl rfl rfl warr_9 (by omega) (by decide) dK_putOut_14 ?_
  exact x_retv G hr hlk dK_putOut_15 rfl
set_option maxHeartbeats 4000000 in
set_option maxRecDepth 100000 in
theorem cK_setRate {l : Launch} {D : va_G} {cI cZ cJ : ClassId} {ad : Nat → Nat} {σ : xSg} {C b : Nat} {v t : Int32} (ht : σ 2 0 = nI C) (hC : C ≤ 4) (hb : b < C) : xCv l D vCl (tyC cI cZ cJ) nwW (wC ad cI cZ cJ) yK_setRate (.code yK_setRate bK_setRate 4 none :: bigW) 1 [.ref (ad 2), .int (nI b), .int v, .int t] σ (fun u => u = sst (sst σ 7 b v) 8 b t) := by
  refine xCv.of (cc := bK_setRate) (nL := 4) (ret := none) rfl (by decide) [.ref (ad 2), .int (nI b), .int v, .int t] rfl (Nat.le_of_ble_eq_true rfl) ?_
  intro pp ee ss mm aa bb me cde AA G hr hlk
  refine x_aload_n G 0 dK_setRate_0 rfl rfl ?_
  refine x_iload_n G 1 dK_setRate_1 rfl rfl ?_
  refine x_call0V1i G (cK_hasN ht hC (by omega)) 2 rfl rfl (cV G.2.2.2.2.1 wd_266 wd_268 wd_5 wd_50 wd_269 (by decide +kernel) ⟨(Nat.le_of_ble_eq_true rfl), (Nat.le_of_ble_eq_true rfl)⟩) dK_setRate_2 (Nat.le_of_ble_eq_true rfl) ⟨Nat.zero_le _, Nat.zero_le _⟩ (fun r2 e2 => ?_)
  subst e2
  refine x_if_eq G 22 dK_setRate_5 (by decide) (fun h5 => (by have h5 := bI_eq0.mp h5; omega)) (fun h5 => ?_)
  refine x_aload_n G 0 dK_setRate_8 rfl rfl ?_
  refine x_get G 2 rfl rfl 2 (by decide) rfl (fun w h => .tail _ (iK_ok w h)) (.tail _ wd_113) rfl dK_setRate_9 ?_
  refine x_iload_n G 1 dK_setRate_12 rfl rfl ?_
  refine x_iload_n G 2 dK_setRate_13 rfl rfl ?_
  refine x_iastN G 7 0 rfl rfl warr_7 (by omega) (by decide) dK_setRate_14 ?_
  refine x_aload_n G 0 dK_setRate_15 rfl rfl ?_
  refine x_get G 2 rfl rfl 3 (by decide) rfl (fun w h => .tail _ (iK_ok w h)) (.tail _ wd_114) rfl dK_setRate_16 ?_
  refine x_iload_n G 1 dK_setRate_19 rfl rfl ?_
  refine x_iload_n G 3 dK_setRate_20 rfl rfl ?_
  refine x_iastN G 8 0 rfl rfl warr_8 (by omega) (by decide) dK_setRate_21 ?_
  exact x_retv G hr hlk dK_setRate_22 rfl
/-- how many of the cranes below k may work -/
def abS (ou : Nat → Bool) : Nat → Nat
  | 0 => 0
  | k + 1 => abS ou k + (if ou k = true then 0 else 1)
theorem abS_le {ou : Nat → Bool} : ∀ (k : Nat), abS ou k ≤ k
  | 0 => Nat.le_refl _
  | k + 1 => by
    have := abS_le (ou := ou) k
    have e : abS ou (k + 1) = abS ou k + (if ou k = true then 0 else 1) := rfl
    rw [e]
    split <;> omega
theorem PK.out {σ : xSg} {C : Nat} {mo mi : Nat → Nat} {ou : Nat → Bool} (h : PK σ C mo mi ou) {c : Nat} (hc : c < C) : (¬ (c < C ∧ σ 9 c = 0)) ↔ ou c = true := by
  obtain ⟨h1, h2, h3, h4, h5⟩ := h
  rw [(h4 c (by omega)).2.2, bI_eq0]
  simp [hc]
set_option maxHeartbeats 4000000 in
set_option maxRecDepth 100000 in
theorem cK_able {l : Launch} {D : va_G} {cI cZ cJ : ClassId} {ad : Nat → Nat} {σ : xSg} {C : Nat} {mo mi : Nat → Nat} {ou : Nat → Bool} (hK : PK σ C mo mi ou) : xCi0 l D vCl (tyC cI cZ cJ) nwW (wC ad cI cZ cJ σ) yK_able (.code yK_able bK_able 3 (some .int) :: bigW) 2 [.ref (ad 2)] (fun r => r = nI (abS ou C)) := by
  refine xCi0.of (cc := bK_able) (nL := 3) (ret := (some .int)) rfl (by decide) [.ref (ad 2), .null, .null] rfl (Nat.le_of_ble_eq_true rfl) ?_
  intro pp ee ss mm aa bb me cde AA G hr hlk
  obtain ⟨hC1, hC4, hC, hrt, hbd⟩ := id hK
  have loop : ∀ (j k : Nat), k + j = C → xJ pp l ee { frames := 2, cells := 0, slots := 0, locals := 40 * 2 } ss mm aa bb me cde 0 0 (MQ bb (vp_Si (fun r => r = nI (abS ou C))) aa ss 0 0 (fun _ => False)) D vCl AA 3 (fun H locs => H = ss.heap ∧ locs = []) (wC ad cI cZ cJ σ) [.ref (ad 2), .int (nI (abS ou k)), .int (nI k)] 4 [] := by
    intro j
    induction j with
    | zero =>
      intro k hk
      refine x_iload_n G 2 dK_able_4 rfl rfl ?_
      refine x_aload_n G 0 dK_able_5 rfl rfl ?_
      refine x_get G 2 rfl rfl 0 (by decide) rfl (fun w h => .tail _ (iK_ok w h)) (.tail _ wd_110) rfl dK_able_6 ?_
      refine x_icmp_ge G 29 dK_able_9 (by decide) (fun h9 => ?_) (fun h9 => (by rw [hC] at h9; exact absurd (nI_le (by omega) (by omega)) h9))
      refine x_iload_n G 1 dK_able_29 rfl rfl ?_
      exact x_ret0i G hr hlk rfl dK_able_30 (by rw [show k = C by omega])
    | succ j ih =>
      intro k hk
      have ho := hK.out (show k < C by omega)
      refine x_iload_n G 2 dK_able_4 rfl rfl ?_
      refine x_aload_n G 0 dK_able_5 rfl rfl ?_
      refine x_get G 2 rfl rfl 0 (by decide) rfl (fun w h => .tail _ (iK_ok w h)) (.tail _ wd_110) rfl dK_able_6 ?_
      refine x_icmp_ge G 29 dK_able_9 (by decide) (fun h9 => (by rw [hC] at h9; exact absurd h9 (nI_ge (by omega) (by omega)))) (fun h9 => ?_)
      refine x_aload_n G 0 dK_able_12 rfl rfl ?_
      refine x_iload_n G 2 dK_able_13 rfl rfl ?_
      refine x_call0V1i G (cK_isOut hC hC4 (by omega)) 2 rfl rfl (cV G.2.2.2.2.1 wd_342 wd_264 wd_4 wd_50 wd_265 (by decide +kernel) ⟨(Nat.le_of_ble_eq_true rfl), (Nat.le_of_ble_eq_true rfl)⟩) dK_able_14 (Nat.le_of_ble_eq_true rfl) ⟨Nat.zero_le _, Nat.zero_le _⟩ (fun r14 e14 => ?_)
      subst e14
      refine x_if_ne G 23 dK_able_17 (by decide) (fun h17 => ?_) (fun h17 => ?_)
      · have h17 := bI_ne0.mp h17
        have e : abS ou (k + 1) = abS ou k := by simp [abS, ho.mp h17]
        refine x_iinc G (nI (k + 1)) dK_able_23 rfl (nI_1 k) (by decide) ?_
        refine x_goto G 4 dK_able_26 (by decide) ?_
        exact x_eq rfl (by rw [← e]; rfl) rfl rfl (ih (k + 1) (by omega))
      · have h17 := bI_eq0.mp h17
        have ho' : ou k = false := by cases h : ou k with | true => exact absurd (ho.mpr h) h17 | false => rfl
        have e : abS ou (k + 1) = abS ou k + 1 := by simp [abS, ho']
        refine x_iinc G (nI (abS ou k + 1)) dK_able_20 rfl (nI_1 _) (by decide) ?_
        refine x_iinc G (nI (k + 1)) dK_able_23 rfl (nI_1 k) (by decide) ?_
        refine x_goto G 4 dK_able_26 (by decide) ?_
        exact x_eq rfl (by rw [← e]; rfl) rfl rfl (ih (k + 1) (by omega))
  refine x_iconst G (0) dK_able_0 (by decide) ?_
  refine x_istore_n G 1 dK_able_1 rfl (by decide) ?_
  refine x_iconst G (0) dK_able_2 (by decide) ?_
  refine x_istore_n G 2 dK_able_3 rfl (by decide) ?_
  exact loop C 0 (by omega)
set_option maxHeartbeats 4000000 in
set_option maxRecDepth 100000 in
theorem cK_timeFor {l : Launch} {D : va_G} {cI cZ cJ : ClassId} {ad : Nat → Nat} {σ : xSg} {C : Nat} {mo mi : Nat → Nat} {ou : Nat → Bool} (hK : PK σ C mo mi ou) {b v : Nat} (hb : b < C) (hv : v ≤ 100000) : xCi0 l D vCl (tyC cI cZ cJ) nwW (wC ad cI cZ cJ σ) yK_timeFor (.code yK_timeFor bK_timeFor 3 (some .int) :: bigW) 1 [.ref (ad 2), .int (nI b), .int (nI v)] (fun r => r = nI (cdv (v * mi b) (mo b))) := by
  refine xCi0.of (cc := bK_timeFor) (nL := 3) (ret := (some .int)) rfl (by decide) [.ref (ad 2), .int (nI b), .int (nI v)] rfl (Nat.le_of_ble_eq_true rfl) ?_
  intro pp ee ss mm aa bb me cde AA G hr hlk
  obtain ⟨hC1, hC4, hC, hrt, hbd⟩ := id hK
  obtain ⟨h7, h8, h9⟩ := hrt b (by omega)
  obtain ⟨hm1, hm2, hi1, hi2⟩ := hbd b
  have hvm : v * mi b ≤ 100000 * 100 := Nat.mul_le_mul hv hi2
  refine x_aload_n G 0 dK_timeFor_0 rfl rfl ?_
  refine x_iload_n G 1 dK_timeFor_1 rfl rfl ?_
  refine x_call0V1i G (cK_hasN hC hC4 (by omega)) 2 rfl rfl (cV G.2.2.2.2.1 wd_266 wd_268 wd_5 wd_50 wd_269 (by decide +kernel) ⟨(Nat.le_of_ble_eq_true rfl), (Nat.le_of_ble_eq_true rfl)⟩) dK_timeFor_2 (Nat.le_of_ble_eq_true rfl) ⟨Nat.zero_le _, Nat.zero_le _⟩ (fun r2 e2 => ?_)
  subst e2
  refine x_if_eq G 32 dK_timeFor_5 (by decide) (fun h5 => (by have h5 := bI_eq0.mp h5; omega)) (fun h5 => ?_)
  refine x_iload_n G 2 dK_timeFor_8 rfl rfl ?_
  refine x_i2l G dK_timeFor_9 ?_
  refine x_aload_n G 0 dK_timeFor_10 rfl rfl ?_
  refine x_get G 2 rfl rfl 3 (by decide) rfl (fun w h => .tail _ (iK_ok w h)) (.tail _ wd_114) rfl dK_timeFor_11 ?_
  refine x_iload_n G 1 dK_timeFor_14 rfl rfl ?_
  refine x_ialdN G 8 0 rfl rfl (by omega) (by decide) dK_timeFor_15 ?_
  refine x_i2l G dK_timeFor_16 ?_
  refine x_lmul G dK_timeFor_17 ?_
  refine x_topl (z := lN (v * mi b)) (by rw [h8, nI_l (by omega), nI_l (by omega), lN_mul]) ?_
  refine x_aload_n G 0 dK_timeFor_18 rfl rfl ?_
  refine x_get G 2 rfl rfl 2 (by decide) rfl (fun w h => .tail _ (iK_ok w h)) (.tail _ wd_113) rfl dK_timeFor_19 ?_
  refine x_iload_n G 1 dK_timeFor_22 rfl rfl ?_
  refine x_ialdN G 7 0 rfl rfl (by omega) (by decide) dK_timeFor_23 ?_
  refine x_i2l G dK_timeFor_24 ?_
  refine x_topl (z := lN (mo b)) (by rw [h7, nI_l (by omega)]) ?_
  refine x_call0SN2l G (cP_dividedUp hm1 (by omega)) (cSN G.2.2.2.2.1 G.2.2.2.2.2.2.1 nd_308 wd_309 wd_48 wd_310 (by decide +kernel) ⟨(Nat.le_of_ble_eq_true rfl), (Nat.le_of_ble_eq_true rfl)⟩) dK_timeFor_25 (Nat.le_of_ble_eq_true rfl) ⟨Nat.zero_le _, Nat.zero_le _⟩ (fun r25 e25 => ?_)
  subst e25
  refine x_l2i G dK_timeFor_28 ?_
  refine x_goto G 33 dK_timeFor_29 (by decide) ?_
  exact x_ret0i G hr hlk rfl dK_timeFor_33 (lN_i _)
set_option maxHeartbeats 4000000 in
set_option maxRecDepth 100000 in
theorem cK_movesIn {l : Launch} {D : va_G} {cI cZ cJ : ClassId} {ad : Nat → Nat} {σ : xSg} {C : Nat} {mo mi : Nat → Nat} {ou : Nat → Bool} (hK : PK σ C mo mi ou) {b t : Nat} (hb : b < C) (htm : t ≤ 1000000) : xCi0 l D vCl (tyC cI cZ cJ) nwW (wC ad cI cZ cJ σ) yK_movesIn (.code yK_movesIn bK_movesIn 3 (some .int) :: bigW) 1 [.ref (ad 2), .int (nI b), .int (nI t)] (fun r => r = nI (t * mo b / mi b)) := by
  refine xCi0.of (cc := bK_movesIn) (nL := 3) (ret := (some .int)) rfl (by decide) [.ref (ad 2), .int (nI b), .int (nI t)] rfl (Nat.le_of_ble_eq_true rfl) ?_
  intro pp ee ss mm aa bb me cde AA G hr hlk
  obtain ⟨hC1, hC4, hC, hrt, hbd⟩ := id hK
  obtain ⟨h7, h8, h9⟩ := hrt b (by omega)
  obtain ⟨hm1, hm2, hi1, hi2⟩ := hbd b
  have hvm : t * mo b ≤ 1000000 * 100 := Nat.mul_le_mul htm hm2
  refine x_aload_n G 0 dK_movesIn_0 rfl rfl ?_
  refine x_iload_n G 1 dK_movesIn_1 rfl rfl ?_
  refine x_call0V1i G (cK_hasN hC hC4 (by omega)) 2 rfl rfl (cV G.2.2.2.2.1 wd_266 wd_268 wd_5 wd_50 wd_269 (by decide +kernel) ⟨(Nat.le_of_ble_eq_true rfl), (Nat.le_of_ble_eq_true rfl)⟩) dK_movesIn_2 (Nat.le_of_ble_eq_true rfl) ⟨Nat.zero_le _, Nat.zero_le _⟩ (fun r2 e2 => ?_)
  subst e2
  refine x_if_eq G 17 dK_movesIn_5 (by decide) (fun h5 => (by have h5 := bI_eq0.mp h5; omega)) (fun h5 => ?_)
  refine x_aload_n G 0 dK_movesIn_8 rfl rfl ?_
  refine x_get G 2 rfl rfl 3 (by decide) rfl (fun w h => .tail _ (iK_ok w h)) (.tail _ wd_114) rfl dK_movesIn_9 ?_
  refine x_iload_n G 1 dK_movesIn_12 rfl rfl ?_
  refine x_ialdN G 8 0 rfl rfl (by omega) (by decide) dK_movesIn_13 ?_
  refine x_if_gt G 19 dK_movesIn_14 (by decide) (fun h14 => ?_) (fun h14 => (by rw [h8, show (0 : Int32) = nI 0 from rfl, nI_ltI (by omega) (by omega)] at h14; omega))
  refine x_iload_n G 2 dK_movesIn_19 rfl rfl ?_
  refine x_i2l G dK_movesIn_20 ?_
  refine x_aload_n G 0 dK_movesIn_21 rfl rfl ?_
  refine x_get G 2 rfl rfl 2 (by decide) rfl (fun w h => .tail _ (iK_ok w h)) (.tail _ wd_113) rfl dK_movesIn_22 ?_
  refine x_iload_n G 1 dK_movesIn_25 rfl rfl ?_
  refine x_ialdN G 7 0 rfl rfl (by omega) (by decide) dK_movesIn_26 ?_
  refine x_i2l G dK_movesIn_27 ?_
  refine x_lmul G dK_movesIn_28 ?_
  refine x_topl (z := lN (t * mo b)) (by rw [h7, nI_l (by omega), nI_l (by omega), lN_mul]) ?_
  refine x_aload_n G 0 dK_movesIn_29 rfl rfl ?_
  refine x_get G 2 rfl rfl 3 (by decide) rfl (fun w h => .tail _ (iK_ok w h)) (.tail _ wd_114) rfl dK_movesIn_30 ?_
  refine x_iload_n G 1 dK_movesIn_33 rfl rfl ?_
  refine x_ialdN G 8 0 rfl rfl (by omega) (by decide) dK_movesIn_34 ?_
  refine x_i2l G dK_movesIn_35 ?_
  refine x_topl (z := lN (mi b)) (by rw [h8, nI_l (by omega)]) ?_
  refine x_ldiv G dK_movesIn_36 (fun h => by rw [show (0 : Int64) = lN 0 from rfl, pk_lEQ (by omega) (by decide)] at h; omega) ?_
  refine x_topl (pk_lDiv (by omega) hi1 (by omega)) ?_
  refine x_l2i G dK_movesIn_37 ?_
  exact x_ret0i G hr hlk rfl dK_movesIn_38 (lN_i _)
/-- the least time that a crane below k may need for v moves -/
def ltS (ou : Nat → Bool) (mo mi : Nat → Nat) (v : Nat) : Nat → Nat
  | 0 => 1000000
  | k + 1 => if ou k = true then ltS ou mo mi v k else min (ltS ou mo mi v k) (cdv (v * mi k) (mo k))
theorem ltS_le {ou : Nat → Bool} {mo mi : Nat → Nat} {v : Nat} : ∀ k, ltS ou mo mi v k ≤ 1000000
  | 0 => Nat.le_refl _
  | k + 1 => by
    have := ltS_le (ou := ou) (mo := mo) (mi := mi) (v := v) k
    unfold ltS
    split
    · exact this
    · exact Nat.le_trans (Nat.min_le_left _ _) this
theorem nI_min {a b : Nat} (ha : a < 2 ^ 31) (hb : b < 2 ^ 31) : (if nI b < nI a then nI b else nI a) = nI (min a b) := by
  by_cases h : b < a
  · rw [if_pos (nI_lt h ha), Nat.min_eq_right (by omega)]
  · rw [if_neg (nI_nlt (by omega) hb), Nat.min_eq_left (by omega)]
theorem nI_max {a b : Nat} (ha : a < 2 ^ 31) (hb : b < 2 ^ 31) : (if nI a < nI b then nI b else nI a) = nI (max a b) := by
  by_cases h : a < b
  · rw [if_pos (nI_lt h hb), Nat.max_eq_right (by omega)]
  · rw [if_neg (nI_nlt (by omega) ha), Nat.max_eq_left (by omega)]
set_option maxHeartbeats 4000000 in
set_option maxRecDepth 100000 in
theorem cK_leastTime {l : Launch} {D : va_G} {cI cZ cJ : ClassId} {ad : Nat → Nat} {σ : xSg} {C : Nat} {mo mi : Nat → Nat} {ou : Nat → Bool} (hK : PK σ C mo mi ou) {v : Nat} (hv : v ≤ 100000) : xCi0 l D vCl (tyC cI cZ cJ) nwW (wC ad cI cZ cJ σ) yK_leastTime (.code yK_leastTime bK_leastTime 4 (some .int) :: bigW) 2 [.ref (ad 2), .int (nI v)] (fun r => r = nI (ltS ou mo mi v C)) := by
  refine xCi0.of (cc := bK_leastTime) (nL := 4) (ret := (some .int)) rfl (by decide) [.ref (ad 2), .int (nI v), .null, .null] rfl (Nat.le_of_ble_eq_true rfl) ?_
  intro pp ee ss mm aa bb me cde AA G hr hlk
  obtain ⟨hC1, hC4, hC, hrt, hbd⟩ := id hK
  have loop : ∀ (j k : Nat), k + j = C → xJ pp l ee { frames := 2, cells := 0, slots := 0, locals := 40 * 2 } ss mm aa bb me cde 0 0 (MQ bb (vp_Si (fun r => r = nI (ltS ou mo mi v C))) aa ss 0 0 (fun _ => False)) D vCl AA 4 (fun H locs => H = ss.heap ∧ locs = []) (wC ad cI cZ cJ σ) [.ref (ad 2), .int (nI v), .int (nI (ltS ou mo mi v k)), .int (nI k)] 5 [] := by
    intro j
    induction j with
    | zero =>
      intro k hk
      refine x_iload_n G 3 dK_leastTime_5 rfl rfl ?_
      refine x_aload_n G 0 dK_leastTime_6 rfl rfl ?_
      refine x_get G 2 rfl rfl 0 (by decide) rfl (fun w h => .tail _ (iK_ok w h)) (.tail _ wd_110) rfl dK_leastTime_7 ?_
      refine x_icmp_ge G 38 dK_leastTime_10 (by decide) (fun h10 => ?_) (fun h10 => (by rw [hC] at h10; exact absurd (nI_le (by omega) (by omega)) h10))
      refine x_iload_n G 2 dK_leastTime_38 rfl rfl ?_
      exact x_ret0i G hr hlk rfl dK_leastTime_39 (by rw [show k = C by omega])
    | succ j ih =>
      intro k hk
      have ho := hK.out (show k < C by omega)
      have hl := ltS_le (ou := ou) (mo := mo) (mi := mi) (v := v) k
      have hvm : v * mi k ≤ 100000 * 100 := Nat.mul_le_mul hv (hbd k).2.2.2
      have hcd := cdv_le (a := v * mi k) (hbd k).1
      refine x_iload_n G 3 dK_leastTime_5 rfl rfl ?_
      refine x_aload_n G 0 dK_leastTime_6 rfl rfl ?_
      refine x_get G 2 rfl rfl 0 (by decide) rfl (fun w h => .tail _ (iK_ok w h)) (.tail _ wd_110) rfl dK_leastTime_7 ?_
      refine x_icmp_ge G 38 dK_leastTime_10 (by decide) (fun h10 => (by rw [hC] at h10; exact absurd h10 (nI_ge (by omega) (by omega)))) (fun h10 => ?_)
      refine x_aload_n G 0 dK_leastTime_13 rfl rfl ?_
      refine x_iload_n G 3 dK_leastTime_14 rfl rfl ?_
      refine x_call0V1i G (cK_isOut hC hC4 (by omega)) 2 rfl rfl (cV G.2.2.2.2.1 wd_342 wd_264 wd_4 wd_50 wd_265 (by decide +kernel) ⟨(Nat.le_of_ble_eq_true rfl), (Nat.le_of_ble_eq_true rfl)⟩) dK_leastTime_15 (Nat.le_of_ble_eq_true rfl) ⟨Nat.zero_le _, Nat.zero_le _⟩ (fun r15 e15 => ?_)
      subst e15
      refine x_if_ne G 32 dK_leastTime_18 (by decide) (fun h18 => ?_) (fun h18 => ?_)
      · have h18 := bI_ne0.mp h18
        have e : ltS ou mo mi v (k + 1) = ltS ou mo mi v k := by simp [ltS, ho.mp h18]
        refine x_iinc G (nI (k + 1)) dK_leastTime_32 rfl (nI_1 k) (by decide) ?_
        refine x_goto G 5 dK_leastTime_35 (by decide) ?_
        exact x_eq rfl (by rw [← e]; rfl) rfl rfl (ih (k + 1) (by omega))
      · have h18 := bI_eq0.mp h18
        have ho' : ou k = false := by cases h : ou k with | true => exact absurd (ho.mpr h) h18 | false => rfl
        have e : ltS ou mo mi v (k + 1) = min (ltS ou mo mi v k) (cdv (v * mi k) (mo k)) := by simp [ltS, ho']
        refine x_iload_n G 2 dK_leastTime_21 rfl rfl ?_
        refine x_aload_n G 0 dK_leastTime_22 rfl rfl ?_
        refine x_iload_n G 3 dK_leastTime_23 rfl rfl ?_
        refine x_iload_n G 1 dK_leastTime_24 rfl rfl ?_
        refine x_call0V2i G (cK_timeFor hK (show k < C by omega) hv) 2 rfl rfl (cV G.2.2.2.2.1 wd_358 wd_306 wd_13 wd_50 wd_307 (by decide +kernel) ⟨(Nat.le_of_ble_eq_true rfl), (Nat.le_of_ble_eq_true rfl)⟩) dK_leastTime_25 (Nat.le_of_ble_eq_true rfl) ⟨Nat.zero_le _, Nat.zero_le _⟩ (fun r25 e25 => ?_)
        subst e25
        refine x_mmin G (.tail _ wd_359) (.tail _ wd_98) (.tail _ wd_51) (.tail _ wd_99) ⟨(Nat.le_of_ble_eq_true rfl), (Nat.le_of_ble_eq_true rfl), Nat.zero_le _, Nat.zero_le _⟩ dK_leastTime_28 ?_
        refine x_top (nI_min (by omega) (by omega)) ?_
        refine x_istore_n G 2 dK_leastTime_31 rfl (by decide) ?_
        refine x_iinc G (nI (k + 1)) dK_leastTime_32 rfl (nI_1 k) (by decide) ?_
        refine x_goto G 5 dK_leastTime_35 (by decide) ?_
        exact x_eq rfl (by rw [← e]; rfl) rfl rfl (ih (k + 1) (by omega))
  refine x_ldc G 1000000 dK_leastTime_0 (by decide +kernel) ?_
  refine x_istore_n G 2 dK_leastTime_2 rfl (by decide) ?_
  refine x_iconst G (0) dK_leastTime_3 (by decide) ?_
  refine x_istore_n G 3 dK_leastTime_4 rfl (by decide) ?_
  exact loop C 0 (by omega)
theorem abv_pos {ab : Nat → Bool} {mo mi : Nat → Nat} (h : ∀ c, 0 < mi c) (ho : ∀ c, 0 < mo c) : ∀ {k c : Nat}, c < k → ab c = true → 0 < abv ab mo mi k
  | 0, c, hc, _ => by omega
  | k + 1, c, hc, ha => by
    unfold abv
    by_cases hk : ab k = true
    · rw [if_pos hk]
      have := Nat.mul_pos (ho k) (prM_pos (ab := ab) h k)
      omega
    · rw [if_neg hk]
      rcases (show c < k ∨ c = k by omega) with q | q
      · exact abv_pos h ho q ha
      · rw [q] at ha; exact absurd ha hk
set_option maxHeartbeats 4000000 in
set_option maxRecDepth 100000 in
theorem cK_timeTogether {l : Launch} {D : va_G} {cI cZ cJ : ClassId} {ad : Nat → Nat} {σ : xSg} {C : Nat} {mo mi : Nat → Nat} {ou : Nat → Bool} (hK : PK σ C mo mi ou) {v : Nat} (hv : v ≤ 10000) (hab : ∃ c, c < C ∧ ou c = false) : xCi0 l D vCl (tyC cI cZ cJ) nwW (wC ad cI cZ cJ σ) yK_timeTogether (.code yK_timeTogether bK_timeTogether 7 (some .int) :: bigW) 2 [.ref (ad 2), .int (nI v)] (fun r => r = nI (cdv (v * prM (fun c => !ou c) mi C) (abv (fun c => !ou c) mo mi C))) := by
  refine xCi0.of (cc := bK_timeTogether) (nL := 7) (ret := (some .int)) rfl (by decide) [.ref (ad 2), .int (nI v), .null, .null, .null, .null, .null] rfl (Nat.le_of_ble_eq_true rfl) ?_
  intro pp ee ss mm aa bb me cde AA G hr hlk
  obtain ⟨hC1, hC4, hC, hrt, hbd⟩ := id hK
  have hp4 : ∀ k, k ≤ 4 → prM (fun c => !ou c) mi k ≤ 100000000 := fun k hk => Nat.le_trans (prM_le (fun c => (hbd c).2.2.2) k) (Nat.le_trans (Nat.pow_le_pow_right (by decide) hk) (by decide))
  have ha4 : ∀ k, k ≤ 4 → abv (fun c => !ou c) mo mi k ≤ 400000000 := fun k hk => Nat.le_trans (abv_le (fun c => (hbd c).2.2.2) (fun c => (hbd c).2.1) k) (Nat.le_trans (Nat.mul_le_mul hk (Nat.pow_le_pow_right (by decide) hk)) (by decide))
  have hpos : 0 < abv (fun c => !ou c) mo mi C := by obtain ⟨c0, q1, q2⟩ := hab; exact abv_pos (fun c => (hbd c).2.2.1) (fun c => (hbd c).1) q1 (by simp [q2])
  have loop : ∀ (j k : Nat), k + j = C → xJ pp l ee { frames := 2, cells := 0, slots := 0, locals := 40 * 2 } ss mm aa bb me cde 0 0 (MQ bb (vp_Si (fun r => r = nI (cdv (v * prM (fun c => !ou c) mi C) (abv (fun c => !ou c) mo mi C)))) aa ss 0 0 (fun _ => False)) D vCl AA 7 (fun H locs => H = ss.heap ∧ locs = []) (wC ad cI cZ cJ σ) [.ref (ad 2), .int (nI v), .long (lN (abv (fun c => !ou c) mo mi k)), .null, .long (lN (prM (fun c => !ou c) mi k)), .null, .int (nI k)] 8 [] := by
    intro j
    induction j with
    | zero =>
      intro k hk
      have hk : k = C := by omega
      subst hk
      have q1 := hp4 k hC4
      have q2 := ha4 k hC4
      have q3 : v * prM (fun c => !ou c) mi k ≤ 10000 * 100000000 := Nat.mul_le_mul hv q1
      refine x_iload G dK_timeTogether_8 rfl ?_
      refine x_aload_n G 0 dK_timeTogether_10 rfl rfl ?_
      refine x_get G 2 rfl rfl 0 (by decide) rfl (fun w h => .tail _ (iK_ok w h)) (.tail _ wd_110) rfl dK_timeTogether_11 ?_
      refine x_icmp_ge G 68 dK_timeTogether_14 (by decide) (fun h14 => ?_) (fun h14 => (by rw [hC] at h14; exact absurd (nI_le (by omega) (by omega)) h14))
      refine x_iload_n G 1 dK_timeTogether_68 rfl rfl ?_
      refine x_i2l G dK_timeTogether_69 ?_
      refine x_lload G dK_timeTogether_70 rfl ?_
      refine x_lmul G dK_timeTogether_72 ?_
      refine x_topl (z := lN (v * prM (fun c => !ou c) mi k)) (by rw [nI_l (by omega), lN_mul]) ?_
      refine x_lload_n G 2 dK_timeTogether_73 rfl rfl ?_
      refine x_call0SN2l G (cP_dividedUp hpos (by omega)) (cSN G.2.2.2.2.1 G.2.2.2.2.2.2.1 nd_308 wd_309 wd_48 wd_310 (by decide +kernel) ⟨(Nat.le_of_ble_eq_true rfl), (Nat.le_of_ble_eq_true rfl)⟩) dK_timeTogether_74 (Nat.le_of_ble_eq_true rfl) ⟨Nat.zero_le _, Nat.zero_le _⟩ (fun r74 e74 => ?_)
      subst e74
      refine x_l2i G dK_timeTogether_77 ?_
      exact x_ret0i G hr hlk rfl dK_timeTogether_78 (lN_i _)
    | succ j ih =>
      intro k hk
      have ho := hK.out (show k < C by omega)
      obtain ⟨h7, h8, h9⟩ := hrt k (by omega)
      obtain ⟨hm1, hm2, hi1, hi2⟩ := hbd k
      refine x_iload G dK_timeTogether_8 rfl ?_
      refine x_aload_n G 0 dK_timeTogether_10 rfl rfl ?_
      refine x_get G 2 rfl rfl 0 (by decide) rfl (fun w h => .tail _ (iK_ok w h)) (.tail _ wd_110) rfl dK_timeTogether_11 ?_
      refine x_icmp_ge G 68 dK_timeTogether_14 (by decide) (fun h14 => (by rw [hC] at h14; exact absurd h14 (nI_ge (by omega) (by omega)))) (fun h14 => ?_)
      refine x_aload_n G 0 dK_timeTogether_17 rfl rfl ?_
      refine x_iload G dK_timeTogether_18 rfl ?_
      refine x_call0V1i G (cK_isOut hC hC4 (by omega)) 2 rfl rfl (cV G.2.2.2.2.1 wd_342 wd_264 wd_4 wd_50 wd_265 (by decide +kernel) ⟨(Nat.le_of_ble_eq_true rfl), (Nat.le_of_ble_eq_true rfl)⟩) dK_timeTogether_20 (Nat.le_of_ble_eq_true rfl) ⟨Nat.zero_le _, Nat.zero_le _⟩ (fun r20 e20 => ?_)
      subst e20
      refine x_if_ne G 62 dK_timeTogether_23 (by decide) (fun h23 => ?_) (fun h23 => ?_)
      · have h23 := bI_ne0.mp h23
        have e1 : abv (fun c => !ou c) mo mi (k + 1) = abv (fun c => !ou c) mo mi k := by simp [abv, ho.mp h23]
        have e2 : prM (fun c => !ou c) mi (k + 1) = prM (fun c => !ou c) mi k := by simp [prM, ho.mp h23]
        refine x_iinc G (nI (k + 1)) dK_timeTogether_62 rfl (nI_1 k) (by decide) ?_
        refine x_goto G 8 dK_timeTogether_65 (by decide) ?_
        first | exact ih (k + 1) (by omega) | exact x_eq rfl (by rw [← e1, ← e2]; rfl) rfl rfl (ih (k + 1) (by omega))
      · have h23 := bI_eq0.mp h23
        have ho' : ou k = false := by cases h : ou k with | true => exact absurd (ho.mpr h) h23 | false => rfl
        have e1 : abv (fun c => !ou c) mo mi (k + 1) = abv (fun c => !ou c) mo mi k * mi k + mo k * prM (fun c => !ou c) mi k := by simp [abv, ho']
        have e2 : prM (fun c => !ou c) mi (k + 1) = prM (fun c => !ou c) mi k * mi k := by simp [prM, ho']
        refine x_lload_n G 2 dK_timeTogether_26 rfl rfl ?_
        refine x_aload_n G 0 dK_timeTogether_27 rfl rfl ?_
        refine x_get G 2 rfl rfl 3 (by decide) rfl (fun w h => .tail _ (iK_ok w h)) (.tail _ wd_114) rfl dK_timeTogether_28 ?_
        refine x_iload G dK_timeTogether_31 rfl ?_
        refine x_ialdN G 8 0 rfl rfl (by omega) (by decide) dK_timeTogether_33 ?_
        refine x_i2l G dK_timeTogether_34 ?_
        refine x_lmul G dK_timeTogether_35 ?_
        refine x_aload_n G 0 dK_timeTogether_36 rfl rfl ?_
        refine x_get G 2 rfl rfl 2 (by decide) rfl (fun w h => .tail _ (iK_ok w h)) (.tail _ wd_113) rfl dK_timeTogether_37 ?_
        refine x_iload G dK_timeTogether_40 rfl ?_
        refine x_ialdN G 7 0 rfl rfl (by omega) (by decide) dK_timeTogether_42 ?_
        refine x_i2l G dK_timeTogether_43 ?_
        refine x_lload G dK_timeTogether_44 rfl ?_
        refine x_lmul G dK_timeTogether_46 ?_
        refine x_ladd G dK_timeTogether_47 ?_
        refine x_topl (by rw [h7, h8, nI_l (by omega), nI_l (by omega), lN_mul, lN_mul, lN_add, ← e1]) ?_
        refine x_lstore_n G 2 dK_timeTogether_48 rfl (by decide) ?_
        refine x_lload G dK_timeTogether_49 rfl ?_
        refine x_aload_n G 0 dK_timeTogether_51 rfl rfl ?_
        refine x_get G 2 rfl rfl 3 (by decide) rfl (fun w h => .tail _ (iK_ok w h)) (.tail _ wd_114) rfl dK_timeTogether_52 ?_
        refine x_iload G dK_timeTogether_55 rfl ?_
        refine x_ialdN G 8 0 rfl rfl (by omega) (by decide) dK_timeTogether_57 ?_
        refine x_i2l G dK_timeTogether_58 ?_
        refine x_lmul G dK_timeTogether_59 ?_
        refine x_topl (by rw [h8, nI_l (by omega), lN_mul, ← e2]) ?_
        refine x_lstore G dK_timeTogether_60 (by decide) ?_
        refine x_iinc G (nI (k + 1)) dK_timeTogether_62 rfl (nI_1 k) (by decide) ?_
        refine x_goto G 8 dK_timeTogether_65 (by decide) ?_
        first | exact ih (k + 1) (by omega) | exact x_eq rfl (by rw [← e1, ← e2]; rfl) rfl rfl (ih (k + 1) (by omega))
  refine x_lconst G 0 dK_timeTogether_0 (by decide) ?_
  refine x_lstore_n G 2 dK_timeTogether_1 rfl (by decide) ?_
  refine x_lconst G 1 dK_timeTogether_2 (by decide) ?_
  refine x_lstore G dK_timeTogether_3 (by decide) ?_
  refine x_iconst G (0) dK_timeTogether_5 (by decide) ?_
  refine x_istore G dK_timeTogether_6 (by decide) ?_
  exact loop C 0 (by omega)
