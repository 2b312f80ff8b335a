/-! CranePlan.fails -/
set_option maxHeartbeats 4000000 in
set_option maxRecDepth 100000 in
theorem tP_fails1 {l : Launch} {D : va_G} {cI cZ cJ : ClassId} {ad : Nat → Nat} {σ : xSg} {v t : Int32} (hno : ¬ (¬ v < 0 ∧ ¬ σ 2 0 ≤ v ∧ ¬ (4 : Int32) ≤ v)) (htr : l.stackTraces = false) : xCT l D vCl (tyC cI cZ cJ) nwW (wC ad cI cZ cJ σ) yP_fails (.code yP_fails bP_fails 4 (some .int) :: bigW) 6 [.ref (ad 0), .int v, .int t] "java/lang/IndexOutOfBoundsException" := by
  refine xCT.of (cc := bP_fails) (nL := 4) (ret := (some .int)) rfl (by decide) [.ref (ad 0), .int v, .int t, .null] rfl (Nat.le_of_ble_eq_true rfl) ?_
  intro pp ee ss mm aa bb me cde AA G hr hlk hex hTH
  refine x_aload_n G 0 dP_fails_0 rfl rfl ?_
  refine x_get G 0 rfl rfl 1 (by decide) rfl (fun w h => .tail _ (iP_ok w h)) (.tail _ wd_219) rfl dP_fails_1 ?_
  refine x_iload_n G 1 dP_fails_4 rfl rfl ?_
  refine x_call0VN1i G cK_has 2 rfl rfl (cVN G.2.2.2.2.1 G.2.2.2.2.2.2.1 nd_494 wd_268 wd_5 wd_50 wd_269 (by decide +kernel) ⟨(Nat.le_of_ble_eq_true rfl), (Nat.le_of_ble_eq_true rfl)⟩) dP_fails_5 (Nat.le_of_ble_eq_true rfl) ⟨Nat.zero_le _, Nat.zero_le _⟩ (fun r5 e5 => ?_)
  subst e5
  refine x_if_ne G 21 dP_fails_8 (by decide) (fun h8 => ?_) (fun h8 => ?_)
  · have h8 := bI_ne0.mp h8
    exact (hno (h8)).elim
  · have h8 := bI_eq0.mp h8
    exact x_throw G hTH htr hex hlk own_104 wd_509 wd_510 wd_63 (tx := "no such crane") (by decide) dP_fails_11 dP_fails_14 dP_fails_15 dP_fails_17 dP_fails_20 ⟨(Nat.le_of_ble_eq_true rfl), (Nat.le_of_ble_eq_true rfl), (Nat.le_of_ble_eq_true rfl), (Nat.le_of_ble_eq_true rfl)⟩
set_option maxHeartbeats 4000000 in
set_option maxRecDepth 100000 in
theorem tP_fails2 {l : Launch} {D : va_G} {cI cZ cJ : ClassId} {ad : Nat → Nat} {σ : xSg} {C c : Nat} {t : Int32} (hC : σ 2 0 = nI C) (hC4 : C ≤ 4) (hc : c < C) (ho : t < 0 ∨ ¬ σ 9 c = 0) (htr : l.stackTraces = false) : xCT l D vCl (tyC cI cZ cJ) nwW (wC ad cI cZ cJ σ) yP_fails (.code yP_fails bP_fails 4 (some .int) :: bigW) 6 [.ref (ad 0), .int (nI c), .int t] "java/lang/IllegalArgumentException" := by
  refine xCT.of (cc := bP_fails) (nL := 4) (ret := (some .int)) rfl (by decide) [.ref (ad 0), .int (nI c), .int t, .null] rfl (Nat.le_of_ble_eq_true rfl) ?_
  intro pp ee ss mm aa bb me cde AA G hr hlk hex hTH
  refine x_aload_n G 0 dP_fails_0 rfl rfl ?_
  refine x_get G 0 rfl rfl 1 (by decide) rfl (fun w h => .tail _ (iP_ok w h)) (.tail _ wd_219) rfl dP_fails_1 ?_
  refine x_iload_n G 1 dP_fails_4 rfl rfl ?_
  refine x_call0VN1i G (cK_hasN hC hC4 (by omega)) 2 rfl rfl (cVN G.2.2.2.2.1 G.2.2.2.2.2.2.1 nd_494 wd_268 wd_5 wd_50 wd_269 (by decide +kernel) ⟨(Nat.le_of_ble_eq_true rfl), (Nat.le_of_ble_eq_true rfl)⟩) dP_fails_5 (Nat.le_of_ble_eq_true rfl) ⟨Nat.zero_le _, Nat.zero_le _⟩ (fun r5 e5 => ?_)
  subst e5
  refine x_if_ne G 21 dP_fails_8 (by decide) (fun h8 => ?_) (fun h8 => ?_)
  · have h8 := bI_ne0.mp h8
    refine x_iload_n G 2 dP_fails_21 rfl rfl ?_
    refine x_if_lt G 36 dP_fails_22 (by decide) (fun h22 => ?_) (fun h22 => ?_)
    · exact x_throw G hTH htr hex hlk own_59 wd_376 wd_377 wd_59 (tx := "no time of a plan, or a crane that is out") (by decide) dP_fails_36 dP_fails_39 dP_fails_40 dP_fails_42 dP_fails_45 ⟨(Nat.le_of_ble_eq_true rfl), (Nat.le_of_ble_eq_true rfl), (Nat.le_of_ble_eq_true rfl), (Nat.le_of_ble_eq_true rfl)⟩
    · refine x_aload_n G 0 dP_fails_25 rfl rfl ?_
      refine x_get G 0 rfl rfl 1 (by decide) rfl (fun w h => .tail _ (iP_ok w h)) (.tail _ wd_219) rfl dP_fails_26 ?_
      refine x_iload_n G 1 dP_fails_29 rfl rfl ?_
      refine x_call0VN1i G (cK_isOut hC hC4 (by omega)) 2 rfl rfl (cVN G.2.2.2.2.1 G.2.2.2.2.2.2.1 nd_548 wd_264 wd_4 wd_50 wd_265 (by decide +kernel) ⟨(Nat.le_of_ble_eq_true rfl), (Nat.le_of_ble_eq_true rfl)⟩) dP_fails_30 (Nat.le_of_ble_eq_true rfl) ⟨Nat.zero_le _, Nat.zero_le _⟩ (fun r30 e30 => ?_)
      subst e30
      refine x_if_eq G 46 dP_fails_33 (by decide) (fun h33 => ?_) (fun h33 => ?_)
      · have h33 := bI_eq0.mp h33
        exact (ho.elim h22 (fun q => h33 (fun z => q z.2))).elim
      · have h33 := bI_ne0.mp h33
        exact x_throw G hTH htr hex hlk own_59 wd_376 wd_377 wd_59 (tx := "no time of a plan, or a crane that is out") (by decide) dP_fails_36 dP_fails_39 dP_fails_40 dP_fails_42 dP_fails_45 ⟨(Nat.le_of_ble_eq_true rfl), (Nat.le_of_ble_eq_true rfl), (Nat.le_of_ble_eq_true rfl), (Nat.le_of_ble_eq_true rfl)⟩
  · have h8 := bI_eq0.mp h8
    exact absurd hc h8
set_option maxHeartbeats 4000000 in
set_option maxRecDepth 100000 in
theorem tP_fails3 {l : Launch} {D : va_G} {cI cZ cJ : ClassId} {ad : Nat → Nat} {σ : xSg} {C c : Nat} {t : Int32} (hC : σ 2 0 = nI C) (hC4 : C ≤ 4) (hc : c < C) (ht : ¬ t < 0) (ho : σ 9 c = 0) (hpl : σ 0 4 = 0) (htr : l.stackTraces = false) : xCT l D vCl (tyC cI cZ cJ) nwW (wC ad cI cZ cJ σ) yP_fails (.code yP_fails bP_fails 4 (some .int) :: bigW) 6 [.ref (ad 0), .int (nI c), .int t] "java/lang/IllegalStateException" := by
  refine xCT.of (cc := bP_fails) (nL := 4) (ret := (some .int)) rfl (by decide) [.ref (ad 0), .int (nI c), .int t, .null] rfl (Nat.le_of_ble_eq_true rfl) ?_
  intro pp ee ss mm aa bb me cde AA G hr hlk hex hTH
  refine x_aload_n G 0 dP_fails_0 rfl rfl ?_
  refine x_get G 0 rfl rfl 1 (by decide) rfl (fun w h => .tail _ (iP_ok w h)) (.tail _ wd_219) rfl dP_fails_1 ?_
  refine x_iload_n G 1 dP_fails_4 rfl rfl ?_
  refine x_call0VN1i G (cK_hasN hC hC4 (by omega)) 2 rfl rfl (cVN G.2.2.2.2.1 G.2.2.2.2.2.2.1 nd_494 wd_268 wd_5 wd_50 wd_269 (by decide +kernel) ⟨(Nat.le_of_ble_eq_true rfl), (Nat.le_of_ble_eq_true rfl)⟩) dP_fails_5 (Nat.le_of_ble_eq_true rfl) ⟨Nat.zero_le _, Nat.zero_le _⟩ (fun r5 e5 => ?_)
  subst e5
  refine x_if_ne G 21 dP_fails_8 (by decide) (fun h8 => ?_) (fun h8 => ?_)
  · have h8 := bI_ne0.mp h8
    refine x_iload_n G 2 dP_fails_21 rfl rfl ?_
    refine x_if_lt G 36 dP_fails_22 (by decide) (fun h22 => ?_) (fun h22 => ?_)
    · first | exact absurd h22 ht | exact absurd ⟨hc, ho⟩ h33
    · refine x_aload_n G 0 dP_fails_25 rfl rfl ?_
      refine x_get G 0 rfl rfl 1 (by decide) rfl (fun w h => .tail _ (iP_ok w h)) (.tail _ wd_219) rfl dP_fails_26 ?_
      refine x_iload_n G 1 dP_fails_29 rfl rfl ?_
      refine x_call0VN1i G (cK_isOut hC hC4 (by omega)) 2 rfl rfl (cVN G.2.2.2.2.1 G.2.2.2.2.2.2.1 nd_548 wd_264 wd_4 wd_50 wd_265 (by decide +kernel) ⟨(Nat.le_of_ble_eq_true rfl), (Nat.le_of_ble_eq_true rfl)⟩) dP_fails_30 (Nat.le_of_ble_eq_true rfl) ⟨Nat.zero_le _, Nat.zero_le _⟩ (fun r30 e30 => ?_)
      subst e30
      refine x_if_eq G 46 dP_fails_33 (by decide) (fun h33 => ?_) (fun h33 => ?_)
      · have h33 := bI_eq0.mp h33
        refine x_aload_n G 0 dP_fails_46 rfl rfl ?_
        refine x_get G 0 rfl rfl 4 (by decide) rfl (fun w h => .tail _ (iP_ok w h)) (.tail _ wd_222) rfl dP_fails_47 ?_
        refine x_if_ne G 63 dP_fails_50 (by decide) (fun h50 => ?_) (fun h50 => ?_)
        · exact absurd hpl h50
        · exact x_throw G hTH htr hex hlk own_70 wd_449 wd_450 wd_60 (tx := "no plan") (by decide) dP_fails_53 dP_fails_56 dP_fails_57 dP_fails_59 dP_fails_62 ⟨(Nat.le_of_ble_eq_true rfl), (Nat.le_of_ble_eq_true rfl), (Nat.le_of_ble_eq_true rfl), (Nat.le_of_ble_eq_true rfl)⟩
      · have h33 := bI_ne0.mp h33
        first | exact absurd h22 ht | exact absurd ⟨hc, ho⟩ h33
  · have h8 := bI_eq0.mp h8
    exact absurd hc h8
theorem PB.upd {σ u : xSg} {n k x y : Nat} {hh ww h1 w1 : Nat → Nat} (h : PB σ n (kU h1 hh k) (kU w1 ww k)) (hk : k < n) (hx : h1 k = x) (hy : w1 k = y) (bx : x ≤ 50) (by' : y ≤ 200) (e0 : u 1 = σ 1) (e1 : ∀ b, u 5 b = if b = k then nI x else σ 5 b) (e2 : ∀ b, u 6 b = if b = k then nI y else σ 6 b) : PB u n (kU h1 hh (k + 1)) (kU w1 ww (k + 1)) := by
  obtain ⟨hn8, hn, hbw, hbb, hb0⟩ := h
  refine ⟨hn8, by rw [e0]; exact hn, fun b hb => ?_, fun b => ?_, fun b hb => ?_⟩
  · have := hbw b hb
    rw [e1, e2]
    by_cases e : b = k
    · rw [if_pos e, if_pos e, e]; unfold kU; rw [if_pos (by omega), if_pos (by omega), hx, hy]; exact ⟨rfl, rfl⟩
    · rw [if_neg e, if_neg e]
      unfold kU at this ⊢
      by_cases q : b < k
      · rw [if_pos q, if_pos q] at this; rw [if_pos (by omega), if_pos (by omega)]; exact this
      · rw [if_neg q, if_neg q] at this; rw [if_neg (by omega), if_neg (by omega)]; exact this
  · have := hbb b
    by_cases e : b = k
    · rw [e]; unfold kU; rw [if_pos (by omega), if_pos (by omega), hx, hy]; exact ⟨bx, by'⟩
    · unfold kU at this ⊢
      by_cases q : b < k
      · rw [if_pos q, if_pos q] at this; rw [if_pos (by omega), if_pos (by omega)]; exact this
      · rw [if_neg q, if_neg q] at this; rw [if_neg (by omega), if_neg (by omega)]; exact this
  · have := hb0 b hb
    unfold kU at this ⊢
    rw [if_neg (by omega), if_neg (by omega)] at this; rw [if_neg (by omega), if_neg (by omega)]; exact this
theorem PB.ext {σ : xSg} {n : Nat} {hh ww h1 w1 : Nat → Nat} (h : PB σ n hh ww) (e1 : hh = h1) (e2 : ww = w1) : PB σ n h1 w1 := by subst e1; subst e2; exact h
theorem PK.outN {σ : xSg} {C c : Nat} {mo mi : Nat → Nat} {ou : Nat → Bool} (h : PK σ C mo mi ou) : PK (sst σ 9 c 1) C mo mi (ouN ou c) := by
  obtain ⟨hC1, hC4, hC, hrt, hbd⟩ := h
  refine ⟨hC1, hC4, by rw [sst_ne (by omega)]; exact hC, fun x hx => ?_, hbd⟩
  rw [sst_ne (show (7 : Nat) ≠ 9 by omega), sst_ne (show (8 : Nat) ≠ 9 by omega)]
  refine ⟨(hrt x hx).1, (hrt x hx).2.1, ?_⟩
  by_cases e : x = c
  · rw [e, sst_same]; exact (bI_t (by simp [ouN])).symm
  · rw [sst_i e, (hrt x hx).2.2]; exact bI_congr (by simp [ouN, e])
theorem dnA_le {A mo mi bg en : Nat → Nat} {hh ww : Nat → Nat} {b t : Nat} (hmo : ∀ c, 0 < mo c) (hmi : ∀ c, 0 < mi c) (he : ∀ b, A b < 4 → en b = bg b + tkA (mvF hh ww) mo mi (A b) b) : dnA A (mvF hh ww) mo mi bg en b t ≤ mvF hh ww b := by
  unfold dnA
  split
  · exact Nat.zero_le _
  · rename_i h1
    have h4 : A b < 4 := Decidable.byContradiction (fun q => h1 (Or.inl q))
    split
    · exact Nat.le_refl _
    · rename_i h2
      have := he b h4
      exact done_le (hmo _) (hmi _) (by unfold tkA at this; omega)
set_option maxHeartbeats 4000000 in
set_option maxRecDepth 100000 in
theorem cP_fails {l : Launch} {D : va_G} {cI cZ cJ : ClassId} {ad : Nat → Nat} {σ : xSg} {n C g s : Nat} {hh ww mo mi : Nat → Nat} {ou : Nat → Bool} (hB : PB σ n hh ww) (hK : PK σ C mo mi ou) (hS : PS σ g s) {A : Nat → Nat} (hpl : σ 0 4 = 1) (hPN : PLN σ A (mvF hh ww) mo mi g s) (hAC : ∀ b, A b < 4 → A b < C) {c t : Nat} (hc : c < C) (ho : σ 9 c = 0) (ht : t < 2 ^ 31) : xCi l D vCl (tyC cI cZ cJ) nwW (wC ad cI cZ cJ) yP_fails (.code yP_fails bP_fails 4 (some .int) :: bigW) 6 [.ref (ad 0), .int (nI c), .int (nI t)] σ (fun r u => SBC u n C g s (hNw A hh ww mo mi g s t) (wNw A hh ww mo mi g s t) mo mi (ouN ou c) r ∧ PB u n (hNw A hh ww mo mi g s t) (wNw A hh ww mo mi g s t) ∧ PK u C mo mi (ouN ou c) ∧ PS u g s) := by
  refine xCi.of (cc := bP_fails) (nL := 4) (ret := (some .int)) rfl (by decide) [.ref (ad 0), .int (nI c), .int (nI t), .null] rfl (Nat.le_of_ble_eq_true rfl) ?_
  intro pp ee ss mm aa bb me cde AA G hr hlk
  obtain ⟨hn8, hnt, hbw, hbb, hb0⟩ := id hB
  obtain ⟨hC1, hC4, hC, hrt, hbd⟩ := id hK
  obtain ⟨hg3, hs20, hg, hs⟩ := id hS
  have hmv := hB.mv
  have hcm : ∀ c b, c < 4 → b < 8 → cmA A (mvF hh ww) mo mi 8 g s c b ≤ 675540 := fun c b q1 q2 => cmA_le hmv (fun c _ => (hbd c).2.2.2) (fun c _ => (hbd c).1) hg3 hs20 q1 q2
  have htk : ∀ c b, tkA (mvF hh ww) mo mi c b ≤ 25000 := fun c b => tkA_le (hmv b) (hbd c).2.2.2 (hbd c).1
  have hbe : ∀ b, b < 8 → A b < 4 → σ 11 b = nI ((fun b => cmA A (mvF hh ww) mo mi 8 g s (A b) b) b) ∧ σ 12 b = nI ((enA A (mvF hh ww) mo mi g s) b) ∧ (fun b => cmA A (mvF hh ww) mo mi 8 g s (A b) b) b ≤ 1000000 ∧ (enA A (mvF hh ww) mo mi g s) b ≤ 1000000 := fun b q1 q2 => by
    have h1 := hPN.1.2.1.2.1 b q1 (Nat.zero_le _) q2
    have h2 := hcm (A b) b q2 q1
    have h3 := htk (A b) b
    exact ⟨h1.1, h1.2, by show cmA _ _ _ _ _ _ _ _ _ ≤ _; omega, by unfold enA; omega⟩
  have loop : ∀ (j k : Nat), k + j = n → ∀ (σ1 : xSg), PB σ1 n (kU (hNw A hh ww mo mi g s t) hh k) (kU (wNw A hh ww mo mi g s t) ww k) → (∀ q, q ≠ 5 → q ≠ 6 → σ1 q = σ q) → xJ pp l ee { frames := 6, cells := 0, slots := 0, locals := 40 * 6 } ss mm aa bb me cde 0 0 (MQ bb (va_Qi (fun r u => SBC u n C g s (hNw A hh ww mo mi g s t) (wNw A hh ww mo mi g s t) mo mi (ouN ou c) r ∧ PB u n (hNw A hh ww mo mi g s t) (wNw A hh ww mo mi g s t) ∧ PK u C mo mi (ouN ou c) ∧ PS u g s) (fun u t => va_P D vCl (wC ad cI cZ cJ u) t.heap ∧ va_D AA (wC ad cI cZ cJ u)) AA) aa ss 0 0 AA) D vCl AA 4 (va_S AA ss.heap) (wC ad cI cZ cJ σ1) [.ref (ad 0), .int (nI c), .int (nI t), .int (nI k)] 65 [] := by
    intro j
    induction j with
    | zero =>
      intro k hk σ1 hB1 hO1
      have hk : n = k := by omega
      subst hk
      have hBe : PB σ1 n (hNw A hh ww mo mi g s t) (wNw A hh ww mo mi g s t) := hB1.ext (funext fun b => by unfold kU; split; (· rfl); (· have h1 := (hb0 b (by omega)).1; have h2 := hNw_le (A := A) (hh := hh) (ww := ww) (mo := mo) (mi := mi) (g := g) (s := s) (t := t) (b := b); omega)) (funext fun b => by unfold kU; split; (· rfl); (· have h1 := (hb0 b (by omega)).2; have h2 := wNw_le (A := A) (hh := hh) (ww := ww) (mo := mo) (mi := mi) (g := g) (s := s) (t := t) (b := b); omega))
      have hK1 : PK σ1 C mo mi ou := hK.of (hO1 2 (by omega) (by omega)) (hO1 7 (by omega) (by omega)) (hO1 8 (by omega) (by omega)) (hO1 9 (by omega) (by omega))
      have hS1 : PS σ1 g s := hS.of (hO1 2 (by omega) (by omega))
      have hB2 : PB (sst (sst σ1 9 c 1) 0 4 0) n (hNw A hh ww mo mi g s t) (wNw A hh ww mo mi g s t) := hBe.of (by rw [sst_ne (by omega), sst_ne (by omega)]) (by rw [sst_ne (by omega), sst_ne (by omega)]) (by rw [sst_ne (by omega), sst_ne (by omega)])
      have hK2 : PK (sst (sst σ1 9 c 1) 0 4 0) C mo mi (ouN ou c) := (hK1.outN (c := c)).of (sst_ne (by omega)) (sst_ne (by omega)) (sst_ne (by omega)) (sst_ne (by omega))
      have hS2 : PS (sst (sst σ1 9 c 1) 0 4 0) g s := hS1.of (by rw [sst_ne (by omega), sst_ne (by omega)])
      refine x_iload_n G 3 dP_fails_65 rfl rfl ?_
      refine x_aload_n G 0 dP_fails_66 rfl rfl ?_
      refine x_get G 0 rfl rfl 0 (by decide) rfl (fun w h => .tail _ (iP_ok w h)) (.tail _ wd_218) rfl dP_fails_67 ?_
      refine x_getN G 1 rfl rfl 2 (by decide) rfl (fun w h => .tail _ (iB_ok w h)) nd_83 rfl dP_fails_70 ?_
      refine x_icmp_ge G 99 dP_fails_73 (by decide) (fun h73 => ?_) (fun h73 => (by rw [hO1 1 (by omega) (by omega), hnt] at h73; exact absurd (nI_le (Nat.le_refl _) (by omega)) h73))
      refine x_aload_n G 0 dP_fails_99 rfl rfl ?_
      refine x_get G 0 rfl rfl 1 (by decide) rfl (fun w h => .tail _ (iP_ok w h)) (.tail _ wd_219) rfl dP_fails_100 ?_
      refine x_iload_n G 1 dP_fails_103 rfl rfl ?_
      refine x_callVN1v G (cK_putOut hK1.2.2.1 hC4 hc) 2 rfl rfl (cVN G.2.2.2.2.1 G.2.2.2.2.2.2.1 nd_563 wd_565 wd_32 wd_50 wd_566 (by decide +kernel) ⟨(Nat.le_of_ble_eq_true rfl), (Nat.le_of_ble_eq_true rfl)⟩) dP_fails_104 (Nat.le_of_ble_eq_true rfl) ⟨Nat.zero_le _, Nat.zero_le _⟩ (fun u104 e104 => ?_)
      subst e104
      refine x_aload_n G 0 dP_fails_107 rfl rfl ?_
      refine x_iconst G (0) dP_fails_108 (by decide) ?_
      refine x_put G 0 rfl rfl 4 (by decide) (Nat.le_of_ble_eq_true rfl) wput_0_4 (fun w h => .tail _ (iP_ok w h)) tP_ok nP_ok (.tail _ wd_222) rfl rfl (tP_ok 4 (by decide)) rfl rfl dP_fails_109 ?_
      refine x_aload_n G 0 dP_fails_112 rfl rfl ?_
      refine x_callV0i G (cP_plan (pl := false) hB2 hK2 hS2 sst_same (fun q => by cases q)) 0 rfl rfl (cV G.2.2.2.2.1 wd_567 wd_242 wd_243 wd_48 wd_244 (by decide +kernel) ⟨(Nat.le_of_ble_eq_true rfl), (Nat.le_of_ble_eq_true rfl)⟩) dP_fails_113 (Nat.le_of_ble_eq_true rfl) ⟨Nat.zero_le _, Nat.zero_le _⟩ (fun r113 u113 e113 => ?_)
      exact x_reti G hr hlk rfl dP_fails_116 ⟨e113.1, e113.2.PB hB2, e113.2.PK hK2, e113.2.PS hS2⟩
    | succ j ih =>
      intro k hk σ1 hB1 hO1
      have hk8 : k < 8 := by omega
      obtain ⟨hbb1, hbb2⟩ := hbb k
      have h5k : σ1 5 k = nI (hh k) ∧ σ1 6 k = nI (ww k) := by have := hB1.2.2.1 k (by omega); rw [kU_at, kU_at] at this; exact this
      have hK1 : PK σ1 C mo mi ou := hK.of (hO1 2 (by omega) (by omega)) (hO1 7 (by omega) (by omega)) (hO1 8 (by omega) (by omega)) (hO1 9 (by omega) (by omega))
      have hdl : dnA A (mvF hh ww) mo mi (fun b => cmA A (mvF hh ww) mo mi 8 g s (A b) b) (enA A (mvF hh ww) mo mi g s) k t ≤ hh k + ww k := dnA_le (fun c => (hbd c).1) (fun c => (hbd c).2.2.1) (fun b _ => rfl)
      have hde : dnA A (mvF (kU (hNw A hh ww mo mi g s t) hh k) (kU (wNw A hh ww mo mi g s t) ww k)) mo mi (fun b => cmA A (mvF hh ww) mo mi 8 g s (A b) b) (enA A (mvF hh ww) mo mi g s) k t = dnA A (mvF hh ww) mo mi (fun b => cmA A (mvF hh ww) mo mi 8 g s (A b) b) (enA A (mvF hh ww) mo mi g s) k t := by unfold dnA; rw [show mvF (kU (hNw A hh ww mo mi g s t) hh k) (kU (wNw A hh ww mo mi g s t) ww k) k = mvF hh ww k by unfold mvF; rw [kU_at, kU_at]]
      obtain ⟨dn, hdn⟩ : ∃ dn, dn = dnA A (mvF hh ww) mo mi (fun b => cmA A (mvF hh ww) mo mi 8 g s (A b) b) (enA A (mvF hh ww) mo mi g s) k t := ⟨_, rfl⟩
      rw [← hdn] at hdl hde
      refine x_iload_n G 3 dP_fails_65 rfl rfl ?_
      refine x_aload_n G 0 dP_fails_66 rfl rfl ?_
      refine x_get G 0 rfl rfl 0 (by decide) rfl (fun w h => .tail _ (iP_ok w h)) (.tail _ wd_218) rfl dP_fails_67 ?_
      refine x_getN G 1 rfl rfl 2 (by decide) rfl (fun w h => .tail _ (iB_ok w h)) nd_83 rfl dP_fails_70 ?_
      refine x_icmp_ge G 99 dP_fails_73 (by decide) (fun h73 => (by rw [hO1 1 (by omega) (by omega), hnt] at h73; exact absurd h73 (nI_ge (by omega) (by omega)))) (fun h73 => ?_)
      refine x_aload_n G 0 dP_fails_76 rfl rfl ?_
      refine x_get G 0 rfl rfl 0 (by decide) rfl (fun w h => .tail _ (iP_ok w h)) (.tail _ wd_218) rfl dP_fails_77 ?_
      refine x_iload_n G 3 dP_fails_80 rfl rfl ?_
      refine x_aload_n G 0 dP_fails_81 rfl rfl ?_
      refine x_get G 0 rfl rfl 2 (by decide) rfl (fun w h => .tail _ (iP_ok w h)) (.tail _ wd_220) rfl dP_fails_82 ?_
      refine x_iload_n G 3 dP_fails_85 rfl rfl ?_
      refine x_iload_n G 2 dP_fails_86 rfl rfl ?_
      refine x_call0VN2i G (cT_doneBy (n := n) (b := k) (bg := (fun b => cmA A (mvF hh ww) mo mi 8 g s (A b) b)) (en := (enA A (mvF hh ww) mo mi g s)) hB1 hK1 hAC (show k < n by omega) ht (by rw [hO1 10 (by omega) (by omega)]; exact hPN.1.1.1 k hk8) (fun q => by rw [hO1 11 (by omega) (by omega), hO1 12 (by omega) (by omega)]; exact hbe k hk8 q)) 3 rfl rfl (cVN G.2.2.2.2.1 G.2.2.2.2.2.2.1 nd_550 wd_552 wd_29 wd_53 wd_553 (by decide +kernel) ⟨(Nat.le_of_ble_eq_true rfl), (Nat.le_of_ble_eq_true rfl)⟩) dP_fails_87 (Nat.le_of_ble_eq_true rfl) ⟨Nat.zero_le _, Nat.zero_le _⟩ (fun r87 e87 => ?_)
      subst e87
      refine x_top (z := nI dn) (by rw [hde]) ?_
      refine x_callVN2v G (cB_takeOff (n := n) hB1.2.1 hn8 (show k < n by omega)) 1 rfl rfl (cVN G.2.2.2.2.1 G.2.2.2.2.2.2.1 nd_558 wd_560 wd_31 wd_49 wd_561 (by decide +kernel) ⟨(Nat.le_of_ble_eq_true rfl), (Nat.le_of_ble_eq_true rfl)⟩) dP_fails_90 (Nat.le_of_ble_eq_true rfl) ⟨Nat.zero_le _, Nat.zero_le _⟩ (fun u90 e90 => ?_)
      subst e90
      refine x_iinc G (nI (k + 1)) dP_fails_93 rfl (nI_1 k) (by decide) ?_
      refine x_goto G 65 dP_fails_96 (by decide) ?_
      refine ih (k + 1) (by omega) _ (hB1.upd (show k < n by omega) (show hNw A hh ww mo mi g s t k = hh k - min dn (hh k) by unfold hNw; rw [← hdn]) (show wNw A hh ww mo mi g s t k = ww k - min (dn - min dn (hh k)) (ww k) by unfold wNw; rw [← hdn]) (by omega) (by omega) (by rw [sst_ne (by omega), sst_ne (by omega)]) (fun b => ?_) (fun b => ?_)) (fun q h1 h2 => by rw [sst_ne h2, sst_ne h1]; exact hO1 q h1 h2)
      · rw [sst_ne (by omega)]; by_cases q : b = k; (· rw [if_pos q, q, sst_same, h5k.1, nI_min (by omega) (by omega), pk_sub (Nat.min_le_right _ _)]); (· rw [if_neg q, sst_i q])
      · by_cases q : b = k; (· rw [if_pos q, q, sst_same, h5k.1, h5k.2, nI_min (by omega) (by omega), pk_sub (Nat.min_le_left _ _), nI_min (by omega) (by omega), pk_sub (Nat.min_le_right _ _)]); (· rw [if_neg q, sst_i q, sst_ne (by omega)])
  refine x_aload_n G 0 dP_fails_0 rfl rfl ?_
  refine x_get G 0 rfl rfl 1 (by decide) rfl (fun w h => .tail _ (iP_ok w h)) (.tail _ wd_219) rfl dP_fails_1 ?_
  refine x_iload_n G 1 dP_fails_4 rfl rfl ?_
  refine x_call0VN1i G (cK_hasN hC hC4 (by omega)) 2 rfl rfl (cVN G.2.2.2.2.1 G.2.2.2.2.2.2.1 nd_494 wd_268 wd_5 wd_50 wd_269 (by decide +kernel) ⟨(Nat.le_of_ble_eq_true rfl), (Nat.le_of_ble_eq_true rfl)⟩) dP_fails_5 (Nat.le_of_ble_eq_true rfl) ⟨Nat.zero_le _, Nat.zero_le _⟩ (fun r5 e5 => ?_)
  subst e5
  refine x_if_ne G 21 dP_fails_8 (by decide) (fun h8 => ?_) (fun h8 => ?_)
  · have h8 := bI_ne0.mp h8
    refine x_iload_n G 2 dP_fails_21 rfl rfl ?_
    refine x_if_lt G 36 dP_fails_22 (by decide) (fun h22 => (by exact absurd h22 (nI_pos ht))) (fun h22 => ?_)
    refine x_aload_n G 0 dP_fails_25 rfl rfl ?_
    refine x_get G 0 rfl rfl 1 (by decide) rfl (fun w h => .tail _ (iP_ok w h)) (.tail _ wd_219) rfl dP_fails_26 ?_
    refine x_iload_n G 1 dP_fails_29 rfl rfl ?_
    refine x_call0VN1i G (cK_isOut hC hC4 (by omega)) 2 rfl rfl (cVN G.2.2.2.2.1 G.2.2.2.2.2.2.1 nd_548 wd_264 wd_4 wd_50 wd_265 (by decide +kernel) ⟨(Nat.le_of_ble_eq_true rfl), (Nat.le_of_ble_eq_true rfl)⟩) dP_fails_30 (Nat.le_of_ble_eq_true rfl) ⟨Nat.zero_le _, Nat.zero_le _⟩ (fun r30 e30 => ?_)
    subst e30
    refine x_if_eq G 46 dP_fails_33 (by decide) (fun h33 => ?_) (fun h33 => ?_)
    · have h33 := bI_eq0.mp h33
      refine x_aload_n G 0 dP_fails_46 rfl rfl ?_
      refine x_get G 0 rfl rfl 4 (by decide) rfl (fun w h => .tail _ (iP_ok w h)) (.tail _ wd_222) rfl dP_fails_47 ?_
      refine x_if_ne G 63 dP_fails_50 (by decide) (fun h50 => ?_) (fun h50 => (by rw [hpl] at h50; exact absurd h50 (by decide)))
      refine x_iconst G (0) dP_fails_63 (by decide) ?_
      refine x_istore_n G 3 dP_fails_64 rfl (by decide) ?_
      exact loop n 0 (by omega) σ hB (fun _ _ _ => rfl)
    · have h33 := bI_ne0.mp h33
      exact absurd ⟨hc, ho⟩ h33
  · have h8 := bI_eq0.mp h8
    exact absurd hc h8
