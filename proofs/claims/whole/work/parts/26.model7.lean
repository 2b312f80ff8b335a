/-! THE REFERENCE: bound, count -/
/-- all moves of the bays below k -/
def amN (hh ww : Nat → Nat) : Nat → Nat
  | 0 => 0
  | k + 1 => amN hh ww k + mvF hh ww k
theorem amN_le {hh ww : Nat → Nat} (h : ∀ b, mvF hh ww b ≤ 250) : ∀ k, amN hh ww k ≤ 250 * k
  | 0 => Nat.le_refl _
  | k + 1 => by have := amN_le h k; have := h k; unfold amN; omega
/-- the least time of the cranes below k, as the reference finds it -/
def ltM (ou : Nat → Bool) (mo mi : Nat → Nat) (v : Nat) : Nat → Nat
  | 0 => 1000000000
  | k + 1 => if ou k = true then ltM ou mo mi v k else min (ltM ou mo mi v k) (cdv (v * mi k) (mo k))
theorem ltM_le {ou : Nat → Bool} {mo mi : Nat → Nat} {v : Nat} : ∀ k, ltM ou mo mi v k ≤ 1000000000
  | 0 => Nat.le_refl _
  | k + 1 => by
    have := ltM_le (ou := ou) (mo := mo) (mi := mi) (v := v) k
    unfold ltM; split <;> omega
theorem ltM_eq {ou : Nat → Bool} {mo mi : Nat → Nat} {v : Nat} (hb : ∀ c, cdv (v * mi c) (mo c) ≤ 25000) : ∀ k, (abS ou k = 0 ∧ ltM ou mo mi v k = 1000000000 ∧ ltS ou mo mi v k = 1000000) ∨ (0 < abS ou k ∧ ltM ou mo mi v k = ltS ou mo mi v k ∧ ltS ou mo mi v k ≤ 25000)
  | 0 => Or.inl ⟨rfl, rfl, rfl⟩
  | k + 1 => by
    have ih := ltM_eq (ou := ou) (v := v) hb k
    have hc := hb k
    by_cases ho : ou k = true
    · have e1 : ltM ou mo mi v (k + 1) = ltM ou mo mi v k := by simp [ltM, ho]
      have e2 : ltS ou mo mi v (k + 1) = ltS ou mo mi v k := by simp [ltS, ho]
      have e3 : abS ou (k + 1) = abS ou k := by simp [abS, ho]
      rw [e1, e2, e3]; exact ih
    · have e1 : ltM ou mo mi v (k + 1) = min (ltM ou mo mi v k) (cdv (v * mi k) (mo k)) := by simp [ltM, ho]
      have e2 : ltS ou mo mi v (k + 1) = min (ltS ou mo mi v k) (cdv (v * mi k) (mo k)) := by simp [ltS, ho]
      have e3 : abS ou (k + 1) = abS ou k + 1 := by simp [abS, ho]
      rw [e1, e2, e3]
      rcases ih with ⟨h1, h2, h3⟩ | ⟨h1, h2, h3⟩
      · exact Or.inr ⟨by omega, by omega, by omega⟩
      · exact Or.inr ⟨by omega, by omega, by omega⟩
def mxM (ou : Nat → Bool) (hh ww mo mi : Nat → Nat) (C : Nat) : Nat → Nat
  | 0 => 0
  | k + 1 => max (mxM ou hh ww mo mi C k) (ltS ou mo mi (mvF hh ww k) C)
theorem mxM_le {ou : Nat → Bool} {hh ww mo mi : Nat → Nat} {C : Nat} : ∀ k, mxM ou hh ww mo mi C k ≤ 1000000
  | 0 => Nat.zero_le _
  | k + 1 => by
    have := mxM_le (ou := ou) (hh := hh) (ww := ww) (mo := mo) (mi := mi) (C := C) k
    have := ltS_le (ou := ou) (mo := mo) (mi := mi) (v := mvF hh ww k) C
    unfold mxM; omega
theorem abS_ex {ou : Nat → Bool} : ∀ {k : Nat}, 0 < abS ou k → ∃ c, c < k ∧ ou c = false
  | 0, h => by simp [abS] at h
  | k + 1, h => by
    cases ho : ou k with
    | false => exact ⟨k, by omega, ho⟩
    | true =>
      have h : 0 < abS ou k := by unfold abS at h; simpa [ho] using h
      obtain ⟨c, h1, h2⟩ := abS_ex h
      exact ⟨c, by omega, h2⟩
theorem abv_ge {ab : Nat → Bool} {mo mi : Nat → Nat} (h : ∀ c, mi c ≤ 100) (ho : ∀ c, 0 < mo c) : ∀ {k c : Nat}, c < k → ab c = true → prM ab mi k ≤ 100 * abv ab mo mi k
  | 0, c, hc, _ => by omega
  | k + 1, c, hc, ha => by
    by_cases hk : ab k = true
    · have e1 : prM ab mi (k + 1) = prM ab mi k * mi k := by simp [prM, hk]
      have e2 : abv ab mo mi (k + 1) = abv ab mo mi k * mi k + mo k * prM ab mi k := by simp [abv, hk]
      rw [e1, e2]
      have h1 : prM ab mi k * mi k ≤ prM ab mi k * 100 := Nat.mul_le_mul_left _ (h k)
      have h2 : 1 * prM ab mi k ≤ mo k * prM ab mi k := Nat.mul_le_mul_right _ (ho k)
      omega
    · have e1 : prM ab mi (k + 1) = prM ab mi k := by simp [prM, hk]
      have e2 : abv ab mo mi (k + 1) = abv ab mo mi k := by simp [abv, hk]
      rw [e1, e2]
      rcases (show c < k ∨ c = k by omega) with q | q
      · exact abv_ge h ho q ha
      · rw [q] at ha; exact absurd ha hk
theorem cdv_bd {x y z : Nat} (hy : 0 < y) (h : x ≤ z * y) : cdv x y ≤ z := by
  unfold cdv
  have : (x + y - 1) / y < z + 1 := (Nat.div_lt_iff_lt_mul hy).mpr (by rw [Nat.add_mul]; omega)
  omega
/-- the bound -/
def bdA (n C : Nat) (hh ww mo mi : Nat → Nat) (ou : Nat → Bool) : Int32 := if abS ou C = 0 then -1 else nI (max (cdv (amN hh ww n * prM (fun c => !ou c) mi C) (abv (fun c => !ou c) mo mi C)) (mxM ou hh ww mo mi C n))
theorem tog_le {n C : Nat} {hh ww mo mi : Nat → Nat} {ou : Nat → Bool} (hbd : ∀ c, 1 ≤ mo c ∧ mo c ≤ 100 ∧ 1 ≤ mi c ∧ mi c ≤ 100) (hmv : ∀ b, mvF hh ww b ≤ 250) (hn : n ≤ 8) (ha : 0 < abS ou C) : cdv (amN hh ww n * prM (fun c => !ou c) mi C) (abv (fun c => !ou c) mo mi C) ≤ 200000 := by
  obtain ⟨c, h1, h2⟩ := abS_ex ha
  have hp : 0 < abv (fun c => !ou c) mo mi C := abv_pos (fun c => (hbd c).2.2.1) (fun c => (hbd c).1) h1 (by simp [h2])
  have hg := abv_ge (ab := fun c => !ou c) (mo := mo) (fun c => (hbd c).2.2.2) (fun c => (hbd c).1) h1 (by simp [h2])
  have ham := amN_le hmv n
  refine cdv_bd hp ?_
  have q1 : amN hh ww n * prM (fun c => !ou c) mi C ≤ 2000 * (100 * abv (fun c => !ou c) mo mi C) := Nat.mul_le_mul (by omega) hg
  omega
/-- what count answers -/
def ctN (n C : Nat) (hh ww : Nat → Nat) (ou : Nat → Bool) (pl : Bool) (A : Nat → Nat) (w : Int32) : Int32 := if w = 0 then nI n else if w = 1 then nI (abS ou C) else if w = 2 then bI (pl = true) else if w = 3 then (if pl = true then nI (spA A 8 4) else -1) else if w = 4 then (if pl = true then nI (cntB (fun b => decide (A b < 4)) n) else -1) else if w = 5 then nI (amN hh ww n) else -1
set_option maxHeartbeats 4000000 in
set_option maxRecDepth 100000 in
theorem cM_count {l : Launch} {D : va_G} {cI cZ cJ : ClassId} {ad : Nat → Nat} {σ : xSg} {n C g s : Nat} {hh ww mo mi : Nat → Nat} {ou : Nat → Bool} (hP : PM σ n C g s hh ww mo mi ou) {pl : Bool} {A : Nat → Nat} (hpl : σ 0 10 = bI (pl = true)) (hA : pl = true → PLA σ A n C g) {v : Int32} : xCi l D vCl (tyC cI cZ cJ) nwW (wM ad cI cZ cJ) yM_count (.code yM_count bM_count 5 (some .int) :: bigW) 4 [.ref (ad 0), .int v] σ (fun r u => r = ctN n C hh ww ou pl A v ∧ u 0 0 = 0 ∧ LU σ u) := by
  refine xCi.of (cc := bM_count) (nL := 5) (ret := (some .int)) rfl (by decide) [.ref (ad 0), .int v, .null, .null, .null] rfl (Nat.le_of_ble_eq_true rfl) ?_
  intro pp ee ss mm aa bb me cde AA G hr hlk
  obtain ⟨hn8, hC1, hC4, hg3, hs20, hn, hC, hg, hs, hbw, hrt, hbb, hb0, hbd⟩ := id hP
  have hO : LU σ (sst σ 0 0 0) := LU.thr
  have hP1 := hO.PM hP
  have e0 : sst σ 0 0 0 0 3 = nI n := (sst_i (by omega)).trans hn
  have e10 : sst σ 0 0 0 0 10 = bI (pl = true) := (sst_i (by omega)).trans hpl
  have hmv := hP.mv
  have loop : ∀ (j k : Nat), k + j = n → xJ pp l ee { frames := 4, cells := 0, slots := 0, locals := 40 * 4 } ss mm aa bb me cde 0 0 (MQ bb (va_Qi (fun r u => r = ctN n C hh ww ou pl A v ∧ u 0 0 = 0 ∧ LU σ u) (fun u t => va_P D vCl (wM ad cI cZ cJ u) t.heap ∧ va_D AA (wM ad cI cZ cJ u)) AA) aa ss 0 0 AA) D vCl AA 5 (va_S AA ss.heap) (wM ad cI cZ cJ (sst σ 0 0 0)) [.ref (ad 0), .int v, .int (nI (amN hh ww k)), .int (nI (if pl = true then cntB (fun b => decide (A b < 4)) k else 0)), .int (nI k)] 12 [] := by
    intro j
    induction j with
    | zero =>
      intro k hk
      have hk : n = k := by omega
      subst hk
      refine x_iload G dM_count_12 rfl ?_
      refine x_aload_n G 0 dM_count_14 rfl rfl ?_
      refine x_get G 0 rfl rfl 3 (by decide) rfl (fun w h => .tail _ (iM_ok w h)) (.tail _ wd_598) rfl dM_count_15 ?_
      refine x_icmp_ge G 61 dM_count_18 (by decide) (fun h18 => ?_) (fun h18 => (by rw [e0] at h18; exact absurd (nI_le (Nat.le_refl _) (by omega)) h18))
      refine x_iload_n G 1 dM_count_61 rfl rfl ?_
      by_cases hw0 : v = 0
      · subst hw0
        refine x_tableIn G 100 dM_count_62 (by decide) (by decide) rfl (by decide) ?_
        refine x_aload_n G 0 dM_count_100 rfl rfl ?_
        refine x_get G 0 rfl rfl 3 (by decide) rfl (fun w h => .tail _ (iM_ok w h)) (.tail _ wd_598) rfl dM_count_101 ?_
        exact x_reti G hr hlk rfl dM_count_104 ⟨e0, sst_same, LU.thr⟩
      by_cases hw1 : v = 1
      · subst hw1
        refine x_tableIn G 105 dM_count_62 (by decide) (by decide) rfl (by decide) ?_
        refine x_aload_n G 0 dM_count_105 rfl rfl ?_
        refine x_call0V0i G (cM_working hP1) 0 rfl rfl (cV G.2.2.2.2.1 wd_708 wd_710 wd_44 wd_55 wd_711 (by decide +kernel) ⟨(Nat.le_of_ble_eq_true rfl), (Nat.le_of_ble_eq_true rfl)⟩) dM_count_106 (Nat.le_of_ble_eq_true rfl) ⟨Nat.zero_le _, Nat.zero_le _⟩ (fun r106 e106 => ?_)
        subst e106
        exact x_reti G hr hlk rfl dM_count_109 ⟨rfl, sst_same, LU.thr⟩
      by_cases hw2 : v = 2
      · subst hw2
        refine x_tableIn G 110 dM_count_62 (by decide) (by decide) rfl (by decide) ?_
        refine x_aload_n G 0 dM_count_110 rfl rfl ?_
        refine x_get G 0 rfl rfl 10 (by decide) rfl (fun w h => .tail _ (iM_ok w h)) (.tail _ wd_605) rfl dM_count_111 ?_
        refine x_if_eq G 121 dM_count_114 (by decide) (fun h114 => ?_) (fun h114 => ?_)
        · rw [e10, bI_eq0] at h114
          refine x_iconst G (0) dM_count_121 (by decide) ?_
          exact x_reti G hr hlk rfl dM_count_122 (by first | exact ⟨(bI_t h114).symm, sst_same, LU.thr⟩ | exact ⟨(bI_f h114).symm, sst_same, LU.thr⟩)
        · rw [e10, bI_ne0] at h114
          refine x_iconst G (1) dM_count_117 (by decide) ?_
          refine x_goto G 122 dM_count_118 (by decide) ?_
          exact x_reti G hr hlk rfl dM_count_122 (by first | exact ⟨(bI_t h114).symm, sst_same, LU.thr⟩ | exact ⟨(bI_f h114).symm, sst_same, LU.thr⟩)
      by_cases hw3 : v = 3
      · subst hw3
        refine x_tableIn G 123 dM_count_62 (by decide) (by decide) rfl (by decide) ?_
        refine x_aload_n G 0 dM_count_123 rfl rfl ?_
        refine x_get G 0 rfl rfl 10 (by decide) rfl (fun w h => .tail _ (iM_ok w h)) (.tail _ wd_605) rfl dM_count_124 ?_
        refine x_if_ne G 134 dM_count_127 (by decide) (fun h127 => ?_) (fun h127 => ?_)
        · rw [e10, bI_ne0] at h127
          have hp := h127
          refine x_aload_n G 0 dM_count_134 rfl rfl ?_
          refine x_callV0i G (cM_lays (LU.thr.PM hP) (LU.thr.pla (hA hp)).1 (hA hp).2.1 (hA hp).2.2.1 (hA hp).2.2.2) 0 rfl rfl (cV G.2.2.2.2.1 wd_716 wd_718 wd_45 wd_55 wd_719 (by decide +kernel) ⟨(Nat.le_of_ble_eq_true rfl), (Nat.le_of_ble_eq_true rfl)⟩) dM_count_135 (Nat.le_of_ble_eq_true rfl) ⟨Nat.zero_le _, Nat.zero_le _⟩ (fun r135 u135 e135 => ?_)
          obtain ⟨σ3, hz⟩ : ∃ z, z = u135 := ⟨_, rfl⟩
          subst hz
          obtain ⟨rfl, hT, hF, hCM, hLO⟩ := e135
          have hLU : LU σ σ3 := LU.thr.lo hLO
          have hP3 := hLU.PM hP
          obtain ⟨-, hA1, hA2, hok⟩ := hA hp
          have e0 : σ3 0 3 = nI n := by rw [hLU.2 3 (by omega)]; exact hn
          have hej := hP.ej A 0
          have hth : σ3 0 0 = 0 := by rw [hLO 0 (by omega)]; exact sst_same
          refine x_ldc G 1000000000 dM_count_138 (by decide +kernel) ?_
          refine x_icmp_ge G 150 dM_count_140 (by decide) (fun h140 => (by rw [show (1000000000 : Int32) = nI 1000000000 from rfl, nI_leI (by omega) (by omega)] at h140; omega)) (fun h140 => ?_)
          refine x_aload_n G 0 dM_count_143 rfl rfl ?_
          refine x_call0V0i G (cM_steps hP3 hT hF) 0 rfl rfl (cV G.2.2.2.2.1 wd_700 wd_702 wd_42 wd_55 wd_703 (by decide +kernel) ⟨(Nat.le_of_ble_eq_true rfl), (Nat.le_of_ble_eq_true rfl)⟩) dM_count_144 (Nat.le_of_ble_eq_true rfl) ⟨Nat.zero_le _, Nat.zero_le _⟩ (fun r144 e144 => ?_)
          subst e144
          refine x_goto G 151 dM_count_147 (by decide) ?_
          exact x_reti G hr hlk rfl dM_count_151 (by first | exact ⟨(if_neg h127).symm, sst_same, LU.thr⟩ | exact ⟨(if_pos h127).symm, hth, hLU⟩)
        · have h127 : ¬ pl = true := bI_eq0.mp (by rw [← e10]; exact h127)
          refine x_iconst G (-1) dM_count_130 (by decide) ?_
          refine x_goto G 151 dM_count_131 (by decide) ?_
          exact x_reti G hr hlk rfl dM_count_151 (by first | exact ⟨(if_neg h127).symm, sst_same, LU.thr⟩ | exact ⟨(if_pos h127).symm, hth, hLU⟩)
      by_cases hw4 : v = 4
      · subst hw4
        refine x_tableIn G 152 dM_count_62 (by decide) (by decide) rfl (by decide) ?_
        refine x_aload_n G 0 dM_count_152 rfl rfl ?_
        refine x_get G 0 rfl rfl 10 (by decide) rfl (fun w h => .tail _ (iM_ok w h)) (.tail _ wd_605) rfl dM_count_153 ?_
        refine x_if_eq G 163 dM_count_156 (by decide) (fun h156 => ?_) (fun h156 => ?_)
        · have h156 : ¬ pl = true := bI_eq0.mp (by rw [← e10]; exact h156)
          refine x_iconst G (-1) dM_count_163 (by decide) ?_
          exact x_reti G hr hlk rfl dM_count_164 (by first | exact ⟨(if_neg h156).symm, sst_same, LU.thr⟩ | exact ⟨(by rw [if_pos h156]; exact (if_pos h156).symm), sst_same, LU.thr⟩)
        · have h156 : pl = true := bI_ne0.mp (by rw [← e10]; exact h156)
          refine x_iload_n G 3 dM_count_159 rfl rfl ?_
          refine x_goto G 164 dM_count_160 (by decide) ?_
          exact x_reti G hr hlk rfl dM_count_164 (by first | exact ⟨(if_neg h156).symm, sst_same, LU.thr⟩ | exact ⟨(by rw [if_pos h156]; exact (if_pos h156).symm), sst_same, LU.thr⟩)
      by_cases hw5 : v = 5
      · subst hw5
        refine x_tableIn G 165 dM_count_62 (by decide) (by decide) rfl (by decide) ?_
        refine x_iload_n G 2 dM_count_165 rfl rfl ?_
        exact x_reti G hr hlk rfl dM_count_166 ⟨rfl, sst_same, LU.thr⟩
      refine x_tableOut G 167 dM_count_62 ?_ (by decide) ?_
      · rcases Nat.lt_or_ge 5 v.toInt.toNat with z | z
        · right; omega
        · rcases Int.lt_or_le v.toInt 0 with y | y
          · left; exact y
          · exfalso
            have e : v = nI v.toInt.toNat := Int32.toInt_inj.mp (by rw [nI_toInt (by omega)]; omega)
            have h6 : v.toInt.toNat = 0 ∨ v.toInt.toNat = 1 ∨ v.toInt.toNat = 2 ∨ v.toInt.toNat = 3 ∨ v.toInt.toNat = 4 ∨ v.toInt.toNat = 5 := by omega
            rcases h6 with q | q | q | q | q | q <;> rw [q] at e
            · exact hw0 e
            · exact hw1 e
            · exact hw2 e
            · exact hw3 e
            · exact hw4 e
            · exact hw5 e
      refine x_iconst G (-1) dM_count_167 (by decide) ?_
      exact x_reti G hr hlk rfl dM_count_168 ⟨by unfold ctN; rw [if_neg hw0, if_neg hw1, if_neg hw2, if_neg hw3, if_neg hw4, if_neg hw5], sst_same, LU.thr⟩
    | succ j ih =>
      intro k hk
      obtain ⟨hb1, hb2⟩ := hbw k (by omega)
      have e12 : sst σ 0 0 0 1 k + sst σ 0 0 0 2 k = nI (mvF hh ww k) := by rw [sst_ne (by omega), sst_ne (by omega), hb1, hb2, nI_add]; rfl
      have j53 : ∀ (x : Nat), x = (if pl = true ∧ A k < 4 then 1 else 0) → xJ pp l ee { frames := 4, cells := 0, slots := 0, locals := 40 * 4 } ss mm aa bb me cde 0 0 (MQ bb (va_Qi (fun r u => r = ctN n C hh ww ou pl A v ∧ u 0 0 = 0 ∧ LU σ u) (fun u t => va_P D vCl (wM ad cI cZ cJ u) t.heap ∧ va_D AA (wM ad cI cZ cJ u)) AA) aa ss 0 0 AA) D vCl AA 5 (va_S AA ss.heap) (wM ad cI cZ cJ (sst σ 0 0 0)) [.ref (ad 0), .int v, .int (nI (amN hh ww (k + 1))), .int (nI (if pl = true then cntB (fun b => decide (A b < 4)) k else 0)), .int (nI k)] 53 [.int (nI x), .int (nI (if pl = true then cntB (fun b => decide (A b < 4)) k else 0))] := by
        intro x hx
        have ex : (if pl = true then cntB (fun b => decide (A b < 4)) k else 0) + x = (if pl = true then cntB (fun b => decide (A b < 4)) (k + 1) else 0) := by rw [hx]; by_cases h1 : pl = true; (· rw [if_pos h1, if_pos h1]; by_cases h2 : A k < 4; (· rw [if_pos ⟨h1, h2⟩, cntB_s (by simp [h2])]); (· rw [if_neg (fun q => h2 q.2), cntB_z (by simp [h2])]; rfl)); (· rw [if_neg h1, if_neg h1, if_neg (fun q => h1 q.1)])
        refine x_iadd G dM_count_53 ?_
        refine x_top ((nI_add _ _).trans (by rw [ex])) ?_
        refine x_istore_n G 3 dM_count_54 rfl (by decide) ?_
        refine x_iinc G (nI (k + 1)) dM_count_55 rfl (nI_1 k) (by decide) ?_
        refine x_goto G 12 dM_count_58 (by decide) ?_
        exact ih (k + 1) (by omega)
      refine x_iload G dM_count_12 rfl ?_
      refine x_aload_n G 0 dM_count_14 rfl rfl ?_
      refine x_get G 0 rfl rfl 3 (by decide) rfl (fun w h => .tail _ (iM_ok w h)) (.tail _ wd_598) rfl dM_count_15 ?_
      refine x_icmp_ge G 61 dM_count_18 (by decide) (fun h18 => (by rw [e0] at h18; exact absurd h18 (nI_ge (by omega) (by omega)))) (fun h18 => ?_)
      refine x_iload_n G 2 dM_count_21 rfl rfl ?_
      refine x_aload_n G 0 dM_count_22 rfl rfl ?_
      refine x_iload G dM_count_23 rfl ?_
      refine x_call0V1i G (cM_all (by omega)) 0 rfl rfl (cV G.2.2.2.2.1 wd_679 wd_681 wd_37 wd_55 wd_682 (by decide +kernel) ⟨(Nat.le_of_ble_eq_true rfl), (Nat.le_of_ble_eq_true rfl)⟩) dM_count_25 (Nat.le_of_ble_eq_true rfl) ⟨Nat.zero_le _, Nat.zero_le _⟩ (fun r25 e25 => ?_)
      subst e25
      refine x_iadd G dM_count_28 ?_
      refine x_top (z := nI (amN hh ww (k + 1))) (by rw [e12]; exact nI_add _ _) ?_
      refine x_istore_n G 2 dM_count_29 rfl (by decide) ?_
      refine x_iload_n G 3 dM_count_30 rfl rfl ?_
      refine x_aload_n G 0 dM_count_31 rfl rfl ?_
      refine x_get G 0 rfl rfl 10 (by decide) rfl (fun w h => .tail _ (iM_ok w h)) (.tail _ wd_605) rfl dM_count_32 ?_
      refine x_if_eq G 52 dM_count_35 (by decide) (fun h35 => ?_) (fun h35 => ?_)
      · have h35 : ¬ pl = true := bI_eq0.mp (by rw [← e10]; exact h35)
        have hx : 0 = (if pl = true ∧ A k < 4 then 1 else 0) := by rw [if_neg (fun q => h35 q.1)]
        refine x_iconst G (0) dM_count_52 (by decide) ?_
        exact j53 _ hx
      · have h35 : pl = true := bI_ne0.mp (by rw [← e10]; exact h35)
        have h7 : sst σ 0 0 0 7 k = aI (A k) := by rw [sst_ne (by omega)]; exact (hA h35).1 k (by omega)
        refine x_aload_n G 0 dM_count_38 rfl rfl ?_
        refine x_get G 0 rfl rfl 12 (by decide) rfl (fun w h => .tail _ (iM_ok w h)) (.tail _ wd_607) rfl dM_count_39 ?_
        refine x_iload G dM_count_42 rfl ?_
        refine x_ialdN G 7 0 rfl rfl (by omega) (by decide) dM_count_44 ?_
        refine x_if_lt G 52 dM_count_45 (by decide) (fun h45 => ?_) (fun h45 => ?_)
        · rw [h7, aI_lt0] at h45
          have hx : 0 = (if pl = true ∧ A k < 4 then 1 else 0) := by rw [if_neg (fun q => h45 q.2)]
          refine x_iconst G (0) dM_count_52 (by decide) ?_
          exact j53 _ hx
        · rw [h7, aI_lt0, Decidable.not_not] at h45
          have hx : 1 = (if pl = true ∧ A k < 4 then 1 else 0) := by rw [if_pos ⟨h35, h45⟩]
          refine x_iconst G (1) dM_count_48 (by decide) ?_
          refine x_goto G 53 dM_count_49 (by decide) ?_
          exact j53 _ hx
  refine x_aload_n G 0 dM_count_0 rfl rfl ?_
  refine x_iconst G (0) dM_count_1 (by decide) ?_
  refine x_put G 0 rfl rfl 0 (by decide) (Nat.le_of_ble_eq_true rfl) mput_0_0 (fun w h => .tail _ (iM_ok w h)) tM_ok nM_ok (.tail _ wd_595) rfl rfl (tM_ok 0 (by decide)) rfl rfl dM_count_2 ?_
  refine x_iconst G (0) dM_count_5 (by decide) ?_
  refine x_istore_n G 2 dM_count_6 rfl (by decide) ?_
  refine x_iconst G (0) dM_count_7 (by decide) ?_
  refine x_istore_n G 3 dM_count_8 rfl (by decide) ?_
  refine x_iconst G (0) dM_count_9 (by decide) ?_
  refine x_istore G dM_count_10 (by decide) ?_
  exact x_eq rfl (by rw [show (if pl = true then cntB (fun b => decide (A b < 4)) 0 else 0) = 0 by split <;> rfl]; rfl) rfl rfl (loop n 0 (by omega))
set_option maxHeartbeats 4000000 in
set_option maxRecDepth 100000 in
theorem cM_bound {l : Launch} {D : va_G} {cI cZ cJ : ClassId} {ad : Nat → Nat} {σ : xSg} {n C g s : Nat} {hh ww mo mi : Nat → Nat} {ou : Nat → Bool} (hP : PM σ n C g s hh ww mo mi ou) : xCi l D vCl (tyC cI cZ cJ) nwW (wM ad cI cZ cJ) yM_bound (.code yM_bound bM_bound 9 (some .int) :: bigW) 2 [.ref (ad 0)] σ (fun r u => r = bdA n C hh ww mo mi ou ∧ u 0 0 = 0 ∧ LU σ u) := by
  refine xCi.of (cc := bM_bound) (nL := 9) (ret := (some .int)) rfl (by decide) [.ref (ad 0), .null, .null, .null, .null, .null, .null, .null, .null] rfl (Nat.le_of_ble_eq_true rfl) ?_
  intro pp ee ss mm aa bb me cde AA G hr hlk
  obtain ⟨hn8, hC1, hC4, hg3, hs20, hn, hC, hg, hs, hbw, hrt, hbb, hb0, hbd⟩ := id hP
  have hO : LU σ (sst σ 0 0 0) := LU.thr
  have hP1 := hO.PM hP
  have e0 : sst σ 0 0 0 0 3 = nI n := (sst_i (by omega)).trans hn
  have e1 : sst σ 0 0 0 0 1 = nI C := (sst_i (by omega)).trans hC
  have hmv := hP.mv
  have ham := amN_le hmv n
  have hrt1 : ∀ c, c < 4 → sst σ 0 0 0 3 c = nI (mo c) ∧ sst σ 0 0 0 4 c = nI (mi c) ∧ sst σ 0 0 0 5 c = bI (ou c = true) := fun c hc => by rw [sst_ne (by omega), sst_ne (by omega), sst_ne (by omega)]; exact hrt c hc
  have hp4 : ∀ k, k ≤ 4 → prM (fun c => !ou c) mi k ≤ 100000000 := fun k hk => Nat.le_trans (prM_le (fun c => (hbd c).2.2.2) k) (Nat.le_trans (Nat.pow_le_pow_right (by decide) hk) (by decide))
  have ha4 : abv (fun c => !ou c) mo mi C ≤ 400000000 := Nat.le_trans (abv_le (fun c => (hbd c).2.2.2) (fun c => (hbd c).2.1) C) (Nat.le_trans (Nat.mul_le_mul hC4 (Nat.pow_le_pow_right (by decide) hC4)) (by decide))
  have rates : 0 < abS ou C → ∀ (j k : Nat), k + j = C → xJ pp l ee { frames := 2, cells := 0, slots := 0, locals := 40 * 2 } ss mm aa bb me cde 0 0 (MQ bb (va_Qi (fun r u => r = bdA n C hh ww mo mi ou ∧ u 0 0 = 0 ∧ LU σ u) (fun u t => va_P D vCl (wM ad cI cZ cJ u) t.heap ∧ va_D AA (wM ad cI cZ cJ u)) AA) aa ss 0 0 AA) D vCl AA 9 (va_S AA ss.heap) (wM ad cI cZ cJ (sst σ 0 0 0)) [.ref (ad 0), .int (nI (mxM ou hh ww mo mi C n)), .long (lN (amN hh ww n)), .null, .long (lN (prM (fun c => !ou c) mi C)), .null, .long (lN (ratS (fun c => !ou c) mo mi (prM (fun c => !ou c) mi C) k)), .null, .int (nI k)] 173 [] := by
    intro hab j
    have htog := tog_le (n := n) hbd hmv hn8 hab
    obtain ⟨c0, q1, q2⟩ := abS_ex hab
    have hpos : 0 < abv (fun c => !ou c) mo mi C := abv_pos (fun c => (hbd c).2.2.1) (fun c => (hbd c).1) q1 (by simp [q2])
    induction j with
    | zero =>
      intro k hk
      have hk : k = C := by omega
      subst hk
      have hre := rat_eq (ab := fun c => !ou c) (mo := mo) (fun c => (hbd c).2.2.1) k
      have q3 := hp4 k hC4
      have q4 : amN hh ww n * prM (fun c => !ou c) mi k ≤ 2000 * 100000000 := Nat.mul_le_mul (by omega) q3
      have hmx := mxM_le (ou := ou) (hh := hh) (ww := ww) (mo := mo) (mi := mi) (C := k) n
      refine x_iload G dM_bound_173 rfl ?_
      refine x_aload_n G 0 dM_bound_175 rfl rfl ?_
      refine x_get G 0 rfl rfl 1 (by decide) rfl (fun w h => .tail _ (iM_ok w h)) (.tail _ wd_596) rfl dM_bound_176 ?_
      refine x_icmp_ge G 227 dM_bound_179 (by decide) (fun h179 => ?_) (fun h179 => (by rw [e1] at h179; exact absurd (nI_le (Nat.le_refl _) (by omega)) h179))
      refine x_lload_n G 2 dM_bound_227 rfl rfl ?_
      refine x_lload G dM_bound_228 rfl ?_
      refine x_lmul G dM_bound_230 ?_
      refine x_lload G dM_bound_231 rfl ?_
      refine x_ladd G dM_bound_233 ?_
      refine x_lconst G 1 dM_bound_234 (by decide) ?_
      refine x_lsub G dM_bound_235 ?_
      refine x_lload G dM_bound_236 rfl ?_
      refine x_ldiv G dM_bound_238 (fun h => by rw [hre, show (0 : Int64) = lN 0 from rfl, pk_lEQ (by omega) (by decide)] at h; omega) ?_
      refine x_topl (z := lN (cdv (amN hh ww n * prM (fun c => !ou c) mi k) (abv (fun c => !ou c) mo mi k))) (by rw [hre, lN_mul]; exact cdv_l hpos (by omega)) ?_
      refine x_l2i G dM_bound_239 ?_
      refine x_top (lN_i _) ?_
      refine x_istore G dM_bound_240 (by decide) ?_
      refine x_iload G dM_bound_242 rfl ?_
      refine x_iload_n G 1 dM_bound_244 rfl rfl ?_
      refine x_icmp_le G 253 dM_bound_245 (by decide) (fun h245 => ?_) (fun h245 => ?_)
      · rw [nI_leI (by omega) (by omega)] at h245
        refine x_iload_n G 1 dM_bound_253 rfl rfl ?_
        exact x_reti G hr hlk rfl dM_bound_254 ⟨by unfold bdA; rw [if_neg (by omega)]; congr 1; omega, sst_same, LU.thr⟩
      · rw [nI_leI (by omega) (by omega)] at h245
        refine x_iload G dM_bound_248 rfl ?_
        refine x_goto G 254 dM_bound_250 (by decide) ?_
        exact x_reti G hr hlk rfl dM_bound_254 ⟨by unfold bdA; rw [if_neg (by omega)]; congr 1; omega, sst_same, LU.thr⟩
    | succ j ih =>
      intro k hk
      obtain ⟨h3, h4, h5⟩ := hrt1 k (by omega)
      obtain ⟨hm1, hm2, hi1, hi2⟩ := hbd k
      have q3 := hp4 C hC4
      refine x_iload G dM_bound_173 rfl ?_
      refine x_aload_n G 0 dM_bound_175 rfl rfl ?_
      refine x_get G 0 rfl rfl 1 (by decide) rfl (fun w h => .tail _ (iM_ok w h)) (.tail _ wd_596) rfl dM_bound_176 ?_
      refine x_icmp_ge G 227 dM_bound_179 (by decide) (fun h179 => (by rw [e1] at h179; exact absurd h179 (nI_ge (by omega) (by omega)))) (fun h179 => ?_)
      refine x_lload G dM_bound_182 rfl ?_
      refine x_aload_n G 0 dM_bound_184 rfl rfl ?_
      refine x_get G 0 rfl rfl 8 (by decide) rfl (fun w h => .tail _ (iM_ok w h)) (.tail _ wd_603) rfl dM_bound_185 ?_
      refine x_iload G dM_bound_188 rfl ?_
      refine x_zaldN G 5 1 rfl rfl (by omega) (by decide) dM_bound_190 ?_
      refine x_if_eq G 198 dM_bound_191 (by decide) (fun h191 => ?_) (fun h191 => ?_)
      · rw [h5, bI_eq0] at h191
        have er : ratS (fun c => !ou c) mo mi (prM (fun c => !ou c) mi C) (k + 1) = ratS (fun c => !ou c) mo mi (prM (fun c => !ou c) mi C) k + (prM (fun c => !ou c) mi C) / mi k * mo k := by simp [ratS, h191]
        refine x_lload G dM_bound_198 rfl ?_
        refine x_aload_n G 0 dM_bound_200 rfl rfl ?_
        refine x_get G 0 rfl rfl 7 (by decide) rfl (fun w h => .tail _ (iM_ok w h)) (.tail _ wd_602) rfl dM_bound_201 ?_
        refine x_iload G dM_bound_204 rfl ?_
        refine x_ialdN G 4 0 rfl rfl (by omega) (by decide) dM_bound_206 ?_
        refine x_i2l G dM_bound_207 ?_
        refine x_topl (z := lN (mi k)) (by rw [h4, nI_l (by omega)]) ?_
        refine x_ldiv G dM_bound_208 (fun h => by rw [show (0 : Int64) = lN 0 from rfl, pk_lEQ (by omega) (by decide)] at h; omega) ?_
        refine x_topl (pk_lDiv (by omega) hi1 (by omega)) ?_
        refine x_aload_n G 0 dM_bound_209 rfl rfl ?_
        refine x_get G 0 rfl rfl 6 (by decide) rfl (fun w h => .tail _ (iM_ok w h)) (.tail _ wd_601) rfl dM_bound_210 ?_
        refine x_iload G dM_bound_213 rfl ?_
        refine x_ialdN G 3 0 rfl rfl (by omega) (by decide) dM_bound_215 ?_
        refine x_i2l G dM_bound_216 ?_
        refine x_topl (z := lN (mo k)) (by rw [h3, nI_l (by omega)]) ?_
        refine x_lmul G dM_bound_217 ?_
        first | refine x_topl (lN_mul _ _) ?_ | skip
        refine x_ladd G dM_bound_218 ?_
        refine x_topl ((lN_add _ _).trans (congrArg lN er.symm)) ?_
        refine x_lstore G dM_bound_219 (by decide) ?_
        refine x_iinc G (nI (k + 1)) dM_bound_221 rfl (nI_1 k) (by decide) ?_
        refine x_goto G 173 dM_bound_224 (by decide) ?_
        exact ih (k + 1) (by omega)
      · rw [h5, bI_ne0] at h191
        have er : ratS (fun c => !ou c) mo mi (prM (fun c => !ou c) mi C) (k + 1) = ratS (fun c => !ou c) mo mi (prM (fun c => !ou c) mi C) k + 0 := by simp [ratS, h191]
        refine x_lconst G 0 dM_bound_194 (by decide) ?_
        refine x_goto G 218 dM_bound_195 (by decide) ?_
        first | refine x_topl (lN_mul _ _) ?_ | skip
        refine x_ladd G dM_bound_218 ?_
        refine x_topl ((lN_add _ _).trans (congrArg lN er.symm)) ?_
        refine x_lstore G dM_bound_219 (by decide) ?_
        refine x_iinc G (nI (k + 1)) dM_bound_221 rfl (nI_1 k) (by decide) ?_
        refine x_goto G 173 dM_bound_224 (by decide) ?_
        exact ih (k + 1) (by omega)
  have prod : 0 < abS ou C → ∀ (j k : Nat), k + j = C → ∀ (z7 z8 : Value), xJ pp l ee { frames := 2, cells := 0, slots := 0, locals := 40 * 2 } ss mm aa bb me cde 0 0 (MQ bb (va_Qi (fun r u => r = bdA n C hh ww mo mi ou ∧ u 0 0 = 0 ∧ LU σ u) (fun u t => va_P D vCl (wM ad cI cZ cJ u) t.heap ∧ va_D AA (wM ad cI cZ cJ u)) AA) aa ss 0 0 AA) D vCl AA 9 (va_S AA ss.heap) (wM ad cI cZ cJ (sst σ 0 0 0)) [.ref (ad 0), .int (nI (mxM ou hh ww mo mi C n)), .long (lN (amN hh ww n)), .null, .long (lN (prM (fun c => !ou c) mi k)), .null, .int (nI k), z7, z8] 125 [] := by
    intro hab j
    induction j with
    | zero =>
      intro k hk z7 z8
      have hk : k = C := by omega
      subst hk
      refine x_iload G dM_bound_125 rfl ?_
      refine x_aload_n G 0 dM_bound_127 rfl rfl ?_
      refine x_get G 0 rfl rfl 1 (by decide) rfl (fun w h => .tail _ (iM_ok w h)) (.tail _ wd_596) rfl dM_bound_128 ?_
      refine x_icmp_ge G 167 dM_bound_131 (by decide) (fun h131 => ?_) (fun h131 => (by rw [e1] at h131; exact absurd (nI_le (Nat.le_refl _) (by omega)) h131))
      refine x_lconst G 0 dM_bound_167 (by decide) ?_
      refine x_lstore G dM_bound_168 (by decide) ?_
      refine x_iconst G (0) dM_bound_170 (by decide) ?_
      refine x_istore G dM_bound_171 (by decide) ?_
      exact rates hab k 0 (by omega)
    | succ j ih =>
      intro k hk z7 z8
      obtain ⟨h3, h4, h5⟩ := hrt1 k (by omega)
      obtain ⟨hm1, hm2, hi1, hi2⟩ := hbd k
      refine x_iload G dM_bound_125 rfl ?_
      refine x_aload_n G 0 dM_bound_127 rfl rfl ?_
      refine x_get G 0 rfl rfl 1 (by decide) rfl (fun w h => .tail _ (iM_ok w h)) (.tail _ wd_596) rfl dM_bound_128 ?_
      refine x_icmp_ge G 167 dM_bound_131 (by decide) (fun h131 => (by rw [e1] at h131; exact absurd h131 (nI_ge (by omega) (by omega)))) (fun h131 => ?_)
      refine x_lload G dM_bound_134 rfl ?_
      refine x_aload_n G 0 dM_bound_136 rfl rfl ?_
      refine x_get G 0 rfl rfl 8 (by decide) rfl (fun w h => .tail _ (iM_ok w h)) (.tail _ wd_603) rfl dM_bound_137 ?_
      refine x_iload G dM_bound_140 rfl ?_
      refine x_zaldN G 5 1 rfl rfl (by omega) (by decide) dM_bound_142 ?_
      refine x_if_eq G 150 dM_bound_143 (by decide) (fun h143 => ?_) (fun h143 => ?_)
      · rw [h5, bI_eq0] at h143
        have ep : prM (fun c => !ou c) mi (k + 1) = prM (fun c => !ou c) mi k * mi k := by simp [prM, h143]
        refine x_aload_n G 0 dM_bound_150 rfl rfl ?_
        refine x_get G 0 rfl rfl 7 (by decide) rfl (fun w h => .tail _ (iM_ok w h)) (.tail _ wd_602) rfl dM_bound_151 ?_
        refine x_iload G dM_bound_154 rfl ?_
        refine x_ialdN G 4 0 rfl rfl (by omega) (by decide) dM_bound_156 ?_
        refine x_i2l G dM_bound_157 ?_
        first | refine x_topl (z := lN (mi k)) (by rw [h4, nI_l (by omega)]) ?_ | skip
        refine x_lmul G dM_bound_158 ?_
        refine x_topl ((lN_mul _ _).trans (congrArg lN ep.symm)) ?_
        refine x_lstore G dM_bound_159 (by decide) ?_
        refine x_iinc G (nI (k + 1)) dM_bound_161 rfl (nI_1 k) (by decide) ?_
        refine x_goto G 125 dM_bound_164 (by decide) ?_
        exact ih (k + 1) (by omega) z7 z8
      · rw [h5, bI_ne0] at h143
        have ep : prM (fun c => !ou c) mi (k + 1) = prM (fun c => !ou c) mi k * 1 := by simp [prM, h143]
        refine x_lconst G 1 dM_bound_146 (by decide) ?_
        refine x_goto G 158 dM_bound_147 (by decide) ?_
        first | refine x_topl (z := lN (mi k)) (by rw [h4, nI_l (by omega)]) ?_ | skip
        refine x_lmul G dM_bound_158 ?_
        refine x_topl ((lN_mul _ _).trans (congrArg lN ep.symm)) ?_
        refine x_lstore G dM_bound_159 (by decide) ?_
        refine x_iinc G (nI (k + 1)) dM_bound_161 rfl (nI_1 k) (by decide) ?_
        refine x_goto G 125 dM_bound_164 (by decide) ?_
        exact ih (k + 1) (by omega) z7 z8
  have outer : 0 < abS ou C → ∀ (i b : Nat), b + i = n → ∀ (z5 z6 z7 z8 : Value), xJ pp l ee { frames := 2, cells := 0, slots := 0, locals := 40 * 2 } ss mm aa bb me cde 0 0 (MQ bb (va_Qi (fun r u => r = bdA n C hh ww mo mi ou ∧ u 0 0 = 0 ∧ LU σ u) (fun u t => va_P D vCl (wM ad cI cZ cJ u) t.heap ∧ va_D AA (wM ad cI cZ cJ u)) AA) aa ss 0 0 AA) D vCl AA 9 (va_S AA ss.heap) (wM ad cI cZ cJ (sst σ 0 0 0)) [.ref (ad 0), .int (nI (mxM ou hh ww mo mi C b)), .long (lN (amN hh ww b)), .null, .int (nI b), z5, z6, z7, z8] 21 [] := by
    intro hab i
    induction i with
    | zero =>
      intro b hb z5 z6 z7 z8
      have hb : b = n := by omega
      subst hb
      refine x_iload G dM_bound_21 rfl ?_
      refine x_aload_n G 0 dM_bound_23 rfl rfl ?_
      refine x_get G 0 rfl rfl 3 (by decide) rfl (fun w h => .tail _ (iM_ok w h)) (.tail _ wd_598) rfl dM_bound_24 ?_
      refine x_icmp_ge G 119 dM_bound_27 (by decide) (fun h27 => ?_) (fun h27 => (by rw [e0] at h27; exact absurd (nI_le (Nat.le_refl _) (by omega)) h27))
      refine x_lconst G 1 dM_bound_119 (by decide) ?_
      refine x_lstore G dM_bound_120 (by decide) ?_
      refine x_iconst G (0) dM_bound_122 (by decide) ?_
      refine x_istore G dM_bound_123 (by decide) ?_
      exact prod hab C 0 (by omega) z7 z8
    | succ i ih =>
      intro b hb z5 z6 z7 z8
      have htb : ∀ c, tkA (mvF hh ww) mo mi c b ≤ 25000 := fun c => hP.tk c b
      obtain ⟨hb1, hb2⟩ := hbw b (by omega)
      have e12 : sst σ 0 0 0 1 b + sst σ 0 0 0 2 b = nI (mvF hh ww b) := by rw [sst_ne (by omega), sst_ne (by omega), hb1, hb2, nI_add]; rfl
      have hmvb := hmv b
      have hmx := mxM_le (ou := ou) (hh := hh) (ww := ww) (mo := mo) (mi := mi) (C := C) b
      have inner : ∀ (j k : Nat), k + j = C → xJ pp l ee { frames := 2, cells := 0, slots := 0, locals := 40 * 2 } ss mm aa bb me cde 0 0 (MQ bb (va_Qi (fun r u => r = bdA n C hh ww mo mi ou ∧ u 0 0 = 0 ∧ LU σ u) (fun u t => va_P D vCl (wM ad cI cZ cJ u) t.heap ∧ va_D AA (wM ad cI cZ cJ u)) AA) aa ss 0 0 AA) D vCl AA 9 (va_S AA ss.heap) (wM ad cI cZ cJ (sst σ 0 0 0)) [.ref (ad 0), .int (nI (mxM ou hh ww mo mi C b)), .long (lN (amN hh ww b)), .null, .int (nI b), .int (nI (ltM ou mo mi ((mvF hh ww) b) k)), .int (nI k), z7, z8] 37 [] := by
        intro j
        induction j with
        | zero =>
          intro k hk
          have hk : k = C := by omega
          subst hk
          have hlt : ltM ou mo mi ((mvF hh ww) b) k = ltS ou mo mi ((mvF hh ww) b) k := by rcases ltM_eq (ou := ou) (mo := mo) (mi := mi) (v := (mvF hh ww) b) htb k with q | q; (· omega); (· exact q.2.1)
          have hl2 := ltS_le (ou := ou) (mo := mo) (mi := mi) (v := (mvF hh ww) b) k
          refine x_iload G dM_bound_37 rfl ?_
          refine x_aload_n G 0 dM_bound_39 rfl rfl ?_
          refine x_get G 0 rfl rfl 1 (by decide) rfl (fun w h => .tail _ (iM_ok w h)) (.tail _ wd_596) rfl dM_bound_40 ?_
          refine x_icmp_ge G 90 dM_bound_43 (by decide) (fun h43 => ?_) (fun h43 => (by rw [e1] at h43; exact absurd (nI_le (Nat.le_refl _) (by omega)) h43))
          refine x_iload G dM_bound_90 rfl ?_
          refine x_iload_n G 1 dM_bound_92 rfl rfl ?_
          refine x_icmp_le G 101 dM_bound_93 (by decide) (fun h93 => ?_) (fun h93 => ?_)
          · rw [hlt, nI_leI (by omega) (by omega)] at h93
            have em : mxM ou hh ww mo mi k (b + 1) = mxM ou hh ww mo mi k b := by simp only [mxM]; omega
            refine x_iload_n G 1 dM_bound_101 rfl rfl ?_
            refine x_top (z := nI (mxM ou hh ww mo mi k (b + 1))) (by rw [em]) ?_
            refine x_istore_n G 1 dM_bound_102 rfl (by decide) ?_
            refine x_lload_n G 2 dM_bound_103 rfl rfl ?_
            refine x_aload_n G 0 dM_bound_104 rfl rfl ?_
            refine x_iload G dM_bound_105 rfl ?_
            refine x_call0V1i G (cM_all (by omega)) 0 rfl rfl (cV G.2.2.2.2.1 wd_679 wd_681 wd_37 wd_55 wd_682 (by decide +kernel) ⟨(Nat.le_of_ble_eq_true rfl), (Nat.le_of_ble_eq_true rfl)⟩) dM_bound_107 (Nat.le_of_ble_eq_true rfl) ⟨Nat.zero_le _, Nat.zero_le _⟩ (fun r107 e107 => ?_)
            subst e107
            refine x_i2l G dM_bound_110 ?_
            refine x_topl (z := lN (mvF hh ww b)) (by rw [e12, nI_l (by omega)]) ?_
            refine x_ladd G dM_bound_111 ?_
            refine x_topl (z := lN (amN hh ww (b + 1))) (lN_add _ _) ?_
            refine x_lstore_n G 2 dM_bound_112 rfl (by decide) ?_
            refine x_iinc G (nI (b + 1)) dM_bound_113 rfl (nI_1 b) (by decide) ?_
            refine x_goto G 21 dM_bound_116 (by decide) ?_
            exact ih (b + 1) (by omega) _ _ _ _
          · rw [hlt, nI_leI (by omega) (by omega)] at h93
            have em : mxM ou hh ww mo mi k (b + 1) = ltM ou mo mi ((mvF hh ww) b) k := by simp only [mxM]; omega
            refine x_iload G dM_bound_96 rfl ?_
            refine x_goto G 102 dM_bound_98 (by decide) ?_
            refine x_top (z := nI (mxM ou hh ww mo mi k (b + 1))) (by rw [em]) ?_
            refine x_istore_n G 1 dM_bound_102 rfl (by decide) ?_
            refine x_lload_n G 2 dM_bound_103 rfl rfl ?_
            refine x_aload_n G 0 dM_bound_104 rfl rfl ?_
            refine x_iload G dM_bound_105 rfl ?_
            refine x_call0V1i G (cM_all (by omega)) 0 rfl rfl (cV G.2.2.2.2.1 wd_679 wd_681 wd_37 wd_55 wd_682 (by decide +kernel) ⟨(Nat.le_of_ble_eq_true rfl), (Nat.le_of_ble_eq_true rfl)⟩) dM_bound_107 (Nat.le_of_ble_eq_true rfl) ⟨Nat.zero_le _, Nat.zero_le _⟩ (fun r107 e107 => ?_)
            subst e107
            refine x_i2l G dM_bound_110 ?_
            refine x_topl (z := lN (mvF hh ww b)) (by rw [e12, nI_l (by omega)]) ?_
            refine x_ladd G dM_bound_111 ?_
            refine x_topl (z := lN (amN hh ww (b + 1))) (lN_add _ _) ?_
            refine x_lstore_n G 2 dM_bound_112 rfl (by decide) ?_
            refine x_iinc G (nI (b + 1)) dM_bound_113 rfl (nI_1 b) (by decide) ?_
            refine x_goto G 21 dM_bound_116 (by decide) ?_
            exact ih (b + 1) (by omega) _ _ _ _
        | succ j ihj =>
          intro k hk
          obtain ⟨h3, h4, h5⟩ := hrt1 k (by omega)
          have htk := htb k
          have hlm := ltM_le (ou := ou) (mo := mo) (mi := mi) (v := (mvF hh ww) b) k
          refine x_iload G dM_bound_37 rfl ?_
          refine x_aload_n G 0 dM_bound_39 rfl rfl ?_
          refine x_get G 0 rfl rfl 1 (by decide) rfl (fun w h => .tail _ (iM_ok w h)) (.tail _ wd_596) rfl dM_bound_40 ?_
          refine x_icmp_ge G 90 dM_bound_43 (by decide) (fun h43 => (by rw [e1] at h43; exact absurd h43 (nI_ge (by omega) (by omega)))) (fun h43 => ?_)
          refine x_aload_n G 0 dM_bound_46 rfl rfl ?_
          refine x_get G 0 rfl rfl 8 (by decide) rfl (fun w h => .tail _ (iM_ok w h)) (.tail _ wd_603) rfl dM_bound_47 ?_
          refine x_iload G dM_bound_50 rfl ?_
          refine x_zaldN G 5 1 rfl rfl (by omega) (by decide) dM_bound_52 ?_
          refine x_if_ne G 80 dM_bound_53 (by decide) (fun h53 => ?_) (fun h53 => ?_)
          · rw [h5, bI_ne0] at h53
            have el : ltM ou mo mi ((mvF hh ww) b) (k + 1) = ltM ou mo mi ((mvF hh ww) b) k := by simp [ltM, h53]
            refine x_iload G dM_bound_80 rfl ?_
            refine x_top (z := nI (ltM ou mo mi ((mvF hh ww) b) (k + 1))) (by rw [el]) ?_
            refine x_istore G dM_bound_82 (by decide) ?_
            refine x_iinc G (nI (k + 1)) dM_bound_84 rfl (nI_1 k) (by decide) ?_
            refine x_goto G 37 dM_bound_87 (by decide) ?_
            exact ihj (k + 1) (by omega)
          · have h53 : ¬ ou k = true := bI_eq0.mp (by rw [← h5]; exact h53)
            have el0 : ltM ou mo mi ((mvF hh ww) b) (k + 1) = min (ltM ou mo mi ((mvF hh ww) b) k) (tkA (mvF hh ww) mo mi k b) := by simp only [ltM]; rw [if_neg h53]; rfl
            refine x_aload_n G 0 dM_bound_56 rfl rfl ?_
            refine x_iload G dM_bound_57 rfl ?_
            refine x_iload G dM_bound_59 rfl ?_
            refine x_call0V2i G (cM_takes hP1 (show k < 4 by omega) (show b < n by omega)) 0 rfl rfl (cV G.2.2.2.2.1 wd_696 wd_698 wd_41 wd_55 wd_699 (by decide +kernel) ⟨(Nat.le_of_ble_eq_true rfl), (Nat.le_of_ble_eq_true rfl)⟩) dM_bound_61 (Nat.le_of_ble_eq_true rfl) ⟨Nat.zero_le _, Nat.zero_le _⟩ (fun r61 e61 => ?_)
            subst e61
            refine x_iload G dM_bound_64 rfl ?_
            refine x_icmp_ge G 80 dM_bound_66 (by decide) (fun h66 => ?_) (fun h66 => ?_)
            · rw [nI_leI (by omega) (by omega)] at h66
              have el : ltM ou mo mi ((mvF hh ww) b) (k + 1) = ltM ou mo mi ((mvF hh ww) b) k := by omega
              refine x_iload G dM_bound_80 rfl ?_
              refine x_top (z := nI (ltM ou mo mi ((mvF hh ww) b) (k + 1))) (by rw [el]) ?_
              refine x_istore G dM_bound_82 (by decide) ?_
              refine x_iinc G (nI (k + 1)) dM_bound_84 rfl (nI_1 k) (by decide) ?_
              refine x_goto G 37 dM_bound_87 (by decide) ?_
              exact ihj (k + 1) (by omega)
            · rw [nI_leI (by omega) (by omega)] at h66
              have el : ltM ou mo mi ((mvF hh ww) b) (k + 1) = tkA (mvF hh ww) mo mi k b := by omega
              refine x_aload_n G 0 dM_bound_69 rfl rfl ?_
              refine x_iload G dM_bound_70 rfl ?_
              refine x_iload G dM_bound_72 rfl ?_
              refine x_call0V2i G (cM_takes hP1 (show k < 4 by omega) (show b < n by omega)) 0 rfl rfl (cV G.2.2.2.2.1 wd_696 wd_698 wd_41 wd_55 wd_699 (by decide +kernel) ⟨(Nat.le_of_ble_eq_true rfl), (Nat.le_of_ble_eq_true rfl)⟩) dM_bound_74 (Nat.le_of_ble_eq_true rfl) ⟨Nat.zero_le _, Nat.zero_le _⟩ (fun r74 e74 => ?_)
              subst e74
              refine x_goto G 82 dM_bound_77 (by decide) ?_
              refine x_top (z := nI (ltM ou mo mi ((mvF hh ww) b) (k + 1))) (by rw [el]) ?_
              refine x_istore G dM_bound_82 (by decide) ?_
              refine x_iinc G (nI (k + 1)) dM_bound_84 rfl (nI_1 k) (by decide) ?_
              refine x_goto G 37 dM_bound_87 (by decide) ?_
              exact ihj (k + 1) (by omega)
      refine x_iload G dM_bound_21 rfl ?_
      refine x_aload_n G 0 dM_bound_23 rfl rfl ?_
      refine x_get G 0 rfl rfl 3 (by decide) rfl (fun w h => .tail _ (iM_ok w h)) (.tail _ wd_598) rfl dM_bound_24 ?_
      refine x_icmp_ge G 119 dM_bound_27 (by decide) (fun h27 => (by rw [e0] at h27; exact absurd h27 (nI_ge (by omega) (by omega)))) (fun h27 => ?_)
      refine x_ldc G 1000000000 dM_bound_30 (by decide +kernel) ?_
      refine x_istore G dM_bound_32 (by decide) ?_
      refine x_iconst G (0) dM_bound_34 (by decide) ?_
      refine x_istore G dM_bound_35 (by decide) ?_
      exact inner C 0 (by omega)
  have hab := abS_le (ou := ou) C
  refine x_aload_n G 0 dM_bound_0 rfl rfl ?_
  refine x_iconst G (0) dM_bound_1 (by decide) ?_
  refine x_put G 0 rfl rfl 0 (by decide) (Nat.le_of_ble_eq_true rfl) mput_0_0 (fun w h => .tail _ (iM_ok w h)) tM_ok nM_ok (.tail _ wd_595) rfl rfl (tM_ok 0 (by decide)) rfl rfl dM_bound_2 ?_
  refine x_aload_n G 0 dM_bound_5 rfl rfl ?_
  refine x_call0V0i G (cM_working hP1) 0 rfl rfl (cV G.2.2.2.2.1 wd_708 wd_710 wd_44 wd_55 wd_711 (by decide +kernel) ⟨(Nat.le_of_ble_eq_true rfl), (Nat.le_of_ble_eq_true rfl)⟩) dM_bound_6 (Nat.le_of_ble_eq_true rfl) ⟨Nat.zero_le _, Nat.zero_le _⟩ (fun r6 e6 => ?_)
  subst e6
  refine x_if_ne G 14 dM_bound_9 (by decide) (fun h9 => ?_) (fun h9 => ?_)
  · have h9 : 0 < abS ou C := by rw [show (0 : Int32) = nI 0 from rfl, nI_eq (by omega) (by omega)] at h9; omega
    refine x_iconst G (0) dM_bound_14 (by decide) ?_
    refine x_istore_n G 1 dM_bound_15 rfl (by decide) ?_
    refine x_lconst G 0 dM_bound_16 (by decide) ?_
    refine x_lstore_n G 2 dM_bound_17 rfl (by decide) ?_
    refine x_iconst G (0) dM_bound_18 (by decide) ?_
    refine x_istore G dM_bound_19 (by decide) ?_
    exact outer h9 n 0 (by omega) .null .null .null .null
  · rw [show (0 : Int32) = nI 0 from rfl, nI_eq (by omega) (by omega)] at h9
    refine x_iconst G (-1) dM_bound_12 (by decide) ?_
    exact x_reti G hr hlk rfl dM_bound_13 ⟨by unfold bdA; rw [if_pos h9], sst_same, LU.thr⟩
