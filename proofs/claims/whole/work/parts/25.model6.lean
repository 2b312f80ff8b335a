/-! THE REFERENCE: fails -/
theorem lgc_le {a b : Nat} (ha : a < 2 ^ 63) (hb : b < 2 ^ 63) (h : a ≤ b) : lg_cmp (lN a) (lN b) ≤ 0 := by
  have h1 : ¬ lN b < lN a := by rw [pk_lLT hb ha]; omega
  unfold lg_cmp
  by_cases h2 : lN a < lN b
  · simp [h1, h2]; split <;> decide
  · have h3 : lN a = lN b := by rw [pk_lEQ ha hb]; rw [pk_lLT ha hb] at h2; omega
    simp [h3]
theorem dnA_at {A mv mo mi bg en : Nat → Nat} {b t a cm e : Nat} (ha : A b = a) (hb : bg b = cm) (he : en b = e) (h4 : a < 4) : dnA A mv mo mi bg en b t = if t ≤ cm then 0 else if e ≤ t then mv b else (t - cm) * mo a / mi a := by
  subst ha; subst hb; subst he
  unfold dnA
  by_cases q : t ≤ bg b
  · rw [if_pos (Or.inr q), if_pos q]
  · rw [if_neg (fun z => z.elim (fun y => y h4) q), if_neg q]
/-- the moves that are left when what was done by t is taken off -/
def hNw (A hh ww mo mi : Nat → Nat) (g s t b : Nat) : Nat := hh b - min (dnA A (mvF hh ww) mo mi (fun b => cmA A (mvF hh ww) mo mi 8 g s (A b) b) (enA A (mvF hh ww) mo mi g s) b t) (hh b)
def wNw (A hh ww mo mi : Nat → Nat) (g s t b : Nat) : Nat := ww b - min (dnA A (mvF hh ww) mo mi (fun b => cmA A (mvF hh ww) mo mi 8 g s (A b) b) (enA A (mvF hh ww) mo mi g s) b t - min (dnA A (mvF hh ww) mo mi (fun b => cmA A (mvF hh ww) mo mi 8 g s (A b) b) (enA A (mvF hh ww) mo mi g s) b t) (hh b)) (ww b)
theorem hNw_le {A hh ww mo mi : Nat → Nat} {g s t b : Nat} : hNw A hh ww mo mi g s t b ≤ hh b := Nat.sub_le _ _
theorem wNw_le {A hh ww mo mi : Nat → Nat} {g s t b : Nat} : wNw A hh ww mo mi g s t b ≤ ww b := Nat.sub_le _ _
def ouN (ou : Nat → Bool) (c : Nat) : Nat → Bool := fun x => if x = c then true else ou x
def kU (h h' : Nat → Nat) (k : Nat) : Nat → Nat := fun b => if b < k then h b else h' b
theorem kU_0 {h h' : Nat → Nat} : kU h h' 0 = h' := rfl
theorem kU_at {h h' : Nat → Nat} {k : Nat} : kU h h' k k = h' k := if_neg (by omega)
def tF (C : Nat) (pl : Bool) (ou : Nat → Bool) (v t : Int32) : Int32 := if ¬ v < 0 ∧ ¬ nI C ≤ v then (if t < 0 ∨ ou v.toNatClampNeg = true then 2 else if pl = true then 0 else 3) else 1
theorem PM.upd {σ u : xSg} {n C g s k x y : Nat} {hh ww h1 w1 mo mi : Nat → Nat} {ou : Nat → Bool} (h : PM σ n C g s (kU h1 hh k) (kU w1 ww k) mo mi ou) (hk : k < n) (hx : h1 k = x) (hy : w1 k = y) (bx : x ≤ 50) (by' : y ≤ 200) (e0 : u 0 = σ 0) (e1 : ∀ b, u 1 b = if b = k then nI x else σ 1 b) (e2 : ∀ b, u 2 b = if b = k then nI y else σ 2 b) (e3 : u 3 = σ 3) (e4 : u 4 = σ 4) (e5 : u 5 = σ 5) : PM u n C g s (kU h1 hh (k + 1)) (kU w1 ww (k + 1)) mo mi ou := by
  obtain ⟨hn8, hC1, hC4, hg3, hs20, hn, hC, hg, hs, hbw, hrt, hbb, hb0, hbd⟩ := h
  refine ⟨hn8, hC1, hC4, hg3, hs20, by rw [e0]; exact hn, by rw [e0]; exact hC, by rw [e0]; exact hg, by rw [e0]; exact hs, fun b hb => ?_, fun c hc => by rw [e3, e4, e5]; exact hrt c hc, fun b => ?_, fun b hb => ?_, hbd⟩
  · have := hbw b hb
    rw [e1, e2]
    by_cases e : b = k
    · rw [if_pos e, if_pos e, e]; unfold kU; rw [if_pos (by omega), if_pos (by omega), hx, hy]; exact ⟨rfl, rfl⟩
    · rw [if_neg e, if_neg e]
      unfold kU at this ⊢
      by_cases q : b < k
      · rw [if_pos q, if_pos q] at this; rw [if_pos (by omega), if_pos (by omega)]; exact this
      · rw [if_neg q, if_neg q] at this; rw [if_neg (by omega), if_neg (by omega)]; exact this
  · have := hbb b
    by_cases e : b = k
    · rw [e]; unfold kU; rw [if_pos (by omega), if_pos (by omega), hx, hy]; exact ⟨bx, by'⟩
    · unfold kU at this ⊢
      by_cases q : b < k
      · rw [if_pos q, if_pos q] at this; rw [if_pos (by omega), if_pos (by omega)]; exact this
      · rw [if_neg q, if_neg q] at this; rw [if_neg (by omega), if_neg (by omega)]; exact this
  · have := hb0 b hb
    unfold kU at this ⊢
    rw [if_neg (by omega), if_neg (by omega)] at this; rw [if_neg (by omega), if_neg (by omega)]; exact this
theorem PM.ext {σ : xSg} {n C g s : Nat} {hh ww h1 w1 mo mi : Nat → Nat} {ou : Nat → Bool} (h : PM σ n C g s hh ww mo mi ou) (e1 : hh = h1) (e2 : ww = w1) : PM σ n C g s h1 w1 mo mi ou := by subst e1; subst e2; exact h
theorem PM.outN {σ : xSg} {n C g s c : Nat} {hh ww mo mi : Nat → Nat} {ou : Nat → Bool} (h : PM σ n C g s hh ww mo mi ou) : PM (sst σ 5 c 1) n C g s hh ww mo mi (ouN ou c) := by
  obtain ⟨hn8, hC1, hC4, hg3, hs20, hn, hC, hg, hs, hbw, hrt, hbb, hb0, hbd⟩ := h
  refine ⟨hn8, hC1, hC4, hg3, hs20, by rw [sst_ne (by omega)]; exact hn, by rw [sst_ne (by omega)]; exact hC, by rw [sst_ne (by omega)]; exact hg, by rw [sst_ne (by omega)]; exact hs, fun b hb => by rw [sst_ne (by omega), sst_ne (by omega)]; exact hbw b hb, fun x hx => ?_, hbb, hb0, hbd⟩
  rw [sst_ne (show (3 : Nat) ≠ 5 by omega), sst_ne (show (4 : Nat) ≠ 5 by omega)]
  refine ⟨(hrt x hx).1, (hrt x hx).2.1, ?_⟩
  by_cases e : x = c
  · rw [e, sst_same]; exact (bI_t (by simp [ouN])).symm
  · rw [sst_i e, (hrt x hx).2.2]; exact bI_congr (by simp [ouN, e])
theorem sub_le0 {a b : Nat} (hb : b < 2 ^ 31) (h : a ≤ b) : nI a - nI b ≤ 0 := by
  rw [i32_le, Int32.toInt_sub, nI_toInt hb, nI_toInt (show a < 2 ^ 31 by omega), Int.bmod_eq_of_le (by omega) (by omega)]
  have : (0 : Int32).toInt = 0 := by decide
  omega
set_option maxHeartbeats 4000000 in
set_option maxRecDepth 100000 in
theorem cM_fails {l : Launch} {D : va_G} {cI cZ cJ : ClassId} {ad : Nat → Nat} {σ : xSg} {n C g s : Nat} {hh ww mo mi : Nat → Nat} {ou : Nat → Bool} (hP : PM σ n C g s hh ww mo mi ou) {pl : Bool} {A : Nat → Nat} (hpl : σ 0 10 = bI (pl = true)) (hA : pl = true → PLA σ A n C g) {v t : Int32} : xCi l D vCl (tyC cI cZ cJ) nwW (wM ad cI cZ cJ) yM_fails (.code yM_fails bM_fails 11 (some .int) :: bigW) 4 [.ref (ad 0), .int v, .int t] σ (fun r u => u 0 0 = tF C pl ou v t ∧ (¬ tF C pl ou v t = 0 → LU σ u) ∧ (tF C pl ou v t = 0 → ∃ c t', v = nI c ∧ c < C ∧ t = nI t' ∧ t' < 2 ^ 31 ∧ PM u n C g s (hNw A hh ww mo mi g s t') (wNw A hh ww mo mi g s t') mo mi (ouN ou c) ∧ SB u n C g s (hNw A hh ww mo mi g s t') (wNw A hh ww mo mi g s t') mo mi (ouN ou c) r)) := by
  refine xCi.of (cc := bM_fails) (nL := 11) (ret := (some .int)) rfl (by decide) [.ref (ad 0), .int v, .int t, .null, .null, .null, .null, .null, .null, .null, .null] rfl (Nat.le_of_ble_eq_true rfl) ?_
  intro pp ee ss mm aa bb me cde AA G hr hlk
  obtain ⟨hn8, hC1, hC4, hg3, hs20, hn, hC, hg, hs, hbw, hrt, hbb, hb0, hbd⟩ := id hP
  refine x_aload_n G 0 dM_fails_0 rfl rfl ?_
  refine x_aload_n G 0 dM_fails_1 rfl rfl ?_
  refine x_iload_n G 1 dM_fails_2 rfl rfl ?_
  refine x_call0V1i G cM_isCrane 0 rfl rfl (cV G.2.2.2.2.1 wd_663 wd_665 wd_35 wd_55 wd_666 (by decide +kernel) ⟨(Nat.le_of_ble_eq_true rfl), (Nat.le_of_ble_eq_true rfl)⟩) dM_fails_3 (Nat.le_of_ble_eq_true rfl) ⟨Nat.zero_le _, Nat.zero_le _⟩ (fun r3 e3 => ?_)
  subst e3
  refine x_if_ne G 13 dM_fails_6 (by decide) (fun h6 => ?_) (fun h6 => ?_)
  · have h6 := bI_ne0.mp h6
    refine x_iload_n G 2 dM_fails_13 rfl rfl ?_
    refine x_if_lt G 26 dM_fails_14 (by decide) (fun h14 => ?_) (fun h14 => ?_)
    · refine x_iconst G (2) dM_fails_26 (by decide) ?_
      refine x_goto G 42 dM_fails_27 (by decide) ?_
      have hk : tF C pl ou v t = 2 := by unfold tF; rw [if_pos (hC ▸ h6), if_pos (Or.inl h14)]
      refine x_put G 0 rfl rfl 0 (by decide) (Nat.le_of_ble_eq_true rfl) mput_0_0 (fun w h => .tail _ (iM_ok w h)) tM_ok nM_ok (.tail _ wd_595) rfl rfl (tM_ok 0 (by decide)) rfl rfl dM_fails_42 ?_
      refine x_aload_n G 0 dM_fails_45 rfl rfl ?_
      refine x_get G 0 rfl rfl 0 (by decide) rfl (fun w h => .tail _ (iM_ok w h)) (.tail _ wd_595) rfl dM_fails_46 ?_
      refine x_if_le G 54 dM_fails_49 (by decide) (fun h49 => (by rw [sst_same] at h49; exact absurd h49 (by decide))) (fun h49 => ?_)
      refine x_iconst G (0) dM_fails_52 (by decide) ?_
      exact x_reti G hr hlk rfl dM_fails_53 ⟨by rw [hk]; exact sst_same, fun _ => LU.thr, fun q => absurd (hk.symm.trans q) (by decide)⟩
    · refine x_aload_n G 0 dM_fails_17 rfl rfl ?_
      refine x_get G 0 rfl rfl 8 (by decide) rfl (fun w h => .tail _ (iM_ok w h)) (.tail _ wd_603) rfl dM_fails_18 ?_
      refine x_iload_n G 1 dM_fails_21 rfl rfl ?_
      have hou : ou v.toNatClampNeg = true ↔ ¬ σ 5 v.toNatClampNeg = 0 := by obtain ⟨c, rfl, hc⟩ := cr_ex rfl hC4 (show ¬ v < 0 ∧ ¬ nI C ≤ v from hC ▸ h6); rw [nI_clamp (by omega), (hrt c (by omega)).2.2, bI_ne0]
      obtain ⟨c', hc', hc2⟩ := cr_ex rfl hC4 (show ¬ v < 0 ∧ ¬ nI C ≤ v from hC ▸ h6)
      have hcl : v = nI v.toNatClampNeg := by rw [hc', nI_clamp (by omega)]
      have hcl4 : v.toNatClampNeg < 4 := by rw [hc', nI_clamp (by omega)]; omega
      refine x_top hcl ?_
      refine x_zaldN G 5 1 rfl rfl hcl4 (by decide) dM_fails_22 ?_
      refine x_if_eq G 30 dM_fails_23 (by decide) (fun h23 => ?_) (fun h23 => ?_)
      · refine x_aload_n G 0 dM_fails_30 rfl rfl ?_
        refine x_get G 0 rfl rfl 10 (by decide) rfl (fun w h => .tail _ (iM_ok w h)) (.tail _ wd_605) rfl dM_fails_31 ?_
        refine x_if_ne G 41 dM_fails_34 (by decide) (fun h34 => ?_) (fun h34 => ?_)
        · refine x_iconst G (0) dM_fails_41 (by decide) ?_
          have hk : tF C pl ou v t = 0 := by unfold tF; rw [if_pos (hC ▸ h6), if_neg (fun q => q.elim h14 (fun z => hou.mp z h23)), if_pos (by cases pl with | true => rfl | false => rw [hpl] at h34; exact absurd rfl h34)]
          refine x_put G 0 rfl rfl 0 (by decide) (Nat.le_of_ble_eq_true rfl) mput_0_0 (fun w h => .tail _ (iM_ok w h)) tM_ok nM_ok (.tail _ wd_595) rfl rfl (tM_ok 0 (by decide)) rfl rfl dM_fails_42 ?_
          refine x_aload_n G 0 dM_fails_45 rfl rfl ?_
          refine x_get G 0 rfl rfl 0 (by decide) rfl (fun w h => .tail _ (iM_ok w h)) (.tail _ wd_595) rfl dM_fails_46 ?_
          refine x_if_le G 54 dM_fails_49 (by decide) (fun h49 => ?_) (fun h49 => (by exact absurd (by rw [sst_same]; decide) h49))
          have hp : pl = true := (by cases pl with | true => rfl | false => rw [hpl] at h34; exact absurd rfl h34)
          obtain ⟨c, rfl, hc⟩ := cr_ex rfl hC4 (show ¬ v < 0 ∧ ¬ nI C ≤ v from hC ▸ h6)
          have hc4 : c < 4 := by omega
          obtain ⟨t', ht', rfl⟩ := nI_of h14
          refine x_aload_n G 0 dM_fails_54 rfl rfl ?_
          refine x_callV0i G (cM_lays (LU.thr.PM hP) (LU.thr.pla (hA hp)).1 (hA hp).2.1 (hA hp).2.2.1 (hA hp).2.2.2) 0 rfl rfl (cV G.2.2.2.2.1 wd_716 wd_718 wd_45 wd_55 wd_719 (by decide +kernel) ⟨(Nat.le_of_ble_eq_true rfl), (Nat.le_of_ble_eq_true rfl)⟩) dM_fails_55 (Nat.le_of_ble_eq_true rfl) ⟨Nat.zero_le _, Nat.zero_le _⟩ (fun r55 u55 e55 => ?_)
          obtain ⟨σ3, hz⟩ : ∃ z, z = u55 := ⟨_, rfl⟩
          subst hz
          obtain ⟨rfl, hT, hF, hCM, hLO⟩ := e55
          have hLU : LU σ σ3 := LU.thr.lo hLO
          have hP3 := hLU.PM hP
          obtain ⟨-, hA1, hA2, hok⟩ := hA hp
          have e0 : σ3 0 3 = nI n := by rw [hLU.2 3 (by omega)]; exact hn
          have hej := hP.ej A 0
          have hth : σ3 0 0 = 0 := by rw [hLO 0 (by omega)]; exact sst_same
          refine x_istore_n G 3 dM_fails_58 rfl (by decide) ?_
          have loop : ∀ (j k : Nat), k + j = n → ∀ (σ5 : xSg) (z5 z6 z7 z8 z9 z10 : Value), PM σ5 n C g s (kU (hNw A hh ww mo mi g s t') hh k) (kU (wNw A hh ww mo mi g s t') ww k) mo mi ou → σ5 0 = σ3 0 → (∀ q, 3 ≤ q → σ5 q = σ3 q) → xJ pp l ee { frames := 4, cells := 0, slots := 0, locals := 40 * 4 } ss mm aa bb me cde 0 0 (MQ bb (va_Qi (fun r u => u 0 0 = tF C pl ou (nI c) (nI t') ∧ (¬ tF C pl ou (nI c) (nI t') = 0 → LU σ u) ∧ (tF C pl ou (nI c) (nI t') = 0 → ∃ c1 t1, (nI c) = nI c1 ∧ c1 < C ∧ (nI t') = nI t1 ∧ t1 < 2 ^ 31 ∧ PM u n C g s (hNw A hh ww mo mi g s t1) (wNw A hh ww mo mi g s t1) mo mi (ouN ou c1) ∧ SB u n C g s (hNw A hh ww mo mi g s t1) (wNw A hh ww mo mi g s t1) mo mi (ouN ou c1) r)) (fun u t => va_P D vCl (wM ad cI cZ cJ u) t.heap ∧ va_D AA (wM ad cI cZ cJ u)) AA) aa ss 0 0 AA) D vCl AA 11 (va_S AA ss.heap) (wM ad cI cZ cJ σ5) [.ref (ad 0), .int (nI c), .int (nI t'), .int (nI (EJ A (mvF hh ww) mo mi g s 0)), .int (nI k), z5, z6, z7, z8, z9, z10] 62 [] := by
            intro j
            induction j with
            | zero =>
              intro k hkn σ5 z5 z6 z7 z8 z9 z10 hP5 e50 hO5
              have hkn : k = n := by omega
              subst hkn
              have hPe : PM σ5 k C g s (hNw A hh ww mo mi g s t') (wNw A hh ww mo mi g s t') mo mi ou := hP5.ext (funext fun b => by unfold kU; split; (· rfl); (· have h1 := (hb0 b (by omega)).1; have h2 := hNw_le (A := A) (hh := hh) (ww := ww) (mo := mo) (mi := mi) (g := g) (s := s) (t := t') (b := b); omega)) (funext fun b => by unfold kU; split; (· rfl); (· have h1 := (hb0 b (by omega)).2; have h2 := wNw_le (A := A) (hh := hh) (ww := ww) (mo := mo) (mi := mi) (g := g) (s := s) (t := t') (b := b); omega))
              refine x_iload G dM_fails_62 rfl ?_
              refine x_aload_n G 0 dM_fails_64 rfl rfl ?_
              refine x_get G 0 rfl rfl 3 (by decide) rfl (fun w h => .tail _ (iM_ok w h)) (.tail _ wd_598) rfl dM_fails_65 ?_
              refine x_icmp_ge G 253 dM_fails_68 (by decide) (fun h68 => ?_) (fun h68 => (by rw [e50, e0] at h68; exact absurd (nI_le (Nat.le_refl _) (by omega)) h68))
              refine x_aload_n G 0 dM_fails_253 rfl rfl ?_
              refine x_get G 0 rfl rfl 8 (by decide) rfl (fun w h => .tail _ (iM_ok w h)) (.tail _ wd_603) rfl dM_fails_254 ?_
              refine x_iload_n G 1 dM_fails_257 rfl rfl ?_
              refine x_iconst G (1) dM_fails_258 (by decide) ?_
              refine x_zastN G 5 1 rfl rfl rfl marr_5 (by omega) (by decide) dM_fails_259 ?_
              refine x_aload_n G 0 dM_fails_260 rfl rfl ?_
              refine x_callV0i G (cM_search hPe.outN) 0 rfl rfl (cV G.2.2.2.2.1 wd_675 wd_677 wd_36 wd_55 wd_678 (by decide +kernel) ⟨(Nat.le_of_ble_eq_true rfl), (Nat.le_of_ble_eq_true rfl)⟩) dM_fails_261 (Nat.le_of_ble_eq_true rfl) ⟨Nat.zero_le _, Nat.zero_le _⟩ (fun r261 u261 e261 => ?_)
              exact x_reti G hr hlk rfl dM_fails_264 ⟨by rw [hk, e261.2.2 0 (by omega), sst_ne (by omega), e50]; exact hth, fun q => absurd hk q, fun _ => ⟨c, t', rfl, hc, rfl, ht', hPe.outN.of ⟨e261.2.2 3 (by omega), e261.2.2 1 (by omega), e261.2.2 2 (by omega), e261.2.2 9 (by omega)⟩ (e261.2.1 1 (by omega) (by omega)) (e261.2.1 2 (by omega) (by omega)) (e261.2.1 3 (by omega) (by omega)) (e261.2.1 4 (by omega) (by omega)) (e261.2.1 5 (by omega) (by omega)), e261.1⟩⟩
            | succ j ih =>
              intro k hkn σ5 z5 z6 z7 z8 z9 z10 hP5 e50 hO5
              have hk8 : k < 8 := by omega
              have h6 : σ5 6 k = aI (A k) := by rw [hO5 6 (by omega)]; exact hT.1 k (by omega)
              obtain ⟨hb1, hb2⟩ := hbb k
              have h1k : σ5 1 k = nI (hh k) ∧ σ5 2 k = nI (ww k) := by have := hP5.2.2.2.2.2.2.2.2.2.1 k (by omega); rw [kU_at, kU_at] at this; exact this
              have dn0 : dnA A (mvF hh ww) mo mi (fun b => cmA A (mvF hh ww) mo mi 8 g s (A b) b) (enA A (mvF hh ww) mo mi g s) k t' = 0 → PM σ5 n C g s (kU (hNw A hh ww mo mi g s t') hh (k + 1)) (kU (wNw A hh ww mo mi g s t') ww (k + 1)) mo mi ou := fun hd => hP5.upd (show k < n by omega) (show hNw A hh ww mo mi g s t' k = hh k by unfold hNw; rw [hd]; simp) (show wNw A hh ww mo mi g s t' k = ww k by unfold wNw; rw [hd]; simp) hb1 hb2 rfl (fun b => by split; (· rename_i q; rw [q]; exact h1k.1); (· rfl)) (fun b => by split; (· rename_i q; rw [q]; exact h1k.2); (· rfl)) rfl rfl rfl
              have done : ∀ (dn : Nat) (z5 z6 : Int32) (z7 : Int64) (z9 z10 : Value), dnA A (mvF hh ww) mo mi (fun b => cmA A (mvF hh ww) mo mi 8 g s (A b) b) (enA A (mvF hh ww) mo mi g s) k t' = dn → dn ≤ hh k + ww k → xJ pp l ee { frames := 4, cells := 0, slots := 0, locals := 40 * 4 } ss mm aa bb me cde 0 0 (MQ bb (va_Qi (fun r u => u 0 0 = tF C pl ou (nI c) (nI t') ∧ (¬ tF C pl ou (nI c) (nI t') = 0 → LU σ u) ∧ (tF C pl ou (nI c) (nI t') = 0 → ∃ c1 t1, (nI c) = nI c1 ∧ c1 < C ∧ (nI t') = nI t1 ∧ t1 < 2 ^ 31 ∧ PM u n C g s (hNw A hh ww mo mi g s t1) (wNw A hh ww mo mi g s t1) mo mi (ouN ou c1) ∧ SB u n C g s (hNw A hh ww mo mi g s t1) (wNw A hh ww mo mi g s t1) mo mi (ouN ou c1) r)) (fun u t => va_P D vCl (wM ad cI cZ cJ u) t.heap ∧ va_D AA (wM ad cI cZ cJ u)) AA) aa ss 0 0 AA) D vCl AA 11 (va_S AA ss.heap) (wM ad cI cZ cJ σ5) [.ref (ad 0), .int (nI c), .int (nI t'), .int (nI (EJ A (mvF hh ww) mo mi g s 0)), .int (nI k), .int z5, .int z6, .long z7, .null, z9, z10] 192 [.int (nI dn)] := by
                intro dn z5 z6 z7 z9 z10 hd hdl
                refine x_istore G dM_fails_192 (by decide) ?_
                refine x_iload G dM_fails_194 rfl ?_
                refine x_aload_n G 0 dM_fails_196 rfl rfl ?_
                refine x_get G 0 rfl rfl 4 (by decide) rfl (fun w h => .tail _ (iM_ok w h)) (.tail _ wd_599) rfl dM_fails_197 ?_
                refine x_iload G dM_fails_200 rfl ?_
                refine x_ialdN G 1 0 rfl rfl (by omega) (by decide) dM_fails_202 ?_
                refine x_icmp_ge G 211 dM_fails_203 (by decide) (fun h203 => ?_) (fun h203 => ?_)
                · rw [h1k.1, nI_leI (by omega) (by omega)] at h203
                  obtain ⟨hm, hhm, hml⟩ : ∃ hm, min dn (hh k) = hm ∧ hm = hh k := ⟨_, rfl, by omega⟩
                  refine x_aload_n G 0 dM_fails_211 rfl rfl ?_
                  refine x_get G 0 rfl rfl 4 (by decide) rfl (fun w h => .tail _ (iM_ok w h)) (.tail _ wd_599) rfl dM_fails_212 ?_
                  refine x_iload G dM_fails_215 rfl ?_
                  refine x_ialdN G 1 0 rfl rfl (by omega) (by decide) dM_fails_217 ?_
                  refine x_top (z := nI hm) (by first | (rw [h1k.1, hml]) | (rw [hml])) ?_
                  refine x_istore G dM_fails_218 (by decide) ?_
                  refine x_aload_n G 0 dM_fails_220 rfl rfl ?_
                  refine x_get G 0 rfl rfl 4 (by decide) rfl (fun w h => .tail _ (iM_ok w h)) (.tail _ wd_599) rfl dM_fails_221 ?_
                  refine x_iload G dM_fails_224 rfl ?_
                  refine x_dup2 G dM_fails_226 rfl rfl ?_
                  refine x_ialdN G 1 0 rfl rfl (by omega) (by decide) dM_fails_227 ?_
                  refine x_iload G dM_fails_228 rfl ?_
                  refine x_isub G dM_fails_230 ?_
                  refine x_iastN G 1 0 rfl rfl marr_1 (by omega) (by decide) dM_fails_231 ?_
                  refine x_aload_n G 0 dM_fails_232 rfl rfl ?_
                  refine x_get G 0 rfl rfl 5 (by decide) rfl (fun w h => .tail _ (iM_ok w h)) (.tail _ wd_600) rfl dM_fails_233 ?_
                  refine x_iload G dM_fails_236 rfl ?_
                  refine x_dup2 G dM_fails_238 rfl rfl ?_
                  refine x_ialdN G 2 0 rfl rfl (by omega) (by decide) dM_fails_239 ?_
                  refine x_iload G dM_fails_240 rfl ?_
                  refine x_iload G dM_fails_242 rfl ?_
                  refine x_isub G dM_fails_244 ?_
                  refine x_isub G dM_fails_245 ?_
                  refine x_iastN G 2 0 rfl rfl marr_2 (by omega) (by decide) dM_fails_246 ?_
                  refine x_iinc G (nI (k + 1)) dM_fails_247 rfl (nI_1 k) (by decide) ?_
                  refine x_goto G 62 dM_fails_250 (by decide) ?_
                  exact ih (k + 1) (by omega) (sst (sst σ5 1 k _) 2 k _) _ _ _ _ _ _ (hP5.upd (u := sst (sst σ5 1 k _) 2 k _) (show k < n by omega) (show hNw A hh ww mo mi g s t' k = hh k - hm by unfold hNw; rw [hd, hhm]) (show wNw A hh ww mo mi g s t' k = ww k - (dn - hm) by unfold wNw; rw [hd, hhm, Nat.min_eq_left (by omega)]) (by omega) (by omega) (by rw [sst_ne (by omega), sst_ne (by omega)]) (fun b => by rw [sst_ne (by omega)]; by_cases q : b = k; (· rw [if_pos q, q, sst_same, h1k.1, pk_sub (by omega)]); (· rw [if_neg q, sst_i q])) (fun b => by by_cases q : b = k; (· rw [if_pos q, q, sst_same, sst_ne (by omega), h1k.2, pk_sub (by omega), pk_sub (by omega)]); (· rw [if_neg q, sst_i q, sst_ne (by omega)])) (by rw [sst_ne (by omega), sst_ne (by omega)]) (by rw [sst_ne (by omega), sst_ne (by omega)]) (by rw [sst_ne (by omega), sst_ne (by omega)])) (by rw [sst_ne (by omega), sst_ne (by omega)]; exact e50) (fun q hq => by rw [sst_ne (by omega), sst_ne (by omega)]; exact hO5 q hq)
                · rw [h1k.1, nI_leI (by omega) (by omega)] at h203
                  obtain ⟨hm, hhm, hml⟩ : ∃ hm, min dn (hh k) = hm ∧ hm = dn := ⟨_, rfl, by omega⟩
                  refine x_iload G dM_fails_206 rfl ?_
                  refine x_goto G 218 dM_fails_208 (by decide) ?_
                  refine x_top (z := nI hm) (by first | (rw [h1k.1, hml]) | (rw [hml])) ?_
                  refine x_istore G dM_fails_218 (by decide) ?_
                  refine x_aload_n G 0 dM_fails_220 rfl rfl ?_
                  refine x_get G 0 rfl rfl 4 (by decide) rfl (fun w h => .tail _ (iM_ok w h)) (.tail _ wd_599) rfl dM_fails_221 ?_
                  refine x_iload G dM_fails_224 rfl ?_
                  refine x_dup2 G dM_fails_226 rfl rfl ?_
                  refine x_ialdN G 1 0 rfl rfl (by omega) (by decide) dM_fails_227 ?_
                  refine x_iload G dM_fails_228 rfl ?_
                  refine x_isub G dM_fails_230 ?_
                  refine x_iastN G 1 0 rfl rfl marr_1 (by omega) (by decide) dM_fails_231 ?_
                  refine x_aload_n G 0 dM_fails_232 rfl rfl ?_
                  refine x_get G 0 rfl rfl 5 (by decide) rfl (fun w h => .tail _ (iM_ok w h)) (.tail _ wd_600) rfl dM_fails_233 ?_
                  refine x_iload G dM_fails_236 rfl ?_
                  refine x_dup2 G dM_fails_238 rfl rfl ?_
                  refine x_ialdN G 2 0 rfl rfl (by omega) (by decide) dM_fails_239 ?_
                  refine x_iload G dM_fails_240 rfl ?_
                  refine x_iload G dM_fails_242 rfl ?_
                  refine x_isub G dM_fails_244 ?_
                  refine x_isub G dM_fails_245 ?_
                  refine x_iastN G 2 0 rfl rfl marr_2 (by omega) (by decide) dM_fails_246 ?_
                  refine x_iinc G (nI (k + 1)) dM_fails_247 rfl (nI_1 k) (by decide) ?_
                  refine x_goto G 62 dM_fails_250 (by decide) ?_
                  exact ih (k + 1) (by omega) (sst (sst σ5 1 k _) 2 k _) _ _ _ _ _ _ (hP5.upd (u := sst (sst σ5 1 k _) 2 k _) (show k < n by omega) (show hNw A hh ww mo mi g s t' k = hh k - hm by unfold hNw; rw [hd, hhm]) (show wNw A hh ww mo mi g s t' k = ww k - (dn - hm) by unfold wNw; rw [hd, hhm, Nat.min_eq_left (by omega)]) (by omega) (by omega) (by rw [sst_ne (by omega), sst_ne (by omega)]) (fun b => by rw [sst_ne (by omega)]; by_cases q : b = k; (· rw [if_pos q, q, sst_same, h1k.1, pk_sub (by omega)]); (· rw [if_neg q, sst_i q])) (fun b => by by_cases q : b = k; (· rw [if_pos q, q, sst_same, sst_ne (by omega), h1k.2, pk_sub (by omega), pk_sub (by omega)]); (· rw [if_neg q, sst_i q, sst_ne (by omega)])) (by rw [sst_ne (by omega), sst_ne (by omega)]) (by rw [sst_ne (by omega), sst_ne (by omega)]) (by rw [sst_ne (by omega), sst_ne (by omega)])) (by rw [sst_ne (by omega), sst_ne (by omega)]; exact e50) (fun q hq => by rw [sst_ne (by omega), sst_ne (by omega)]; exact hO5 q hq)
              refine x_iload G dM_fails_62 rfl ?_
              refine x_aload_n G 0 dM_fails_64 rfl rfl ?_
              refine x_get G 0 rfl rfl 3 (by decide) rfl (fun w h => .tail _ (iM_ok w h)) (.tail _ wd_598) rfl dM_fails_65 ?_
              refine x_icmp_ge G 253 dM_fails_68 (by decide) (fun h68 => (by rw [e50, e0] at h68; exact absurd h68 (nI_ge (by omega) (by omega)))) (fun h68 => ?_)
              refine x_iload_n G 3 dM_fails_71 rfl rfl ?_
              refine x_ldc G 1000000000 dM_fails_72 (by decide +kernel) ?_
              refine x_icmp_ge G 253 dM_fails_74 (by decide) (fun h74 => (by rw [show (1000000000 : Int32) = nI 1000000000 from rfl, nI_leI (by omega) (by omega)] at h74; omega)) (fun h74 => ?_)
              refine x_aload_n G 0 dM_fails_77 rfl rfl ?_
              refine x_get G 0 rfl rfl 11 (by decide) rfl (fun w h => .tail _ (iM_ok w h)) (.tail _ wd_606) rfl dM_fails_78 ?_
              refine x_iload G dM_fails_81 rfl ?_
              refine x_ialdN G 6 0 rfl rfl (by omega) (by decide) dM_fails_83 ?_
              refine x_istore G dM_fails_84 (by decide) ?_
              refine x_iload G dM_fails_86 rfl ?_
              refine x_if_ge G 95 dM_fails_88 (by decide) (fun h88 => ?_) (fun h88 => ?_)
              · rw [h6, aI_ge0] at h88
                obtain ⟨a, ha⟩ : ∃ a, a = A k := ⟨_, rfl⟩
                have ha4 : a < 4 := by rw [ha]; exact h88
                have haC : a < C := by rw [ha]; exact hA2 k h88
                have h8 : σ5 8 (8 * a + k) = nI (cmA A (mvF hh ww) mo mi 8 g s a k) := by rw [hO5 8 (by omega), ha]; exact hCM.at hk8 (by rw [← ha]; exact haC)
                have hcm := hP.cm (A := A) ha4 hk8
                have htk := hP.tk a k
                obtain ⟨cm, hcme⟩ : ∃ cm, cm = cmA A (mvF hh ww) mo mi 8 g s a k := ⟨_, rfl⟩
                obtain ⟨tk, htke⟩ : ∃ tk, tk = tkA (mvF hh ww) mo mi a k := ⟨_, rfl⟩
                rw [← hcme] at h8 hcm
                rw [← htke] at htk
                obtain ⟨h3a, h4a, -⟩ := hrt a ha4
                obtain ⟨hm1, hm2, hi1, hi2⟩ := hbd a
                have hdn : dnA A (mvF hh ww) mo mi (fun b => cmA A (mvF hh ww) mo mi 8 g s (A b) b) (enA A (mvF hh ww) mo mi g s) k t' = if t' ≤ cm then 0 else if cm + tk ≤ t' then mvF hh ww k else (t' - cm) * mo a / mi a := by
                  exact dnA_at ha.symm (by show cmA A _ _ _ _ _ _ (A k) k = cm; rw [← ha, ← hcme]) (by unfold enA; rw [← ha, ← hcme, ← htke]) ha4
                have h6a : σ5 6 k = nI a := by rw [h6, ← ha]; exact aI_t ha4
                have e12 : σ5 1 k + σ5 2 k = nI (mvF hh ww k) := by rw [h1k.1, h1k.2, nI_add]; rfl
                have hmv := hP.mv k
                have htk2 : tkA (mvF (kU (hNw A hh ww mo mi g s t') hh k) (kU (wNw A hh ww mo mi g s t') ww k)) mo mi a k = tk := by rw [htke]; unfold tkA mvF; rw [kU_at, kU_at]
                refine x_eq rfl (vs2 := [.ref (ad 0), .int (nI c), .int (nI t'), .int (nI (EJ A (mvF hh ww) mo mi g s 0)), .int (nI k), .int (nI a), z6, z7, z8, z9, z10]) (by rw [h6a]; rfl) rfl rfl ?_
                refine x_iload_n G 2 dM_fails_95 rfl rfl ?_
                refine x_aload_n G 0 dM_fails_96 rfl rfl ?_
                refine x_get G 0 rfl rfl 13 (by decide) rfl (fun w h => .tail _ (iM_ok w h)) (.tail _ wd_608) rfl dM_fails_97 ?_
                refine x_bipush G (8) dM_fails_100 (by decide) ?_
                refine x_iload G dM_fails_102 rfl ?_
                refine x_if_ge G 111 dM_fails_104 (by decide) (fun h104 => ?_) (fun h104 => (by exact absurd (nI_pos' (by omega)) h104))
                refine x_iload G dM_fails_111 rfl ?_
                refine x_imul G dM_fails_113 ?_
                refine x_iload G dM_fails_114 rfl ?_
                refine x_iadd G dM_fails_116 ?_
                refine x_top (z := nI (8 * a + k)) (by show nI 8 * nI a + nI k = _; rw [pk_mul, nI_add]) ?_
                refine x_ialdN G 8 0 rfl rfl (by omega) (by decide) dM_fails_117 ?_
                refine x_isub G dM_fails_118 ?_
                refine x_istore G dM_fails_119 (by decide) ?_
                refine x_iload G dM_fails_121 rfl ?_
                refine x_if_lt G 247 dM_fails_123 (by decide) (fun h123 => (by exact absurd h123 (nI_pos (by omega)))) (fun h123 => ?_)
                refine x_iload G dM_fails_126 rfl ?_
                refine x_if_le G 247 dM_fails_128 (by decide) (fun h128 => ?_) (fun h128 => ?_)
                · have h128 : t' ≤ cm := by rw [h8, i32_le] at h128; rcases Nat.lt_or_ge cm t' with z | z; (· rw [pk_sub (by omega), nI_toInt (by omega)] at h128; have : (0 : Int32).toInt = 0 := (by decide); omega); (· exact z)
                  have hd : dnA A (mvF hh ww) mo mi (fun b => cmA A (mvF hh ww) mo mi 8 g s (A b) b) (enA A (mvF hh ww) mo mi g s) k t' = 0 := by rw [hdn, if_pos h128]
                  refine x_iinc G (nI (k + 1)) dM_fails_247 rfl (nI_1 k) (by decide) ?_
                  refine x_goto G 62 dM_fails_250 (by decide) ?_
                  exact ih (k + 1) (by omega) σ5 _ _ _ _ _ _ (dn0 hd) e50 hO5
                · have h128 : cm < t' := by rw [h8] at h128; rcases Nat.lt_or_ge cm t' with z | z; (· exact z); (· exact absurd (sub_le0 (by omega) z) h128)
                  rw [if_neg (by omega)] at hdn
                  have hvm : (t' - cm) * mo a ≤ 2 ^ 31 * 100 := Nat.mul_le_mul (by omega) hm2
                  have hq : (t' - cm) * mo a / mi a ≤ (t' - cm) * mo a := Nat.div_le_self _ _
                  refine x_iload G dM_fails_131 rfl ?_
                  refine x_i2l G dM_fails_133 ?_
                  refine x_aload_n G 0 dM_fails_134 rfl rfl ?_
                  refine x_get G 0 rfl rfl 6 (by decide) rfl (fun w h => .tail _ (iM_ok w h)) (.tail _ wd_601) rfl dM_fails_135 ?_
                  refine x_iload G dM_fails_138 rfl ?_
                  refine x_ialdN G 3 0 rfl rfl (by omega) (by decide) dM_fails_140 ?_
                  refine x_i2l G dM_fails_141 ?_
                  refine x_topl (z := lN (mo a)) (by rw [hO5 3 (by omega), hLU.1 3 (by omega), h3a, nI_l (by omega)]) ?_
                  refine x_lmul G dM_fails_142 ?_
                  refine x_topl (z := lN ((t' - cm) * mo a)) (by rw [h8, pk_sub (by omega), nI_l (by omega), lN_mul]) ?_
                  refine x_aload_n G 0 dM_fails_143 rfl rfl ?_
                  refine x_get G 0 rfl rfl 7 (by decide) rfl (fun w h => .tail _ (iM_ok w h)) (.tail _ wd_602) rfl dM_fails_144 ?_
                  refine x_iload G dM_fails_147 rfl ?_
                  refine x_ialdN G 4 0 rfl rfl (by omega) (by decide) dM_fails_149 ?_
                  refine x_i2l G dM_fails_150 ?_
                  refine x_topl (z := lN (mi a)) (by rw [hO5 4 (by omega), hLU.1 4 (by omega), h4a, nI_l (by omega)]) ?_
                  refine x_ldiv G dM_fails_151 (fun h => by rw [show (0 : Int64) = lN 0 from rfl, pk_lEQ (by omega) (by decide)] at h; omega) ?_
                  refine x_topl (pk_lDiv (by omega) hi1 (by omega)) ?_
                  refine x_lstore G dM_fails_152 (by decide) ?_
                  refine x_iload G dM_fails_154 rfl ?_
                  refine x_aload_n G 0 dM_fails_156 rfl rfl ?_
                  refine x_iload G dM_fails_157 rfl ?_
                  refine x_iload G dM_fails_159 rfl ?_
                  refine x_call0V2i G (cM_takes hP5 ha4 (show k < n by omega)) 0 rfl rfl (cV G.2.2.2.2.1 wd_696 wd_698 wd_41 wd_55 wd_699 (by decide +kernel) ⟨(Nat.le_of_ble_eq_true rfl), (Nat.le_of_ble_eq_true rfl)⟩) dM_fails_161 (Nat.le_of_ble_eq_true rfl) ⟨Nat.zero_le _, Nat.zero_le _⟩ (fun r161 e161 => ?_)
                  subst e161
                  refine x_icmp_ge G 180 dM_fails_164 (by decide) (fun h164 => ?_) (fun h164 => ?_)
                  · have h164 : cm + tk ≤ t' := by rw [h8, pk_sub (by omega), htk2, nI_leI (by omega) (by omega)] at h164; omega
                    rw [if_pos h164] at hdn
                    refine x_aload_n G 0 dM_fails_180 rfl rfl ?_
                    refine x_iload G dM_fails_181 rfl ?_
                    refine x_call0V1i G (cM_all (by omega)) 0 rfl rfl (cV G.2.2.2.2.1 wd_679 wd_681 wd_37 wd_55 wd_682 (by decide +kernel) ⟨(Nat.le_of_ble_eq_true rfl), (Nat.le_of_ble_eq_true rfl)⟩) dM_fails_183 (Nat.le_of_ble_eq_true rfl) ⟨Nat.zero_le _, Nat.zero_le _⟩ (fun r183 e183 => ?_)
                    subst e183
                    refine x_goto G 192 dM_fails_186 (by decide) ?_
                    first
                    | exact x_eq rfl rfl rfl (by rw [e12]) (done (mvF hh ww k) _ _ _ _ _ hdn (Nat.le_refl _))
                    | exact x_eq rfl rfl rfl (by rw [lN_i]) (done _ _ _ _ _ _ hdn hle)
                  · have h164 : ¬ cm + tk ≤ t' := by rw [h8, pk_sub (by omega), htk2, nI_leI (by omega) (by omega)] at h164; omega
                    rw [if_neg h164] at hdn
                    have hle : (t' - cm) * mo a / mi a ≤ mvF hh ww k := done_le hm1 hi1 (by have : t' - cm < tk := (by omega); rw [htke] at this; exact this)
                    refine x_lload G dM_fails_167 rfl ?_
                    refine x_aload_n G 0 dM_fails_169 rfl rfl ?_
                    refine x_iload G dM_fails_170 rfl ?_
                    refine x_call0V1i G (cM_all (by omega)) 0 rfl rfl (cV G.2.2.2.2.1 wd_679 wd_681 wd_37 wd_55 wd_682 (by decide +kernel) ⟨(Nat.le_of_ble_eq_true rfl), (Nat.le_of_ble_eq_true rfl)⟩) dM_fails_172 (Nat.le_of_ble_eq_true rfl) ⟨Nat.zero_le _, Nat.zero_le _⟩ (fun r172 e172 => ?_)
                    subst e172
                    refine x_i2l G dM_fails_175 ?_
                    refine x_topl (z := lN (mvF hh ww k)) (by rw [e12, nI_l (by omega)]) ?_
                    refine x_lcmp G dM_fails_176 ?_
                    refine x_if_le G 189 dM_fails_177 (by decide) (fun h177 => ?_) (fun h177 => (by exact absurd (lgc_le (by omega) (by omega) hle) h177))
                    refine x_lload G dM_fails_189 rfl ?_
                    refine x_l2i G dM_fails_191 ?_
                    first
                    | exact x_eq rfl rfl rfl (by rw [e12]) (done (mvF hh ww k) _ _ _ _ _ hdn (Nat.le_refl _))
                    | exact x_eq rfl rfl rfl (by rw [lN_i]) (done _ _ _ _ _ _ hdn hle)
              · rw [h6, aI_ge0] at h88
                have hd : dnA A (mvF hh ww) mo mi (fun b => cmA A (mvF hh ww) mo mi 8 g s (A b) b) (enA A (mvF hh ww) mo mi g s) k t' = 0 := if_pos (Or.inl h88)
                refine x_iconst G (0) dM_fails_91 (by decide) ?_
                refine x_goto G 119 dM_fails_92 (by decide) ?_
                refine x_istore G dM_fails_119 (by decide) ?_
                refine x_iload G dM_fails_121 rfl ?_
                refine x_if_lt G 247 dM_fails_123 (by decide) (fun h123 => ?_) (fun h123 => (by exact absurd (by rw [h6]; exact aI_lt0.mpr h88) h123))
                refine x_iinc G (nI (k + 1)) dM_fails_247 rfl (nI_1 k) (by decide) ?_
                refine x_goto G 62 dM_fails_250 (by decide) ?_
                exact ih (k + 1) (by omega) σ5 _ _ _ _ _ _ (dn0 hd) e50 hO5
          refine x_iconst G (0) dM_fails_59 (by decide) ?_
          refine x_istore G dM_fails_60 (by decide) ?_
          exact loop n 0 (by omega) σ3 .null .null .null .null .null .null hP3 rfl (fun _ _ => rfl)
        · refine x_iconst G (3) dM_fails_37 (by decide) ?_
          refine x_goto G 42 dM_fails_38 (by decide) ?_
          have hk : tF C pl ou v t = 3 := by unfold tF; rw [if_pos (hC ▸ h6), if_neg (fun q => q.elim h14 (fun z => hou.mp z h23)), if_neg (fun q => by rw [hpl, bI_t q] at h34; exact absurd h34 (by decide))]
          refine x_put G 0 rfl rfl 0 (by decide) (Nat.le_of_ble_eq_true rfl) mput_0_0 (fun w h => .tail _ (iM_ok w h)) tM_ok nM_ok (.tail _ wd_595) rfl rfl (tM_ok 0 (by decide)) rfl rfl dM_fails_42 ?_
          refine x_aload_n G 0 dM_fails_45 rfl rfl ?_
          refine x_get G 0 rfl rfl 0 (by decide) rfl (fun w h => .tail _ (iM_ok w h)) (.tail _ wd_595) rfl dM_fails_46 ?_
          refine x_if_le G 54 dM_fails_49 (by decide) (fun h49 => (by rw [sst_same] at h49; exact absurd h49 (by decide))) (fun h49 => ?_)
          refine x_iconst G (0) dM_fails_52 (by decide) ?_
          exact x_reti G hr hlk rfl dM_fails_53 ⟨by rw [hk]; exact sst_same, fun _ => LU.thr, fun q => absurd (hk.symm.trans q) (by decide)⟩
      · refine x_iconst G (2) dM_fails_26 (by decide) ?_
        refine x_goto G 42 dM_fails_27 (by decide) ?_
        have hk : tF C pl ou v t = 2 := by unfold tF; rw [if_pos (hC ▸ h6), if_pos (Or.inr (hou.mpr h23))]
        refine x_put G 0 rfl rfl 0 (by decide) (Nat.le_of_ble_eq_true rfl) mput_0_0 (fun w h => .tail _ (iM_ok w h)) tM_ok nM_ok (.tail _ wd_595) rfl rfl (tM_ok 0 (by decide)) rfl rfl dM_fails_42 ?_
        refine x_aload_n G 0 dM_fails_45 rfl rfl ?_
        refine x_get G 0 rfl rfl 0 (by decide) rfl (fun w h => .tail _ (iM_ok w h)) (.tail _ wd_595) rfl dM_fails_46 ?_
        refine x_if_le G 54 dM_fails_49 (by decide) (fun h49 => (by rw [sst_same] at h49; exact absurd h49 (by decide))) (fun h49 => ?_)
        refine x_iconst G (0) dM_fails_52 (by decide) ?_
        exact x_reti G hr hlk rfl dM_fails_53 ⟨by rw [hk]; exact sst_same, fun _ => LU.thr, fun q => absurd (hk.symm.trans q) (by decide)⟩
  · have h6 := bI_eq0.mp h6
    refine x_iconst G (1) dM_fails_9 (by decide) ?_
    refine x_goto G 42 dM_fails_10 (by decide) ?_
    have hk : tF C pl ou v t = 1 := if_neg (hC ▸ h6)
    refine x_put G 0 rfl rfl 0 (by decide) (Nat.le_of_ble_eq_true rfl) mput_0_0 (fun w h => .tail _ (iM_ok w h)) tM_ok nM_ok (.tail _ wd_595) rfl rfl (tM_ok 0 (by decide)) rfl rfl dM_fails_42 ?_
    refine x_aload_n G 0 dM_fails_45 rfl rfl ?_
    refine x_get G 0 rfl rfl 0 (by decide) rfl (fun w h => .tail _ (iM_ok w h)) (.tail _ wd_595) rfl dM_fails_46 ?_
    refine x_if_le G 54 dM_fails_49 (by decide) (fun h49 => (by rw [sst_same] at h49; exact absurd h49 (by decide))) (fun h49 => ?_)
    refine x_iconst G (0) dM_fails_52 (by decide) ?_
    exact x_reti G hr hlk rfl dM_fails_53 ⟨by rw [hk]; exact sst_same, fun _ => LU.thr, fun q => absurd (hk.symm.trans q) (by decide)⟩
