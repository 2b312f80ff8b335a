/-! THE CLASS BESIDE THE REFERENCE, CALL BY CALL -/
def RLd (σ τ : xSg) (n C g s : Nat) (hh ww mo mi : Nat → Nat) (ou : Nat → Bool) (pl : Bool) (A : Nat → Nat) : Prop := PB σ n hh ww ∧ PK σ C mo mi ou ∧ PS σ g s ∧ σ 0 4 = bI (pl = true) ∧ PM τ n C g s hh ww mo mi ou ∧ τ 0 10 = bI (pl = true) ∧ (pl = true → ∃ ys f st, BST n C g s hh ww mo mi ou = some (ys, f, st) ∧ A = sprB (bzF hh ww) ys ∧ PLN σ A (mvF hh ww) mo mi g s ∧ ∀ b, b < n → τ 7 b = aI (A b)) ∧ (pl = false → A = fun _ => 9)
def REL (σ τ : xSg) : Prop := ∃ n C g s hh ww mo mi ou pl A, RLd σ τ n C g s hh ww mo mi ou pl A
theorem PB.bz {σ : xSg} {n : Nat} {hh ww : Nat → Nat} (h : PB σ n hh ww) {b : Nat} (hb : bzF hh ww b = true) : b < n := bz_lt h hb
theorem RLd.An {σ τ : xSg} {n C g s : Nat} {hh ww mo mi : Nat → Nat} {ou : Nat → Bool} {pl : Bool} {A : Nat → Nat} (h : RLd σ τ n C g s hh ww mo mi ou pl A) (b : Nat) (hb : A b < 4) : b < n := by
  obtain ⟨hB, hK, hS, h4, hP, h10, hpl, hno⟩ := h
  cases pl with
  | true =>
    obtain ⟨ys, f, st, h1, rfl, h3, h5⟩ := hpl rfl
    by_cases hz : bzF hh ww b = true
    · exact hB.bz hz
    · rw [spr_no hz] at hb; omega
  | false => rw [hno rfl] at hb; exact absurd (show (9 : Nat) < 4 from hb) (by decide)
theorem RLd.AC {σ τ : xSg} {n C g s : Nat} {hh ww mo mi : Nat → Nat} {ou : Nat → Bool} {pl : Bool} {A : Nat → Nat} (h : RLd σ τ n C g s hh ww mo mi ou pl A) (b : Nat) (hb : A b < 4) : A b < C := by
  obtain ⟨hB, hK, hS, h4, hP, h10, hpl, hno⟩ := h
  cases pl with
  | true =>
    obtain ⟨ys, f, st, h1, rfl, h3, h5⟩ := hpl rfl
    obtain ⟨k1, k2, -, -⟩ := BST_key hK.1 h1
    by_cases hz : bzF hh ww b = true
    · exact spr_lt k1 k2 (hB.bz hz) hz
    · rw [spr_no hz] at hb; omega
  | false => rw [hno rfl] at hb; exact absurd (show (9 : Nat) < 4 from hb) (by decide)
theorem RLd.PN {σ τ : xSg} {n C g s : Nat} {hh ww mo mi : Nat → Nat} {ou : Nat → Bool} {pl : Bool} {A : Nat → Nat} (h : RLd σ τ n C g s hh ww mo mi ou pl A) (hp : pl = true) : PLN σ A (mvF hh ww) mo mi g s := by
  obtain ⟨-, -, -, -, -, -, hpl, -⟩ := h
  obtain ⟨ys, f, st, h1, h2, h3, h5⟩ := hpl hp
  exact h3
theorem RLd.pla {σ τ : xSg} {n C g s : Nat} {hh ww mo mi : Nat → Nat} {ou : Nat → Bool} {pl : Bool} {A : Nat → Nat} (h : RLd σ τ n C g s hh ww mo mi ou pl A) (hp : pl = true) : PLA τ A n C g := by
  have hAn := h.An
  have hAC := h.AC
  have hPN := h.PN hp
  obtain ⟨-, -, -, -, -, -, hpl, -⟩ := h
  obtain ⟨ys, f, st, h1, h2, h3, h5⟩ := hpl hp
  exact ⟨h5, fun b hb q => by have := hAn b q; omega, hAC, hPN.2.1⟩
theorem RLd.pl1 {σ τ : xSg} {n C g s : Nat} {hh ww mo mi : Nat → Nat} {ou : Nat → Bool} {pl : Bool} {A : Nat → Nat} (h : RLd σ τ n C g s hh ww mo mi ou pl A) (hp : pl = true) : ∃ ys f st, BST n C g s hh ww mo mi ou = some (ys, f, st) ∧ PLN σ (sprB (bzF hh ww) ys) (mvF hh ww) mo mi g s := by
  obtain ⟨-, -, -, -, -, -, hpl, -⟩ := h
  obtain ⟨ys, f, st, h1, h2, h3, h5⟩ := hpl hp
  exact ⟨ys, f, st, h1, h2 ▸ h3⟩
theorem RLd.lu {σ τ v : xSg} {n C g s : Nat} {hh ww mo mi : Nat → Nat} {ou : Nat → Bool} {pl : Bool} {A : Nat → Nat} (h : RLd σ τ n C g s hh ww mo mi ou pl A) (hv : LU τ v) : RLd σ v n C g s hh ww mo mi ou pl A := by
  obtain ⟨hB, hK, hS, h4, hP, h10, hpl, hno⟩ := h
  exact ⟨hB, hK, hS, h4, hv.PM hP, (hv.2 10 (by omega)).trans h10, fun hp => by obtain ⟨ys, f, st, h1, h2, h3, h5⟩ := hpl hp; exact ⟨ys, f, st, h1, h2, h3, fun b hb => by rw [hv.1 7 (by omega)]; exact h5 b hb⟩, hno⟩
theorem PLN.of25 {σ τ : xSg} {A mv mo mi : Nat → Nat} {g s : Nat} (h : PLN σ A mv mo mi g s) (e : ∀ q, q < 25 → τ q = σ q) : PLN τ A mv mo mi g s := by
  obtain ⟨⟨h1, ⟨h2, h3, h4⟩, h5⟩, h6, L, r1, r2, r3, r4⟩ := h
  exact ⟨⟨h1.of (e 10 (by omega)) (e 13 (by omega)) (e 14 (by omega)), ⟨fun d f l' a b c0 d0 x y z => by rw [e (16 + d) (by omega)]; exact h2 d f l' a b c0 d0 x y z, fun b a c0 d0 => by rw [e 11 (by omega), e 12 (by omega)]; exact h3 b a c0 d0, by rw [e 3 (by omega)]; exact h4⟩, by rw [e 3 (by omega)]; exact h5⟩, h6, L, by rw [e 3 (by omega)]; exact r1, fun i hi => by rw [e 20 (by omega)]; exact r2 i hi, r3, r4⟩
theorem RLd.cl {σ τ u : xSg} {n C g s : Nat} {hh ww mo mi : Nat → Nat} {ou : Nat → Bool} {pl : Bool} {A : Nat → Nat} (h : RLd σ τ n C g s hh ww mo mi ou pl A) (hu : ∀ q, q < 25 → u q = σ q) : RLd u τ n C g s hh ww mo mi ou pl A := by
  obtain ⟨hB, hK, hS, h4, hP, h10, hpl, hno⟩ := h
  exact ⟨hB.of (hu 1 (by omega)) (hu 5 (by omega)) (hu 6 (by omega)), hK.of (hu 2 (by omega)) (hu 7 (by omega)) (hu 8 (by omega)) (hu 9 (by omega)), hS.of (hu 2 (by omega)), by rw [hu 0 (by omega)]; exact h4, hP, h10, fun hp => by obtain ⟨ys, f, st, h1, h2, h3, h5⟩ := hpl hp; exact ⟨ys, f, st, h1, h2, h3.of25 hu, h5⟩, hno⟩
theorem RLd.rel {σ τ : xSg} {n C g s : Nat} {hh ww mo mi : Nat → Nat} {ou : Nat → Bool} {pl : Bool} {A : Nat → Nat} (h : RLd σ τ n C g s hh ww mo mi ou pl A) : REL σ τ := ⟨n, C, g, s, hh, ww, mo, mi, ou, pl, A, h⟩
theorem REL.cl {σ τ u : xSg} (h : REL σ τ) (hu : ∀ q, q < 25 → u q = σ q) : REL u τ := by
  obtain ⟨n, C, g, s, hh, ww, mo, mi, ou, pl, A, h⟩ := h
  exact (h.cl hu).rel
theorem ow_lt {u : xSg} {r : Int32} (q : Nat) (hq : q < 25) : ow u r q = u q := if_neg (by omega)
theorem ow_25 {u : xSg} {r : Int32} : ow u r 25 0 = r := by unfold ow; rw [if_pos rfl]
theorem hask_iff {v t : Int32} {C : Nat} (ht : t = nI C) (hC : C ≤ 4) : (¬ v < 0 ∧ ¬ t ≤ v ∧ ¬ (4 : Int32) ≤ v) ↔ (¬ v < 0 ∧ ¬ nI C ≤ v) := by
  subst ht
  constructor
  · exact fun h => ⟨h.1, h.2.1⟩
  · intro h
    obtain ⟨c, rfl, hc⟩ := cr_ex rfl hC h
    exact ⟨h.1, h.2, by rw [show (4 : Int32) = nI 4 from rfl, nI_leI (by omega) (by omega)]; omega⟩
theorem hasb_iff {v t : Int32} {n : Nat} (ht : t = nI n) (hn : n ≤ 8) : (¬ v < 0 ∧ ¬ t ≤ v ∧ ¬ (8 : Int32) ≤ v) ↔ (¬ v < 0 ∧ ¬ nI n ≤ v) := by
  subst ht
  constructor
  · exact fun h => ⟨h.1, h.2.1⟩
  · intro h
    obtain ⟨j, hj, rfl⟩ := nI_of h.1
    have h2 := h.2
    rw [nI_leI (by omega) hj] at h2
    exact ⟨h.1, h.2, by rw [show (8 : Int32) = nI 8 from rfl, nI_leI (by omega) (by omega)]; omega⟩
theorem w_ex {v : Int32} {a b : Nat} (hb : b < 1000 ∧ a < 1000) (h : ¬ v < nI a ∧ ¬ nI b < v) : ∃ j, v = nI j ∧ a ≤ j ∧ j ≤ b := by
  have h0 : ¬ v < 0 := by have h1 := h.1; have h2 := h.2; rw [i32_lt] at h1 h2 ⊢; rw [nI_toInt (by omega)] at h2; have e : (0 : Int32).toInt = 0 := by decide
                          rcases Nat.lt_or_ge a (2 ^ 31) with z | z
                          · rw [nI_toInt z] at h1; omega
                          · exfalso; omega
  obtain ⟨j, hj, rfl⟩ := nI_of h0
  have h1 := h.1; have h2 := h.2
  rw [nI_ltI (by omega) hj] at h2
  exact ⟨j, rfl, by rcases Nat.lt_or_ge j a with z | z; (· exact absurd (nI_lt z (by omega)) h1); (· exact z), by omega⟩
theorem op_bay {l : Launch} {D : va_G} {cI cZ cJ cL : ClassId} {ad am : Nat → Nat} {oa : Nat} {σ τ : xSg} (hR : REL σ τ) (htr : l.stackTraces = false) {t1 t2 : Int32} : ∃ (K : Int32) (GC : xSg → Prop) (GM : Int32 → xSg → Prop), xCh l D vCl (tyL cI cZ cJ cL) nwW (wH ad oa cI cZ cJ cL) yL_bay (.codeWith yL_bay bL_bay 5 (some .int) [((0 : Nat), (10 : Nat), (13 : Nat), (13 : Nat)), ((0 : Nat), (10 : Nat), (17 : Nat), (15 : Nat))] :: bigW) 7 [.ref (ad 0), .int t1, .int t2, .ref oa] σ (fun k u => k = K ∧ GC u) ∧ xCi l D vCl (tyC cI cZ cJ) nwW (wM am cI cZ cJ) yM_bay (.code yM_bay bM_bay 3 (some .int) :: bigW) 1 [.ref (am 0), .int t1, .int t2] τ (fun r v => v 0 0 = K ∧ GM r v) ∧ ∀ u r v, GC u → GM r v → (K = 0 → u 25 0 = r) ∧ REL u v := by
  obtain ⟨n, C, g, s, hh, ww, mo, mi, ou, pl, A, hd⟩ := hR
  obtain ⟨hB, hK, hS, h4, hP, h10, hpl, hno⟩ := id hd
  obtain ⟨hn8, hnt, hbw, hbb, hb0⟩ := id hB
  obtain ⟨hC1, hC4, hC, hrt, hbd⟩ := id hK
  obtain ⟨hg3, hs20, hg, hs⟩ := id hS
  obtain ⟨-, -, -, -, -, tn, tC, tg, ts, tbw, trt, -, -, -⟩ := id hP
  by_cases hw : ((¬ t1 < 0 ∧ ¬ (50 : Int32) < t1) ∧ ¬ t2 < 0 ∧ ¬ (200 : Int32) < t2)
  · by_cases hn : n = 8
    · refine ⟨2, fun u => u = σ, fun _ v => LU τ v, hT_bay2 (tP_bay2 hw (by rw [hnt, hn]; decide) htr), (cM_bay tn hn8).mono (fun r v hv => ?_), fun u r v hu hv => ⟨fun q => absurd q (by decide), by rw [hu]; exact (hd.lu hv).rel⟩⟩
      rw [if_neg (fun q => q hw), if_pos hn] at hv
      rw [hv]; exact ⟨sst_same, LU.thr⟩
    · obtain ⟨a, ea, -, ha⟩ := w_ex (a := 0) (b := 50) (by decide) hw.1
      obtain ⟨b, eb, -, hb⟩ := w_ex (a := 0) (b := 200) (by decide) hw.2
      refine ⟨0, fun u => u = ow (sst (sst (sst (sst σ 0 4 0) 5 n t1) 6 n t2) 1 2 (nI (n + 1))) (nI n), fun r v => r = nI n ∧ v = sst (sst (sst (sst (sst τ 0 0 0) 1 n t1) 2 n t2) 0 3 (nI (n + 1))) 0 10 0, ?_, (cM_bay tn hn8).mono (fun r v hv => ?_), ?_⟩
      · exact fun sz => Met.map (hL_bay (by omega) (cP_bay hnt (by omega) hw) sz) (fun _ _ h => h) (fun a st o t _ hq => by obtain ⟨⟨r, u, e1, ⟨e2, r', u', ⟨e3, e4⟩, e5⟩, e6⟩, e7⟩ := hq; exact ⟨⟨r, u, e1, ⟨e2, by rw [e5, e3, e4]⟩, e6⟩, e7⟩) (fun _ h => h)
      · rw [if_neg (fun q => q hw), if_neg hn] at hv
        rw [hv.2]; exact ⟨by rw [sst_i (by omega), sst_i (by omega), sst_ne (by omega), sst_ne (by omega), sst_same], hv.1, rfl⟩
      · intro u r v hu hv
        obtain ⟨hr, hv⟩ := hv
        refine ⟨fun _ => by rw [hu, hr]; exact ow_25, ?_⟩
        rw [hu, hv]
        refine REL.cl (σ := sst (sst (sst (sst σ 0 4 0) 5 n t1) 6 n t2) 1 2 (nI (n + 1))) ?_ (fun q hq => ow_lt q hq)
        refine ⟨n + 1, C, g, s, fun x => if x = n then a else hh x, fun x => if x = n then b else ww x, mo, mi, ou, false, fun _ => 9, ⟨by omega, sst_same, fun x hx => ?_, fun x => ?_, fun x hx => ?_⟩, hK.of (by simp only [sst_ne (show (2 : Nat) ≠ 1 by omega), sst_ne (show (2 : Nat) ≠ 5 by omega), sst_ne (show (2 : Nat) ≠ 6 by omega), sst_ne (show (2 : Nat) ≠ 0 by omega)]) (by simp only [sst_ne (show (7 : Nat) ≠ 1 by omega), sst_ne (show (7 : Nat) ≠ 5 by omega), sst_ne (show (7 : Nat) ≠ 6 by omega), sst_ne (show (7 : Nat) ≠ 0 by omega)]) (by simp only [sst_ne (show (8 : Nat) ≠ 1 by omega), sst_ne (show (8 : Nat) ≠ 5 by omega), sst_ne (show (8 : Nat) ≠ 6 by omega), sst_ne (show (8 : Nat) ≠ 0 by omega)]) (by simp only [sst_ne (show (9 : Nat) ≠ 1 by omega), sst_ne (show (9 : Nat) ≠ 5 by omega), sst_ne (show (9 : Nat) ≠ 6 by omega), sst_ne (show (9 : Nat) ≠ 0 by omega)]), hS.of (by simp only [sst_ne (show (2 : Nat) ≠ 1 by omega), sst_ne (show (2 : Nat) ≠ 5 by omega), sst_ne (show (2 : Nat) ≠ 6 by omega), sst_ne (show (2 : Nat) ≠ 0 by omega)]), ?_, ⟨by omega, hC1, hC4, hg3, hs20, ?_, ?_, ?_, ?_, fun x hx => ?_, fun x hx => ?_, fun x => ?_, fun x hx => ?_, hbd⟩, sst_same, fun q => (by cases q), fun _ => rfl⟩
        · simp only [sst_ne (show (5 : Nat) ≠ 1 by omega), sst_ne (show (6 : Nat) ≠ 1 by omega), sst_ne (show (5 : Nat) ≠ 6 by omega)]
          by_cases e : x = n
          · rw [e, sst_same, sst_same, if_pos rfl, if_pos rfl]; exact ⟨ea, eb⟩
          · rw [sst_i e, sst_i e, sst_ne (by omega), sst_ne (by omega), sst_ne (by omega), if_neg e, if_neg e]; exact hbw x (by omega)
        · by_cases e : x = n
          · simp only [if_pos e]; exact ⟨ha, hb⟩
          · simp only [if_neg e]; exact hbb x
        · simp only [if_neg (show ¬ x = n by omega)]; exact hb0 x (by omega)
        · simp only [sst_ne (show (0 : Nat) ≠ 1 by omega), sst_ne (show (0 : Nat) ≠ 6 by omega), sst_ne (show (0 : Nat) ≠ 5 by omega)]; exact sst_same
        · rw [sst_i (by omega), sst_same]
        · rw [sst_i (by omega), sst_i (by omega), sst_ne (by omega), sst_ne (by omega), sst_i (by omega)]; exact tC
        · rw [sst_i (by omega), sst_i (by omega), sst_ne (by omega), sst_ne (by omega), sst_i (by omega)]; exact tg
        · rw [sst_i (by omega), sst_i (by omega), sst_ne (by omega), sst_ne (by omega), sst_i (by omega)]; exact ts
        · simp only [sst_ne (show (1 : Nat) ≠ 0 by omega), sst_ne (show (2 : Nat) ≠ 0 by omega), sst_ne (show (1 : Nat) ≠ 2 by omega)]
          by_cases e : x = n
          · rw [e, sst_same, sst_same, if_pos rfl, if_pos rfl]; exact ⟨ea, eb⟩
          · rw [sst_i e, sst_i e, sst_ne (by omega), sst_ne (by omega), sst_ne (by omega), if_neg e, if_neg e]; exact tbw x (by omega)
        · simp only [sst_ne (show (3 : Nat) ≠ 0 by omega), sst_ne (show (3 : Nat) ≠ 1 by omega), sst_ne (show (3 : Nat) ≠ 2 by omega), sst_ne (show (4 : Nat) ≠ 0 by omega), sst_ne (show (4 : Nat) ≠ 1 by omega), sst_ne (show (4 : Nat) ≠ 2 by omega), sst_ne (show (5 : Nat) ≠ 0 by omega), sst_ne (show (5 : Nat) ≠ 1 by omega), sst_ne (show (5 : Nat) ≠ 2 by omega)]; exact trt x hx
        · by_cases e : x = n
          · simp only [if_pos e]; exact ⟨ha, hb⟩
          · simp only [if_neg e]; exact hbb x
        · simp only [if_neg (show ¬ x = n by omega)]; exact hb0 x (by omega)
  · refine ⟨1, fun u => u = σ, fun _ v => LU τ v, hT_bay1 (tP_bay1 hw htr), (cM_bay tn hn8).mono (fun r v hv => ?_), fun u r v hu hv => ⟨fun q => absurd q (by decide), by rw [hu]; exact (hd.lu hv).rel⟩⟩
    rw [if_pos hw] at hv
    rw [hv]; exact ⟨sst_same, LU.thr⟩
theorem op_step {l : Launch} {D : va_G} {cI cZ cJ cL : ClassId} {ad am : Nat → Nat} {oa : Nat} {σ τ : xSg} (hR : REL σ τ) {t1 : Int32} : ∃ (GC GM : Int32 → xSg → Prop), xCi l D vCl (tyC cI cZ cJ) nwW (wC ad cI cZ cJ) yP_step (.code yP_step bP_step 2 (some .boolean) :: bigW) 1 [.ref (ad 0), .int t1] σ GC ∧ xCi l D vCl (tyC cI cZ cJ) nwW (wM am cI cZ cJ) yM_step (.code yM_step bM_step 2 (some .boolean) :: bigW) 1 [.ref (am 0), .int t1] τ GM ∧ ∀ r u r' v, GC r u → GM r' v → r = r' ∧ REL u v := by
  obtain ⟨n, C, g, s, hh, ww, mo, mi, ou, pl, A, hd⟩ := hR
  obtain ⟨hB, hK, hS, h4, hP, h10, hpl, hno⟩ := id hd
  obtain ⟨hn8, hnt, hbw, hbb, hb0⟩ := id hB
  obtain ⟨hC1, hC4, hC, hrt, hbd⟩ := id hK
  obtain ⟨hg3, hs20, hg, hs⟩ := id hS
  obtain ⟨-, -, -, -, -, tn, tC, tg, ts, tbw, trt, -, -, -⟩ := id hP
  refine ⟨_, _, cP_step, cM_step, fun r u r' v hu hv => ?_⟩
  by_cases hw : ¬ t1 < 0 ∧ ¬ (20 : Int32) < t1
  · rw [if_pos hw] at hu hv
    obtain ⟨rfl, rfl⟩ := hu
    obtain ⟨rfl, rfl⟩ := hv
    obtain ⟨a, ea, -, ha⟩ := w_ex (a := 0) (b := 20) (by decide) hw
    refine ⟨rfl, n, C, g, a, hh, ww, mo, mi, ou, false, fun _ => 9, hB.of (by simp only [sst_ne (show (1 : Nat) ≠ 0 by omega), sst_ne (show (1 : Nat) ≠ 2 by omega)]) (by simp only [sst_ne (show (5 : Nat) ≠ 0 by omega), sst_ne (show (5 : Nat) ≠ 2 by omega)]) (by simp only [sst_ne (show (6 : Nat) ≠ 0 by omega), sst_ne (show (6 : Nat) ≠ 2 by omega)]), ⟨hC1, hC4, ?_, fun x hx => ?_, hbd⟩, ⟨hg3, ha, ?_, ?_⟩, ?_, ⟨hn8, hC1, hC4, hg3, ha, ?_, ?_, ?_, ?_, fun x hx => ?_, fun x hx => ?_, hbb, hb0, hbd⟩, sst_same, fun q => (by cases q), fun _ => rfl⟩
    · rw [sst_ne (by omega), sst_i (by omega)]; exact hC
    · simp only [sst_ne (show (7 : Nat) ≠ 0 by omega), sst_ne (show (7 : Nat) ≠ 2 by omega), sst_ne (show (8 : Nat) ≠ 0 by omega), sst_ne (show (8 : Nat) ≠ 2 by omega), sst_ne (show (9 : Nat) ≠ 0 by omega), sst_ne (show (9 : Nat) ≠ 2 by omega)]; exact hrt x hx
    · rw [sst_ne (by omega), sst_i (by omega)]; exact hg
    · rw [sst_ne (by omega), sst_same]; exact ea
    · exact sst_same
    · rw [sst_i (by omega), sst_i (by omega), sst_i (by omega)]; exact tn
    · rw [sst_i (by omega), sst_i (by omega), sst_i (by omega)]; exact tC
    · rw [sst_i (by omega), sst_i (by omega), sst_i (by omega)]; exact tg
    · rw [sst_i (by omega), sst_same]; exact ea
    · simp only [sst_ne (show (1 : Nat) ≠ 0 by omega), sst_ne (show (2 : Nat) ≠ 0 by omega)]; exact tbw x hx
    · simp only [sst_ne (show (3 : Nat) ≠ 0 by omega), sst_ne (show (4 : Nat) ≠ 0 by omega), sst_ne (show (5 : Nat) ≠ 0 by omega)]; exact trt x hx
  · rw [if_neg hw] at hu hv
    obtain ⟨rfl, rfl⟩ := hu
    obtain ⟨rfl, rfl⟩ := hv
    exact ⟨rfl, (hd.lu LU.thr).rel⟩
theorem SB_BST {u : xSg} {n C g s : Nat} {hh ww mo mi : Nat → Nat} {ou : Nat → Bool} {r : Int32} (h : SB u n C g s hh ww mo mi ou r) : (BST n C g s hh ww mo mi ou = none ∧ r = -1 ∧ u 0 10 = 0) ∨ ∃ ys f st, BST n C g s hh ww mo mi ou = some (ys, f, st) ∧ r = nI f ∧ u 0 10 = 1 ∧ ∀ b, b < n → u 7 b = aI (sprB (bzF hh ww) ys b) := by
  have h : (match BST n C g s hh ww mo mi ou with
    | none => r = -1 ∧ u 0 10 = 0
    | some (ys, f, _) => r = nI f ∧ u 0 10 = 1 ∧ ys.length = cntB (bzF hh ww) n ∧ (∀ i, i < ys.length → gDn ys i < C) ∧ ∀ b, b < n → u 7 b = aI (sprB (bzF hh ww) ys b)) := h
  cases hb : BST n C g s hh ww mo mi ou with
  | none => rw [hb] at h; exact Or.inl ⟨rfl, h⟩
  | some q =>
    obtain ⟨ys, f, st⟩ := q
    rw [hb] at h
    exact Or.inr ⟨ys, f, st, rfl, h.1, h.2.1, h.2.2.2.2⟩
/-- after a search on both sides -/
theorem both_plan {u v : xSg} {n C g s : Nat} {hh ww mo mi : Nat → Nat} {ou : Nat → Bool} {r r' : Int32} (hB : PB u n hh ww) (hK : PK u C mo mi ou) (hS : PS u g s) (hP : PM v n C g s hh ww mo mi ou) (h1 : SBC u n C g s hh ww mo mi ou r) (h2 : SB v n C g s hh ww mo mi ou r') : r = r' ∧ REL u v := by
  rcases h1 with ⟨a1, a2, a3⟩ | ⟨ys, f, st, a1, a2, a3, a4⟩
  · rcases SB_BST h2 with ⟨b1, b2, b3⟩ | ⟨ys', f', st', b1, -⟩
    · exact ⟨a2.trans b2.symm, n, C, g, s, hh, ww, mo, mi, ou, false, fun _ => 9, hB, hK, hS, a3, hP, b3, fun q => (by cases q), fun _ => rfl⟩
    · rw [a1] at b1; cases b1
  · rcases SB_BST h2 with ⟨b1, -⟩ | ⟨ys', f', st', b1, b2, b3, b4⟩
    · rw [a1] at b1; cases b1
    · rw [a1] at b1; cases b1
      exact ⟨a2.trans b2.symm, n, C, g, s, hh, ww, mo, mi, ou, true, sprB (bzF hh ww) ys, hB, hK, hS, a3, hP, b3, fun _ => ⟨ys, f, st, a1, rfl, a4, b4⟩, fun q => (by cases q)⟩
theorem op_plan {l : Launch} {D : va_G} {cI cZ cJ cL : ClassId} {ad am : Nat → Nat} {oa : Nat} {σ τ : xSg} (hR : REL σ τ) : ∃ (GC GM : Int32 → xSg → Prop), xCi l D vCl (tyC cI cZ cJ) nwW (wC ad cI cZ cJ) yP_plan (.code yP_plan bP_plan 1 (some .int) :: bigW) 5 [.ref (ad 0)] σ GC ∧ xCi l D vCl (tyC cI cZ cJ) nwW (wM am cI cZ cJ) yM_plan (.code yM_plan bM_plan 1 (some .int) :: bigW) 4 [.ref (am 0)] τ GM ∧ ∀ r u r' v, GC r u → GM r' v → r = r' ∧ REL u v := by
  obtain ⟨n, C, g, s, hh, ww, mo, mi, ou, pl, A, hd⟩ := hR
  obtain ⟨hB, hK, hS, h4, hP, h10, hpl, hno⟩ := id hd
  obtain ⟨hn8, hnt, hbw, hbb, hb0⟩ := id hB
  obtain ⟨hC1, hC4, hC, hrt, hbd⟩ := id hK
  obtain ⟨hg3, hs20, hg, hs⟩ := id hS
  obtain ⟨-, -, -, -, -, tn, tC, tg, ts, tbw, trt, -, -, -⟩ := id hP
  refine ⟨_, _, cP_plan hB hK hS h4 hd.pl1, cM_plan hP, fun r u r' v hu hv => ?_⟩
  have hPt := LU.thr (σ := τ) (v := 0) |>.PM hP
  exact both_plan (hu.2.PB hB) (hu.2.PK hK) (hu.2.PS hS) (hPt.of ⟨hv.2.2 3 (by omega), hv.2.2 1 (by omega), hv.2.2 2 (by omega), hv.2.2 9 (by omega)⟩ (hv.2.1 1 (by omega) (by omega)) (hv.2.1 2 (by omega) (by omega)) (hv.2.1 3 (by omega) (by omega)) (hv.2.1 4 (by omega) (by omega)) (hv.2.1 5 (by omega) (by omega))) hu.1 hv.1
theorem op_bound {l : Launch} {D : va_G} {cI cZ cJ cL : ClassId} {ad am : Nat → Nat} {oa : Nat} {σ τ : xSg} (hR : REL σ τ) : ∃ (GC GM : Int32 → xSg → Prop), xCi l D vCl (tyC cI cZ cJ) nwW (wC ad cI cZ cJ) yP_bound (.code yP_bound bP_bound 3 (some .int) :: bigW) 3 [.ref (ad 0)] σ GC ∧ xCi l D vCl (tyC cI cZ cJ) nwW (wM am cI cZ cJ) yM_bound (.code yM_bound bM_bound 9 (some .int) :: bigW) 2 [.ref (am 0)] τ GM ∧ ∀ r u r' v, GC r u → GM r' v → r = r' ∧ REL u v := by
  obtain ⟨n, C, g, s, hh, ww, mo, mi, ou, pl, A, hd⟩ := hR
  obtain ⟨hB, hK, hS, h4, hP, h10, hpl, hno⟩ := id hd
  obtain ⟨hn8, hnt, hbw, hbb, hb0⟩ := id hB
  obtain ⟨hC1, hC4, hC, hrt, hbd⟩ := id hK
  obtain ⟨hg3, hs20, hg, hs⟩ := id hS
  obtain ⟨-, -, -, -, -, tn, tC, tg, ts, tbw, trt, -, -, -⟩ := id hP
  refine ⟨_, _, xCi0.toW (cP_bound hB hK hS), cM_bound hP, fun r u r' v hu hv => ?_⟩
  exact ⟨hu.1.trans hv.1.symm, by rw [hu.2]; exact (hd.lu hv.2.2).rel⟩
theorem op_count {l : Launch} {D : va_G} {cI cZ cJ cL : ClassId} {ad am : Nat → Nat} {oa : Nat} {σ τ : xSg} (hR : REL σ τ) {t1 : Int32} : ∃ (GC GM : Int32 → xSg → Prop), xCi l D vCl (tyC cI cZ cJ) nwW (wC ad cI cZ cJ) yP_count (.code yP_count bP_count 2 (some .int) :: bigW) 3 [.ref (ad 0), .int t1] σ GC ∧ xCi l D vCl (tyC cI cZ cJ) nwW (wM am cI cZ cJ) yM_count (.code yM_count bM_count 5 (some .int) :: bigW) 4 [.ref (am 0), .int t1] τ GM ∧ ∀ r u r' v, GC r u → GM r' v → r = r' ∧ REL u v := by
  obtain ⟨n, C, g, s, hh, ww, mo, mi, ou, pl, A, hd⟩ := hR
  obtain ⟨hB, hK, hS, h4, hP, h10, hpl, hno⟩ := id hd
  obtain ⟨hn8, hnt, hbw, hbb, hb0⟩ := id hB
  obtain ⟨hC1, hC4, hC, hrt, hbd⟩ := id hK
  obtain ⟨hg3, hs20, hg, hs⟩ := id hS
  obtain ⟨-, -, -, -, -, tn, tC, tg, ts, tbw, trt, -, -, -⟩ := id hP
  refine ⟨_, _, xCi0.toW (cP_count hB hK hS h4 hd.PN hd.An), cM_count hP h10 hd.pla, fun r u r' v hu hv => ?_⟩
  exact ⟨hu.1.trans hv.1.symm, by rw [hu.2]; exact (hd.lu hv.2.2).rel⟩
