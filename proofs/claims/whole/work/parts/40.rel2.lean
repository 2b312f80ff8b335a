/-! THE CLASS BESIDE THE REFERENCE: rate, works, where, look, row, fails -/
theorem xCh.mono {l : Launch} {D : va_G} {cl : List vw_C} {tys : List (ClassId × FieldType)} {NW : List Cond} {wf : xSg → va_W} {y : MethodName} {Ts : List Cond} {d : Nat} {as : List Value} {σ : xSg} {post post' : Int32 → xSg → Prop} (h : xCh l D cl tys NW wf y Ts d as σ post) (hp : ∀ r u, post r u → post' r u) : xCh l D cl tys NW wf y Ts d as σ post' := fun sz => Met.map (h sz) (fun _ _ q => q) (fun a st o t _ hq => by obtain ⟨⟨r, u, e1, e2, e3⟩, e4⟩ := hq; exact ⟨⟨r, u, e1, hp r u e2, e3⟩, e4⟩) (fun _ q => q)
theorem op_rate {l : Launch} {D : va_G} {cI cZ cJ cL : ClassId} {ad am : Nat → Nat} {oa : Nat} {σ τ : xSg} (hR : REL σ τ) (htr : l.stackTraces = false) {t1 t2 t3 : Int32} : ∃ (K : Int32) (GC : xSg → Prop) (GM : Int32 → xSg → Prop), xCh l D vCl (tyL cI cZ cJ cL) nwW (wH ad oa cI cZ cJ cL) yL_rate (.codeWith yL_rate bL_rate 6 (some .int) [((0 : Nat), (19 : Nat), (22 : Nat), (21 : Nat)), ((0 : Nat), (19 : Nat), (26 : Nat), (13 : Nat))] :: bigW) 7 [.ref (ad 0), .int t1, .int t2, .int t3, .ref oa] σ (fun k u => k = K ∧ GC u) ∧ xCi l D vCl (tyC cI cZ cJ) nwW (wM am cI cZ cJ) yM_rate (.code yM_rate bM_rate 4 (some .boolean) :: bigW) 1 [.ref (am 0), .int t1, .int t2, .int t3] τ (fun r v => v 0 0 = K ∧ GM r v) ∧ ∀ u r v, GC u → GM r v → (K = 0 → (u 25 0 = if r = 0 then 0 else 1)) ∧ REL u v := by
  obtain ⟨n, C, g, s, hh, ww, mo, mi, ou, pl, A, hd⟩ := hR
  obtain ⟨hB, hK, hS, h4, hP, h10, hpl, hno⟩ := id hd
  obtain ⟨hn8, hnt, hbw, hbb, hb0⟩ := id hB
  obtain ⟨hC1, hC4, hC, hrt, hbd⟩ := id hK
  obtain ⟨hg3, hs20, hg, hs⟩ := id hS
  obtain ⟨-, -, -, -, -, tn, tC, tg, ts, tbw, trt, -, -, -⟩ := id hP
  by_cases h0 : t2 = 0
  · refine ⟨1, fun u => u = σ, fun _ v => LU τ v, hT_rate1 (tP_rate1 h0 htr), (cM_rate tC hC4).mono (fun r v hv => ?_), fun u r v hu hv => ⟨fun q => absurd q (by decide), by rw [hu]; exact (hd.lu hv).rel⟩⟩
    rw [if_pos h0] at hv
    rw [hv]; exact ⟨sst_same, LU.thr⟩
  · by_cases hw : ((¬ t1 < 0 ∧ ¬ τ 0 1 ≤ t1) ∧ (¬ t2 < 1 ∧ ¬ (100 : Int32) < t2) ∧ (¬ t3 < 1 ∧ ¬ (100 : Int32) < t3))
    · obtain ⟨c, rfl, hc⟩ := cr_ex tC hC4 hw.1
      obtain ⟨a, ea, ha1, ha2⟩ := w_ex (a := 1) (b := 100) (by decide) hw.2.1
      obtain ⟨b, eb, hb1, hb2⟩ := w_ex (a := 1) (b := 100) (by decide) hw.2.2
      refine ⟨0, fun u => u = ow (sst (sst (sst σ 7 c t2) 8 c t3) 0 4 0) 1, fun r v => r = 1 ∧ v = sst (sst (sst (sst τ 0 0 0) 3 c t2) 4 c t3) 0 10 0, (hL_rate (by omega) (cP_rate hC hC4 hc h0 hw.2)).mono (fun k u hk => ?_), (cM_rate tC hC4).mono (fun r v hv => ?_), ?_⟩
      · obtain ⟨h1, r', u', ⟨e1, e2⟩, e3⟩ := hk
        exact ⟨h1, by rw [e3, e1, e2]; rfl⟩
      · rw [if_neg h0, if_neg (fun q => q hw)] at hv
        obtain ⟨c', e1, hc', e2, e3⟩ := hv
        rw [nI_eq (by omega) (by omega)] at e1
        subst e1
        rw [e3]; exact ⟨by rw [sst_i (by omega), sst_ne (by omega), sst_ne (by omega), sst_same], e2, rfl⟩
      · intro u r v hu hv
        obtain ⟨hr, hv⟩ := hv
        refine ⟨fun _ => by rw [hu, hr, ow_25]; rfl, ?_⟩
        rw [hu, hv]
        refine REL.cl (σ := sst (sst (sst σ 7 c t2) 8 c t3) 0 4 0) ?_ (fun q hq => ow_lt q hq)
        refine ⟨n, C, g, s, hh, ww, fun x => if x = c then a else mo x, fun x => if x = c then b else mi x, ou, false, fun _ => 9, hB.of (by simp only [sst_ne (show (1 : Nat) ≠ 0 by omega), sst_ne (show (1 : Nat) ≠ 8 by omega), sst_ne (show (1 : Nat) ≠ 7 by omega)]) (by simp only [sst_ne (show (5 : Nat) ≠ 0 by omega), sst_ne (show (5 : Nat) ≠ 8 by omega), sst_ne (show (5 : Nat) ≠ 7 by omega)]) (by simp only [sst_ne (show (6 : Nat) ≠ 0 by omega), sst_ne (show (6 : Nat) ≠ 8 by omega), sst_ne (show (6 : Nat) ≠ 7 by omega)]), ⟨hC1, hC4, by simp only [sst_ne (show (2 : Nat) ≠ 0 by omega), sst_ne (show (2 : Nat) ≠ 8 by omega), sst_ne (show (2 : Nat) ≠ 7 by omega)]; exact hC, fun x hx => ?_, fun x => ?_⟩, hS.of (by simp only [sst_ne (show (2 : Nat) ≠ 0 by omega), sst_ne (show (2 : Nat) ≠ 8 by omega), sst_ne (show (2 : Nat) ≠ 7 by omega)]), sst_same, ⟨hn8, hC1, hC4, hg3, hs20, ?_, ?_, ?_, ?_, fun x hx => ?_, fun x hx => ?_, hbb, hb0, fun x => ?_⟩, sst_same, fun q => (by cases q), fun _ => rfl⟩
        · simp only [sst_ne (show (7 : Nat) ≠ 0 by omega), sst_ne (show (7 : Nat) ≠ 8 by omega), sst_ne (show (8 : Nat) ≠ 0 by omega), sst_ne (show (9 : Nat) ≠ 0 by omega), sst_ne (show (9 : Nat) ≠ 8 by omega), sst_ne (show (9 : Nat) ≠ 7 by omega)]
          by_cases e : x = c
          · rw [e, sst_same, sst_same, if_pos rfl, if_pos rfl]; exact ⟨ea, eb, (hrt c (by omega)).2.2⟩
          · rw [sst_i e, sst_i e, sst_ne (by omega), if_neg e, if_neg e]; exact hrt x hx
        · by_cases e : x = c
          · simp only [if_pos e]; exact ⟨ha1, ha2, hb1, hb2⟩
          · simp only [if_neg e]; exact hbd x
        · rw [sst_i (by omega), sst_ne (by omega), sst_ne (by omega), sst_i (by omega)]; exact tn
        · rw [sst_i (by omega), sst_ne (by omega), sst_ne (by omega), sst_i (by omega)]; exact tC
        · rw [sst_i (by omega), sst_ne (by omega), sst_ne (by omega), sst_i (by omega)]; exact tg
        · rw [sst_i (by omega), sst_ne (by omega), sst_ne (by omega), sst_i (by omega)]; exact ts
        · simp only [sst_ne (show (1 : Nat) ≠ 0 by omega), sst_ne (show (1 : Nat) ≠ 4 by omega), sst_ne (show (1 : Nat) ≠ 3 by omega), sst_ne (show (2 : Nat) ≠ 0 by omega), sst_ne (show (2 : Nat) ≠ 4 by omega), sst_ne (show (2 : Nat) ≠ 3 by omega)]; exact tbw x hx
        · simp only [sst_ne (show (3 : Nat) ≠ 0 by omega), sst_ne (show (3 : Nat) ≠ 4 by omega), sst_ne (show (4 : Nat) ≠ 0 by omega), sst_ne (show (5 : Nat) ≠ 0 by omega), sst_ne (show (5 : Nat) ≠ 4 by omega), sst_ne (show (5 : Nat) ≠ 3 by omega)]
          by_cases e : x = c
          · rw [e, sst_same, sst_same, if_pos rfl, if_pos rfl]; exact ⟨ea, eb, (trt c (by omega)).2.2⟩
          · rw [sst_i e, sst_i e]; simp only [sst_ne (show (4 : Nat) ≠ 3 by omega), sst_ne (show (3 : Nat) ≠ 0 by omega), sst_ne (show (4 : Nat) ≠ 0 by omega)]; rw [if_neg e, if_neg e]; exact trt x hx
        · by_cases e : x = c
          · simp only [if_pos e]; exact ⟨ha1, ha2, hb1, hb2⟩
          · simp only [if_neg e]; exact hbd x
    · refine ⟨2, fun u => u = σ, fun _ v => LU τ v, hT_rate2 (tP_rate2 h0 (fun q => hw ⟨by rw [tC]; exact (hask_iff hC hC4).mp q.1, q.2⟩) htr), (cM_rate tC hC4).mono (fun r v hv => ?_), fun u r v hu hv => ⟨fun q => absurd q (by decide), by rw [hu]; exact (hd.lu hv).rel⟩⟩
      rw [if_neg h0, if_pos hw] at hv
      rw [hv]; exact ⟨sst_same, LU.thr⟩
theorem op_works {l : Launch} {D : va_G} {cI cZ cJ cL : ClassId} {ad am : Nat → Nat} {oa : Nat} {σ τ : xSg} (hR : REL σ τ) (htr : l.stackTraces = false) {t1 t2 : Int32} : ∃ (K : Int32) (GC : xSg → Prop) (GM : Int32 → xSg → Prop), xCh l D vCl (tyL cI cZ cJ cL) nwW (wH ad oa cI cZ cJ cL) yL_works (.codeWith yL_works bL_works 5 (some .int) [((0 : Nat), (10 : Nat), (13 : Nat), (26 : Nat)), ((0 : Nat), (10 : Nat), (17 : Nat), (15 : Nat))] :: bigW) 7 [.ref (ad 0), .int t1, .int t2, .ref oa] σ (fun k u => k = K ∧ GC u) ∧ xCi l D vCl (tyC cI cZ cJ) nwW (wM am cI cZ cJ) yM_works (.code yM_works bM_works 5 (some .int) :: bigW) 4 [.ref (am 0), .int t1, .int t2] τ (fun r v => v 0 0 = K ∧ GM r v) ∧ ∀ u r v, GC u → GM r v → (K = 0 → u 25 0 = r) ∧ REL u v := by
  obtain ⟨n, C, g, s, hh, ww, mo, mi, ou, pl, A, hd⟩ := hR
  obtain ⟨hB, hK, hS, h4, hP, h10, hpl, hno⟩ := id hd
  obtain ⟨hn8, hnt, hbw, hbb, hb0⟩ := id hB
  obtain ⟨hC1, hC4, hC, hrt, hbd⟩ := id hK
  obtain ⟨hg3, hs20, hg, hs⟩ := id hS
  obtain ⟨-, -, -, -, -, tn, tC, tg, ts, tbw, trt, -, -, -⟩ := id hP
  by_cases hv : ¬ t1 < 0 ∧ ¬ nI C ≤ t1
  · cases pl with
    | false =>
      refine ⟨2, fun u => u = σ, fun _ v => LU τ v, hT_works2 (tP_works2 ((hask_iff hC hC4).mpr hv) h4 htr), (cM_works hP h10 hd.pla).mono (fun r v hw => ⟨hw.1.trans (by unfold tW; rw [if_pos hv]; rfl), hw.2.1⟩), fun u r v hu hv => ⟨fun q => absurd q (by decide), by rw [hu]; exact (hd.lu hv).rel⟩⟩
    | true =>
      obtain ⟨c, rfl, hc⟩ := cr_ex rfl hC4 hv
      · have hT0 := (show tW C true (nI c) = 0 by unfold tW; rw [if_pos hv]; rfl)
        refine ⟨0, fun u => u = ow σ (oI (wkA A (fun b => cmA A (mvF hh ww) mo mi 8 g s (A b) b) (enA A (mvF hh ww) mo mi g s) c t2.toInt 8)), fun r v => r = (oI (wkA A (fun b => cmA A (mvF hh ww) mo mi 8 g s (A b) b) (enA A (mvF hh ww) mo mi g s) c t2.toInt 8)) ∧ LU τ v, (hL_works (by omega) (xCi0.toW (cP_works hB hK hS h4 (hd.PN rfl) hc))).mono (fun k u hk => ?_), (cM_works hP h10 hd.pla).mono (fun r v hv => ?_), fun u r v hu hv => ⟨fun _ => by rw [hu, hv.1]; exact ow_25, by rw [hu]; exact ((hd.lu hv.2).cl (fun q hq => ow_lt q hq)).rel⟩⟩
        · obtain ⟨h1, r', u', ⟨e1, e2⟩, e3⟩ := hk
          exact ⟨h1, by rw [e3, e1, e2]⟩
        · refine ⟨hv.1.trans hT0, ?_, hv.2.1⟩
          obtain ⟨c', e1, hc', e3⟩ := hv.2.2 hT0
          rw [nI_eq (by omega) (by omega)] at e1
          subst e1
          exact e3
  · refine ⟨1, fun u => u = σ, fun _ v => LU τ v, hT_works1 (tP_works1 (fun q => hv ((hask_iff hC hC4).mp q)) htr), (cM_works hP h10 hd.pla).mono (fun r v hw => ⟨hw.1.trans (if_neg hv), hw.2.1⟩), fun u r v hu hv => ⟨fun q => absurd q (by decide), by rw [hu]; exact (hd.lu hv).rel⟩⟩
theorem op_where {l : Launch} {D : va_G} {cI cZ cJ cL : ClassId} {ad am : Nat → Nat} {oa : Nat} {σ τ : xSg} (hR : REL σ τ) (htr : l.stackTraces = false) {t1 t2 : Int32} : ∃ (K : Int32) (GC : xSg → Prop) (GM : Int32 → xSg → Prop), xCh l D vCl (tyL cI cZ cJ cL) nwW (wH ad oa cI cZ cJ cL) yL_where (.codeWith yL_where bL_where 5 (some .int) [((0 : Nat), (10 : Nat), (13 : Nat), (26 : Nat)), ((0 : Nat), (10 : Nat), (17 : Nat), (15 : Nat))] :: bigW) 7 [.ref (ad 0), .int t1, .int t2, .ref oa] σ (fun k u => k = K ∧ GC u) ∧ xCi l D vCl (tyC cI cZ cJ) nwW (wM am cI cZ cJ) yM_where (.code yM_where bM_where 6 (some .int) :: bigW) 4 [.ref (am 0), .int t1, .int t2] τ (fun r v => v 0 0 = K ∧ GM r v) ∧ ∀ u r v, GC u → GM r v → (K = 0 → u 25 0 = r) ∧ REL u v := by
  obtain ⟨n, C, g, s, hh, ww, mo, mi, ou, pl, A, hd⟩ := hR
  obtain ⟨hB, hK, hS, h4, hP, h10, hpl, hno⟩ := id hd
  obtain ⟨hn8, hnt, hbw, hbb, hb0⟩ := id hB
  obtain ⟨hC1, hC4, hC, hrt, hbd⟩ := id hK
  obtain ⟨hg3, hs20, hg, hs⟩ := id hS
  obtain ⟨-, -, -, -, -, tn, tC, tg, ts, tbw, trt, -, -, -⟩ := id hP
  by_cases hv : (¬ t1 < 0 ∧ ¬ nI C ≤ t1) ∧ ¬ t2 < 0
  · cases pl with
    | false =>
      refine ⟨2, fun u => u = σ, fun _ v => LU τ v, hT_where2 (tP_where2 ⟨(hask_iff hC hC4).mpr hv.1, hv.2⟩ h4 htr), (cM_where hP h10 hd.pla).mono (fun r v hw => ⟨hw.1.trans (by unfold tH; rw [if_pos hv]; rfl), hw.2.1⟩), fun u r v hu hv => ⟨fun q => absurd q (by decide), by rw [hu]; exact (hd.lu hv).rel⟩⟩
    | true =>
      obtain ⟨c, rfl, hc⟩ := cr_ex rfl hC4 hv.1
      obtain ⟨t, ht, rfl⟩ := nI_of hv.2
      · have hT0 := (show tH C true (nI c) (nI t) = 0 by unfold tH; rw [if_pos hv]; rfl)
        refine ⟨0, fun u => u = ow σ (whA A (mvF hh ww) mo mi g s c t), fun r v => r = (whA A (mvF hh ww) mo mi g s c t) ∧ LU τ v, (hL_where (by omega) (xCi0.toW (cP_where hB hK hS h4 (hd.PN rfl) hc ht))).mono (fun k u hk => ?_), (cM_where hP h10 hd.pla).mono (fun r v hv => ?_), fun u r v hu hv => ⟨fun _ => by rw [hu, hv.1]; exact ow_25, by rw [hu]; exact ((hd.lu hv.2).cl (fun q hq => ow_lt q hq)).rel⟩⟩
        · obtain ⟨h1, r', u', ⟨e1, e2⟩, e3⟩ := hk
          exact ⟨h1, by rw [e3, e1, e2]⟩
        · refine ⟨hv.1.trans hT0, ?_, hv.2.1⟩
          obtain ⟨c', t', e1, hc', e2, ht', e3⟩ := hv.2.2 hT0
          rw [nI_eq (by omega) (by omega)] at e1
          rw [nI_eq ht ht'] at e2
          subst e1; subst e2
          exact e3
  · refine ⟨1, fun u => u = σ, fun _ v => LU τ v, hT_where1 (tP_where1 (fun q => hv ⟨(hask_iff hC hC4).mp q.1, q.2⟩) htr), (cM_where hP h10 hd.pla).mono (fun r v hw => ⟨hw.1.trans (if_neg hv), hw.2.1⟩), fun u r v hu hv => ⟨fun q => absurd q (by decide), by rw [hu]; exact (hd.lu hv).rel⟩⟩
theorem op_look {l : Launch} {D : va_G} {cI cZ cJ cL : ClassId} {ad am : Nat → Nat} {oa : Nat} {σ τ : xSg} (hR : REL σ τ) (htr : l.stackTraces = false) {t1 t2 : Int32} : ∃ (K : Int32) (GC : xSg → Prop) (GM : Int32 → xSg → Prop), xCh l D vCl (tyL cI cZ cJ cL) nwW (wH ad oa cI cZ cJ cL) yL_look (.codeWith yL_look bL_look 5 (some .int) [((0 : Nat), (10 : Nat), (13 : Nat), (26 : Nat))] :: bigW) 7 [.ref (ad 0), .int t1, .int t2, .ref oa] σ (fun k u => k = K ∧ GC u) ∧ xCi l D vCl (tyC cI cZ cJ) nwW (wM am cI cZ cJ) yM_look (.code yM_look bM_look 3 (some .int) :: bigW) 1 [.ref (am 0), .int t1, .int t2] τ (fun r v => v 0 0 = K ∧ GM r v) ∧ ∀ u r v, GC u → GM r v → (K = 0 → u 25 0 = r) ∧ REL u v := by
  obtain ⟨n, C, g, s, hh, ww, mo, mi, ou, pl, A, hd⟩ := hR
  obtain ⟨hB, hK, hS, h4, hP, h10, hpl, hno⟩ := id hd
  obtain ⟨hn8, hnt, hbw, hbb, hb0⟩ := id hB
  obtain ⟨hC1, hC4, hC, hrt, hbd⟩ := id hK
  obtain ⟨hg3, hs20, hg, hs⟩ := id hS
  obtain ⟨-, -, -, -, -, tn, tC, tg, ts, tbw, trt, -, -, -⟩ := id hP
  by_cases hv : (¬ t1 < 0 ∧ ¬ nI n ≤ t1) ∧ (¬ t2 < 0 ∧ ¬ (2 : Int32) < t2)
  · obtain ⟨b, hb0', rfl⟩ := nI_of hv.1.1
    have hb : b < n := by have := hv.1.2; rw [nI_leI (by omega) hb0'] at this; omega
    · have hT0 := (show tLk n (nI b) t2 = 0 from if_pos hv)
      refine ⟨0, fun u => u = ow σ (if t2 = 0 then nI (hh b) else if t2 = 1 then nI (ww b) else if pl = true then aI (A b) else -1), fun r v => r = (if t2 = 0 then nI (hh b) else if t2 = 1 then nI (ww b) else if pl = true then aI (A b) else -1) ∧ LU τ v, (hL_look (by omega) (xCi0.toW (cP_look hB hK hS h4 hd.PN hb hv.2))).mono (fun k u hk => ?_), (cM_look hP h10 hd.pla).mono (fun r v hv => ?_), fun u r v hu hv => ⟨fun _ => by rw [hu, hv.1]; exact ow_25, by rw [hu]; exact ((hd.lu hv.2).cl (fun q hq => ow_lt q hq)).rel⟩⟩
      · obtain ⟨h1, r', u', ⟨e1, e2⟩, e3⟩ := hk
        exact ⟨h1, by rw [e3, e1, e2]⟩
      · refine ⟨hv.1.trans hT0, ?_, hv.2.1⟩
        obtain ⟨b', e1, hb', e3⟩ := hv.2.2 hT0
        rw [nI_eq (by omega) (by omega)] at e1
        subst e1
        exact e3
  · refine ⟨1, fun u => u = σ, fun _ v => LU τ v, hT_look1 (tP_look1 (fun q => hv ⟨(hasb_iff hnt hn8).mp q.1, q.2⟩) htr), (cM_look hP h10 hd.pla).mono (fun r v hw => ⟨hw.1.trans (if_neg hv), hw.2.1⟩), fun u r v hu hv => ⟨fun q => absurd q (by decide), by rw [hu]; exact (hd.lu hv).rel⟩⟩
theorem op_row {l : Launch} {D : va_G} {cI cZ cJ cL : ClassId} {ad am : Nat → Nat} {oa : Nat} {σ τ : xSg} (hR : REL σ τ) (htr : l.stackTraces = false) {t1 t2 : Int32} : ∃ (K : Int32) (GC : xSg → Prop) (GM : Int32 → xSg → Prop), xCh l D vCl (tyL cI cZ cJ cL) nwW (wH ad oa cI cZ cJ cL) yL_row (.codeWith yL_row bL_row 5 (some .int) [((0 : Nat), (10 : Nat), (13 : Nat), (15 : Nat)), ((0 : Nat), (10 : Nat), (17 : Nat), (26 : Nat))] :: bigW) 7 [.ref (ad 0), .int t1, .int t2, .ref oa] σ (fun k u => k = K ∧ GC u) ∧ xCi l D vCl (tyC cI cZ cJ) nwW (wM am cI cZ cJ) yM_row (.code yM_row bM_row 8 (some .int) :: bigW) 4 [.ref (am 0), .int t1, .int t2] τ (fun r v => v 0 0 = K ∧ GM r v) ∧ ∀ u r v, GC u → GM r v → (K = 0 → u 25 0 = r) ∧ REL u v := by
  obtain ⟨n, C, g, s, hh, ww, mo, mi, ou, pl, A, hd⟩ := hR
  obtain ⟨hB, hK, hS, h4, hP, h10, hpl, hno⟩ := id hd
  obtain ⟨hn8, hnt, hbw, hbb, hb0⟩ := id hB
  obtain ⟨hC1, hC4, hC, hrt, hbd⟩ := id hK
  obtain ⟨hg3, hs20, hg, hs⟩ := id hS
  obtain ⟨-, -, -, -, -, tn, tC, tg, ts, tbw, trt, -, -, -⟩ := id hP
  cases pl with
  | false =>
    refine ⟨1, fun u => u = σ, fun _ v => LU τ v, hT_row1 (tP_row1 h4 htr), (cM_row hP h10 hd.pla (L := []) (fun q => (by cases q))).mono (fun r v hw => ⟨hw.1.trans (if_neg (by decide)), hw.2.1⟩), fun u r v hu hv => ⟨fun q => absurd q (by decide), by rw [hu]; exact (hd.lu hv).rel⟩⟩
  | true =>
    obtain ⟨L, hL⟩ := (hd.PN rfl).2.2
    have hl8 := hL.len
    have hLl : L.length = cntB (fun b => decide (A b < 4)) n := by
      rw [hL.2.2.2.length_eq, fil_len]
      have := cntB_flat (P := fun b => decide (A b < 4)) (k := n) (fun c hc => by cases hq : decide (A c < 4) with | false => rfl | true => have := hd.An c (of_decide_eq_true hq); omega) (8 - n)
      rw [show n + (8 - n) = 8 by omega] at this
      exact this
    by_cases hv : (¬ t1 < 0 ∧ ¬ nI (cntB (fun b => decide (A b < 4)) n) ≤ t1) ∧ (¬ t2 < 0 ∧ ¬ (3 : Int32) < t2)
    · obtain ⟨i, hi0, rfl⟩ := nI_of hv.1.1
      have hi : i < L.length := by have := hv.1.2; rw [← hLl, nI_leI (by omega) hi0] at this; omega
      · have hT0 := (show tRw true (cntB (fun b => decide (A b < 4)) n) (nI i) t2 = 0 by unfold tRw; rw [if_pos rfl, if_pos hv])
        refine ⟨0, fun u => u = ow σ (rwA A (fun b => cmA A (mvF hh ww) mo mi 8 g s (A b) b) (enA A (mvF hh ww) mo mi g s) (L.getD i 0) t2), fun r v => r = (rwA A (fun b => cmA A (mvF hh ww) mo mi 8 g s (A b) b) (enA A (mvF hh ww) mo mi g s) (L.getD i 0) t2) ∧ LU τ v, (hL_row (by omega) (xCi0.toW (cP_row hB hK hS h4 (hd.PN rfl) hd.An hL hi hv.2))).mono (fun k u hk => ?_), (cM_row hP h10 hd.pla (L := L) (fun _ => ⟨hL.2.2.1, hL.2.2.2⟩)).mono (fun r v hv => ?_), fun u r v hu hv => ⟨fun _ => by rw [hu, hv.1]; exact ow_25, by rw [hu]; exact ((hd.lu hv.2).cl (fun q hq => ow_lt q hq)).rel⟩⟩
        · obtain ⟨h1, r', u', ⟨e1, e2⟩, e3⟩ := hk
          exact ⟨h1, by rw [e3, e1, e2]⟩
        · refine ⟨hv.1.trans hT0, ?_, hv.2.1⟩
          obtain ⟨j, e1, hj, e3⟩ := hv.2.2 hT0
          rw [nI_eq (by omega) (by omega)] at e1
          subst e1
          exact e3
    · refine ⟨2, fun u => u = σ, fun _ v => LU τ v, hT_row2 (tP_row2 (by rw [h4]; decide) (fun q => hv ⟨by rw [← hLl]; exact (rows_out hl8).mp (by rw [← hL.1]; exact q.1), q.2⟩) htr), (cM_row hP h10 hd.pla (L := L) (fun _ => ⟨hL.2.2.1, hL.2.2.2⟩)).mono (fun r v hw => ⟨hw.1.trans (by unfold tRw; rw [if_pos rfl, if_neg hv]), hw.2.1⟩), fun u r v hu hv => ⟨fun q => absurd q (by decide), by rw [hu]; exact (hd.lu hv).rel⟩⟩
theorem op_fails {l : Launch} {D : va_G} {cI cZ cJ cL : ClassId} {ad am : Nat → Nat} {oa : Nat} {σ τ : xSg} (hR : REL σ τ) (htr : l.stackTraces = false) {t1 t2 : Int32} : ∃ (K : Int32) (GC : xSg → Prop) (GM : Int32 → xSg → Prop), xCh l D vCl (tyL cI cZ cJ cL) nwW (wH ad oa cI cZ cJ cL) yL_fails (.codeWith yL_fails bL_fails 5 (some .int) [((0 : Nat), (10 : Nat), (13 : Nat), (26 : Nat)), ((0 : Nat), (10 : Nat), (17 : Nat), (13 : Nat)), ((0 : Nat), (10 : Nat), (21 : Nat), (15 : Nat))] :: bigW) 7 [.ref (ad 0), .int t1, .int t2, .ref oa] σ (fun k u => k = K ∧ GC u) ∧ xCi l D vCl (tyC cI cZ cJ) nwW (wM am cI cZ cJ) yM_fails (.code yM_fails bM_fails 11 (some .int) :: bigW) 4 [.ref (am 0), .int t1, .int t2] τ (fun r v => v 0 0 = K ∧ GM r v) ∧ ∀ u r v, GC u → GM r v → (K = 0 → u 25 0 = r) ∧ REL u v := by
  obtain ⟨n, C, g, s, hh, ww, mo, mi, ou, pl, A, hd⟩ := hR
  obtain ⟨hB, hK, hS, h4, hP, h10, hpl, hno⟩ := id hd
  obtain ⟨hn8, hnt, hbw, hbb, hb0⟩ := id hB
  obtain ⟨hC1, hC4, hC, hrt, hbd⟩ := id hK
  obtain ⟨hg3, hs20, hg, hs⟩ := id hS
  obtain ⟨-, -, -, -, -, tn, tC, tg, ts, tbw, trt, -, -, -⟩ := id hP
  by_cases hv : ¬ t1 < 0 ∧ ¬ nI C ≤ t1
  · obtain ⟨c, rfl, hc⟩ := cr_ex rfl hC4 hv
    have e9 := (hrt c (by omega)).2.2
    have ecl : (nI c).toNatClampNeg = c := nI_clamp (by omega)
    by_cases ho : t2 < 0 ∨ ou c = true
    · refine ⟨2, fun u => u = σ, fun _ v => LU τ v, hT_fails2 (tP_fails2 hC hC4 hc (ho.imp id (fun q => by rw [e9, bI_t q]; decide)) htr), (cM_fails hP h10 hd.pla).mono (fun r v hw => ⟨hw.1.trans (by unfold tF; rw [ecl, if_pos hv, if_pos ho]), hw.2.1 (by rw [show tF C pl ou (nI c) t2 = 2 from by unfold tF; rw [ecl, if_pos hv, if_pos ho]]; decide)⟩), fun u r v hu hv => ⟨fun q => absurd q (by decide), by rw [hu]; exact (hd.lu hv).rel⟩⟩
    · have ht0 : ¬ t2 < 0 := fun q => ho (Or.inl q)
      have ho0 : σ 9 c = 0 := by rw [e9]; exact bI_f (fun q => ho (Or.inr q))
      by_cases hp : pl = true
      · obtain ⟨t, ht, rfl⟩ := nI_of ht0
        have hT0 : tF C pl ou (nI c) (nI t) = 0 := by unfold tF; rw [ecl, if_pos hv, if_neg ho, if_pos hp]
        refine ⟨0, fun u => ∃ r u', (SBC u' n C g s (hNw A hh ww mo mi g s t) (wNw A hh ww mo mi g s t) mo mi (ouN ou c) r ∧ PB u' n (hNw A hh ww mo mi g s t) (wNw A hh ww mo mi g s t) ∧ PK u' C mo mi (ouN ou c) ∧ PS u' g s) ∧ u = ow u' r, fun r v => PM v n C g s (hNw A hh ww mo mi g s t) (wNw A hh ww mo mi g s t) mo mi (ouN ou c) ∧ SB v n C g s (hNw A hh ww mo mi g s t) (wNw A hh ww mo mi g s t) mo mi (ouN ou c) r, (hL_fails (by omega) (cP_fails hB hK hS (by rw [h4, bI_t hp]) (hd.PN hp) hd.AC hc ho0 ht)).mono (fun k u hk => hk), (cM_fails hP h10 hd.pla).mono (fun r v hw => ?_), fun u r v hu hw => ?_⟩
        · refine ⟨hw.1.trans hT0, ?_⟩
          obtain ⟨c', t', e1, hc', e2, ht', e3, e4⟩ := hw.2.2 hT0
          rw [nI_eq (by omega) (by omega)] at e1
          rw [nI_eq ht ht'] at e2
          subst e1; subst e2
          exact ⟨e3, e4⟩
        · obtain ⟨r', u', ⟨s1, s2, s3, s4⟩, rfl⟩ := hu
          obtain ⟨b1, b2⟩ := both_plan s2 s3 s4 hw.1 s1 hw.2
          exact ⟨fun _ => by rw [ow_25]; exact b1, b2.cl (fun q hq => ow_lt q hq)⟩
      · refine ⟨3, fun u => u = σ, fun _ v => LU τ v, hT_fails3 (tP_fails3 hC hC4 hc ht0 ho0 (by rw [h4]; exact bI_f hp) htr), (cM_fails hP h10 hd.pla).mono (fun r v hw => ⟨hw.1.trans (by unfold tF; rw [ecl, if_pos hv, if_neg ho, if_neg hp]), hw.2.1 (by rw [show tF C pl ou (nI c) t2 = 3 from by unfold tF; rw [ecl, if_pos hv, if_neg ho, if_neg hp]]; decide)⟩), fun u r v hu hv => ⟨fun q => absurd q (by decide), by rw [hu]; exact (hd.lu hv).rel⟩⟩
  · refine ⟨1, fun u => u = σ, fun _ v => LU τ v, hT_fails1 (tP_fails1 (fun q => hv ((hask_iff hC hC4).mp q)) htr), (cM_fails hP h10 hd.pla).mono (fun r v hw => ⟨hw.1.trans (if_neg hv), hw.2.1 (by rw [show tF C pl ou t1 t2 = 1 from if_neg hv]; decide)⟩), fun u r v hu hv => ⟨fun q => absurd q (by decide), by rw [hu]; exact (hd.lu hv).rel⟩⟩
