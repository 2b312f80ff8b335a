/-! Search: share, nextChoice -/
/-- the able crane of a number -/
def HO (σ u : xSg) : Prop := ∀ q, q ≠ 3 → q ≠ 10 → q ≠ 13 → q ≠ 14 → u q = σ q
theorem HO.rf {σ : xSg} : HO σ σ := fun _ _ _ _ _ => rfl
theorem HO.tr {σ u v : xSg} (h1 : HO σ u) (h2 : HO u v) : HO σ v := fun q a b c d => (h2 q a b c d).trans (h1 q a b c d)
theorem gDn_mapL {xs : List Nat} {f : Nat → Nat} {i : Nat} (h : i < xs.length) : gDn (xs.map f) i = f (gDn xs i) := by
  unfold gDn; simp [List.getD_eq_getElem?_getD, h]
theorem spA_9 : ∀ {k : Nat}, k ≤ 4 → spA (fun _ => 9) 8 k = 0
  | 0, _ => rfl
  | k + 1, hk => by
    have := spA_9 (k := k) (by omega)
    unfold spA
    rw [this, fstA_none.mpr (fun b _ => by show (9 : Nat) ≠ k; omega), lstA_none.mpr (fun b _ => by show (9 : Nat) ≠ k; omega)]
    rfl
set_option maxHeartbeats 4000000 in
set_option maxRecDepth 100000 in
theorem cS_share23 {l : Launch} {D : va_G} {cI cZ cJ : ClassId} {ad : Nat → Nat} {σ : xSg} {n C na : Nat} {hh ww ab : Nat → Nat} {xs : List Nat} (hB : PB σ n hh ww) (hC : σ 2 0 = nI C) (hC4 : C ≤ 4) (h47 : σ 4 7 = nI (cntB (bzF hh ww) 8)) (hbu : ∀ b, b < 8 → bzF hh ww b = true → σ 21 (cntB (bzF hh ww) b) = nI b) (h48 : σ 4 8 = nI na) (hna : na ≤ 4) (hab : ∀ i, i < na → σ 22 i = nI (ab i) ∧ ab i < C) (hlx : xs.length = cntB (bzF hh ww) 8) (hxs : ∀ i, i < xs.length → σ 23 i = nI (gDn xs i) ∧ gDn xs i < na) : xCv l D vCl (tyC cI cZ cJ) nwW (wC ad cI cZ cJ) yS_share (.code yS_share bS_share 3 none :: bigW) 2 [.ref (ad 4), .ref (ad 23)] σ (fun u => TS u (prA (bzF hh ww) (xs.map ab) (cntB (bzF hh ww) 8)) ∧ u 3 11 = nI (spA (prA (bzF hh ww) (xs.map ab) (cntB (bzF hh ww) 8)) 8 4) ∧ u 3 9 = 0 ∧ u 3 10 = 0 ∧ HO σ u) := by
  refine xCv.of (cc := bS_share) (nL := 3) (ret := none) rfl (by decide) [.ref (ad 4), .ref (ad 23), .null] rfl (Nat.le_of_ble_eq_true rfl) ?_
  intro pp ee ss mm aa bb me cde AA G hr hlk
  obtain ⟨hn8, hnt, hbw, hbb, hb0⟩ := id hB
  have hcl := cntB_le (bz := bzF hh ww) 8
  have loop : ∀ (j k : Nat), k + j = cntB (bzF hh ww) 8 → ∀ (σ1 : xSg), TS σ1 (prA (bzF hh ww) (xs.map ab) k) → σ1 3 11 = nI (spA (prA (bzF hh ww) (xs.map ab) k) 8 4) → σ1 3 9 = 0 → σ1 3 10 = 0 → HO σ σ1 → xJ pp l ee { frames := 2, cells := 0, slots := 0, locals := 40 * 2 } ss mm aa bb me cde 0 0 (MQ bb (va_Qv (fun u => TS u (prA (bzF hh ww) (xs.map ab) (cntB (bzF hh ww) 8)) ∧ u 3 11 = nI (spA (prA (bzF hh ww) (xs.map ab) (cntB (bzF hh ww) 8)) 8 4) ∧ u 3 9 = 0 ∧ u 3 10 = 0 ∧ HO σ u) (fun u t => va_P D vCl (wC ad cI cZ cJ u) t.heap ∧ va_D AA (wC ad cI cZ cJ u)) AA) aa ss 0 0 AA) D vCl AA 3 (va_S AA ss.heap) (wC ad cI cZ cJ σ1) [.ref (ad 4), .ref (ad 23), .int (nI k)] 9 [] := by
    intro j
    induction j with
    | zero =>
      intro k hk σ1 g1 g2 g3 g4 g5
      have hk : k = cntB (bzF hh ww) 8 := by omega
      subst hk
      have e4 : σ1 4 = σ 4 := g5 4 (by omega) (by omega) (by omega) (by omega)
      refine x_iload_n G 2 dS_share_9 rfl rfl ?_
      refine x_aload_n G 0 dS_share_10 rfl rfl ?_
      refine x_get G 4 rfl rfl 7 (by decide) rfl (fun w h => .tail _ (iS_ok w h)) (.tail _ wd_197) rfl dS_share_11 ?_
      refine x_icmp_ge G 66 dS_share_14 (by decide) (fun h14 => ?_) (fun h14 => (by rw [e4, h47] at h14; exact absurd (nI_le (Nat.le_refl _) (by omega)) h14))
      exact x_retv G hr hlk dS_share_66 ⟨g1, g2, g3, g4, g5⟩
    | succ j ih =>
      intro k hk σ1 g1 g2 g3 g4 g5
      have e4 : σ1 4 = σ 4 := g5 4 (by omega) (by omega) (by omega) (by omega)
      have eq : σ1 23 = σ 23 := g5 23 (by omega) (by omega) (by omega) (by omega)
      obtain ⟨b, hb8, hbz, hbk⟩ := cntB_has (bz := bzF hh ww) (n := 8) (i := k) (by omega)
      obtain ⟨hx1, hx2⟩ := hxs k (by omega)
      obtain ⟨ha1, ha2⟩ := hab _ hx2
      have hbn : b < n := by
        rcases Nat.lt_or_ge b n with z | z
        · exact z
        · have := hb0 b z; have hz : 0 < mvF hh ww b := of_decide_eq_true hbz; unfold mvF at hz; omega
      have hgk : gDn (xs.map ab) k = ab (gDn xs k) := gDn_mapL (by omega)
      refine x_iload_n G 2 dS_share_9 rfl rfl ?_
      refine x_aload_n G 0 dS_share_10 rfl rfl ?_
      refine x_get G 4 rfl rfl 7 (by decide) rfl (fun w h => .tail _ (iS_ok w h)) (.tail _ wd_197) rfl dS_share_11 ?_
      refine x_icmp_ge G 66 dS_share_14 (by decide) (fun h14 => (by rw [e4, h47] at h14; exact absurd h14 (nI_ge (by omega) (by omega)))) (fun h14 => ?_)
      refine x_iload_n G 2 dS_share_17 rfl rfl ?_
      refine x_aload_n G 1 dS_share_18 rfl rfl ?_
      refine x_alen G 23 0 rfl rfl 8 rfl dS_share_19 ?_
      refine x_icmp_ge G 66 dS_share_20 (by decide) (fun h20 => (by exact absurd h20 (nI_ge (show k < 8 by omega) (by decide)))) (fun h20 => ?_)
      refine x_aload_n G 1 dS_share_23 rfl rfl ?_
      refine x_iload_n G 2 dS_share_24 rfl rfl ?_
      refine x_ialdN G 23 0 rfl rfl (by omega) (by decide) dS_share_25 ?_
      refine x_if_lt G 60 dS_share_26 (by decide) (fun h26 => (by rw [eq, hx1] at h26; exact absurd h26 (nI_pos (by omega)))) (fun h26 => ?_)
      refine x_aload_n G 1 dS_share_29 rfl rfl ?_
      refine x_iload_n G 2 dS_share_30 rfl rfl ?_
      refine x_ialdN G 23 0 rfl rfl (by omega) (by decide) dS_share_31 ?_
      refine x_aload_n G 0 dS_share_32 rfl rfl ?_
      refine x_get G 4 rfl rfl 8 (by decide) rfl (fun w h => .tail _ (iS_ok w h)) (.tail _ wd_198) rfl dS_share_33 ?_
      refine x_icmp_ge G 60 dS_share_36 (by decide) (fun h36 => (by rw [eq, hx1, e4, h48] at h36; exact absurd h36 (nI_ge hx2 (by omega)))) (fun h36 => ?_)
      refine x_aload_n G 0 dS_share_39 rfl rfl ?_
      refine x_get G 4 rfl rfl 2 (by decide) rfl (fun w h => .tail _ (iS_ok w h)) (.tail _ wd_192) rfl dS_share_40 ?_
      refine x_aload_n G 0 dS_share_43 rfl rfl ?_
      refine x_get G 4 rfl rfl 3 (by decide) rfl (fun w h => .tail _ (iS_ok w h)) (.tail _ wd_193) rfl dS_share_44 ?_
      refine x_iload_n G 2 dS_share_47 rfl rfl ?_
      refine x_ialdN G 21 0 rfl rfl (by omega) (by decide) dS_share_48 ?_
      refine x_top (z := nI b) (by rw [g5 21 (by omega) (by omega) (by omega) (by omega), ← hbk]; exact hbu b hb8 hbz) ?_
      refine x_aload_n G 0 dS_share_49 rfl rfl ?_
      refine x_get G 4 rfl rfl 4 (by decide) rfl (fun w h => .tail _ (iS_ok w h)) (.tail _ wd_194) rfl dS_share_50 ?_
      refine x_aload_n G 1 dS_share_53 rfl rfl ?_
      refine x_iload_n G 2 dS_share_54 rfl rfl ?_
      refine x_ialdN G 23 0 rfl rfl (by omega) (by decide) dS_share_55 ?_
      refine x_top (z := nI (gDn xs k)) (by rw [eq]; exact hx1) ?_
      refine x_ialdN G 22 0 rfl rfl (by omega) (by decide) dS_share_56 ?_
      refine x_top (z := nI (ab (gDn xs k))) (by rw [g5 22 (by omega) (by omega) (by omega) (by omega)]; exact ha1) ?_
      refine x_callVN2v G (cT_give (n := n) (C := C) (by rw [g5 1 (by omega) (by omega) (by omega) (by omega)]; exact hnt) hn8 (by rw [g5 2 (by omega) (by omega) (by omega) (by omega)]; exact hC) hC4 g1 g2 hbn ha2 (prA_above hbz hbk)) 3 rfl rfl (cVN G.2.2.2.2.1 G.2.2.2.2.2.2.1 nd_280 wd_282 wd_8 wd_53 wd_283 (by decide +kernel) ⟨(Nat.le_of_ble_eq_true rfl), (Nat.le_of_ble_eq_true rfl)⟩) dS_share_57 (Nat.le_of_ble_eq_true rfl) ⟨Nat.zero_le _, Nat.zero_le _⟩ (fun u57 e57 => ?_)
      obtain ⟨q1, q2, q3, q4, q5⟩ := e57
      rw [← hgk, ← prA_succ hbz hbk] at q1
      refine x_iinc G (nI (k + 1)) dS_share_60 rfl (nI_1 k) (by decide) ?_
      refine x_goto G 9 dS_share_63 (by decide) ?_
      exact ih (k + 1) (by omega) _ q1 (by rw [q2, prA_succ hbz hbk, hgk, spA_up (prA_above hbz hbk) (by omega) (by omega) (Nat.le_refl 4), if_pos (by omega)]) (q3.trans g3) (q4.trans g4) (g5.tr q5)
  refine x_aload_n G 0 dS_share_0 rfl rfl ?_
  refine x_get G 4 rfl rfl 2 (by decide) rfl (fun w h => .tail _ (iS_ok w h)) (.tail _ wd_192) rfl dS_share_1 ?_
  refine x_callVN0v G cT_clear 3 rfl rfl (cVN G.2.2.2.2.1 G.2.2.2.2.2.2.1 nd_275 wd_277 wd_7 wd_53 wd_278 (by decide +kernel) ⟨(Nat.le_of_ble_eq_true rfl), (Nat.le_of_ble_eq_true rfl)⟩) dS_share_4 (Nat.le_of_ble_eq_true rfl) ⟨Nat.zero_le _, Nat.zero_le _⟩ (fun u4 e4 => ?_)
  subst e4
  refine x_iconst G (0) dS_share_7 (by decide) ?_
  refine x_istore_n G 2 dS_share_8 rfl (by decide) ?_
  exact loop (cntB (bzF hh ww) 8) 0 (by omega) _ (by rw [prA_0]; exact clr_TS) (by rw [prA_0, spA_9 (Nat.le_refl 4), clr_11]; rfl) clr_9 clr_10 (fun q a b c d => clr_o a b c d)
set_option maxHeartbeats 4000000 in
set_option maxRecDepth 100000 in
theorem cS_share24 {l : Launch} {D : va_G} {cI cZ cJ : ClassId} {ad : Nat → Nat} {σ : xSg} {n C na : Nat} {hh ww ab : Nat → Nat} {xs : List Nat} (hB : PB σ n hh ww) (hC : σ 2 0 = nI C) (hC4 : C ≤ 4) (h47 : σ 4 7 = nI (cntB (bzF hh ww) 8)) (hbu : ∀ b, b < 8 → bzF hh ww b = true → σ 21 (cntB (bzF hh ww) b) = nI b) (h48 : σ 4 8 = nI na) (hna : na ≤ 4) (hab : ∀ i, i < na → σ 22 i = nI (ab i) ∧ ab i < C) (hlx : xs.length = cntB (bzF hh ww) 8) (hxs : ∀ i, i < xs.length → σ 24 i = nI (gDn xs i) ∧ gDn xs i < na) : xCv l D vCl (tyC cI cZ cJ) nwW (wC ad cI cZ cJ) yS_share (.code yS_share bS_share 3 none :: bigW) 2 [.ref (ad 4), .ref (ad 24)] σ (fun u => TS u (prA (bzF hh ww) (xs.map ab) (cntB (bzF hh ww) 8)) ∧ u 3 11 = nI (spA (prA (bzF hh ww) (xs.map ab) (cntB (bzF hh ww) 8)) 8 4) ∧ u 3 9 = 0 ∧ u 3 10 = 0 ∧ HO σ u) := by
  refine xCv.of (cc := bS_share) (nL := 3) (ret := none) rfl (by decide) [.ref (ad 4), .ref (ad 24), .null] rfl (Nat.le_of_ble_eq_true rfl) ?_
  intro pp ee ss mm aa bb me cde AA G hr hlk
  obtain ⟨hn8, hnt, hbw, hbb, hb0⟩ := id hB
  have hcl := cntB_le (bz := bzF hh ww) 8
  have loop : ∀ (j k : Nat), k + j = cntB (bzF hh ww) 8 → ∀ (σ1 : xSg), TS σ1 (prA (bzF hh ww) (xs.map ab) k) → σ1 3 11 = nI (spA (prA (bzF hh ww) (xs.map ab) k) 8 4) → σ1 3 9 = 0 → σ1 3 10 = 0 → HO σ σ1 → xJ pp l ee { frames := 2, cells := 0, slots := 0, locals := 40 * 2 } ss mm aa bb me cde 0 0 (MQ bb (va_Qv (fun u => TS u (prA (bzF hh ww) (xs.map ab) (cntB (bzF hh ww) 8)) ∧ u 3 11 = nI (spA (prA (bzF hh ww) (xs.map ab) (cntB (bzF hh ww) 8)) 8 4) ∧ u 3 9 = 0 ∧ u 3 10 = 0 ∧ HO σ u) (fun u t => va_P D vCl (wC ad cI cZ cJ u) t.heap ∧ va_D AA (wC ad cI cZ cJ u)) AA) aa ss 0 0 AA) D vCl AA 3 (va_S AA ss.heap) (wC ad cI cZ cJ σ1) [.ref (ad 4), .ref (ad 24), .int (nI k)] 9 [] := by
    intro j
    induction j with
    | zero =>
      intro k hk σ1 g1 g2 g3 g4 g5
      have hk : k = cntB (bzF hh ww) 8 := by omega
      subst hk
      have e4 : σ1 4 = σ 4 := g5 4 (by omega) (by omega) (by omega) (by omega)
      refine x_iload_n G 2 dS_share_9 rfl rfl ?_
      refine x_aload_n G 0 dS_share_10 rfl rfl ?_
      refine x_get G 4 rfl rfl 7 (by decide) rfl (fun w h => .tail _ (iS_ok w h)) (.tail _ wd_197) rfl dS_share_11 ?_
      refine x_icmp_ge G 66 dS_share_14 (by decide) (fun h14 => ?_) (fun h14 => (by rw [e4, h47] at h14; exact absurd (nI_le (Nat.le_refl _) (by omega)) h14))
      exact x_retv G hr hlk dS_share_66 ⟨g1, g2, g3, g4, g5⟩
    | succ j ih =>
      intro k hk σ1 g1 g2 g3 g4 g5
      have e4 : σ1 4 = σ 4 := g5 4 (by omega) (by omega) (by omega) (by omega)
      have eq : σ1 24 = σ 24 := g5 24 (by omega) (by omega) (by omega) (by omega)
      obtain ⟨b, hb8, hbz, hbk⟩ := cntB_has (bz := bzF hh ww) (n := 8) (i := k) (by omega)
      obtain ⟨hx1, hx2⟩ := hxs k (by omega)
      obtain ⟨ha1, ha2⟩ := hab _ hx2
      have hbn : b < n := by
        rcases Nat.lt_or_ge b n with z | z
        · exact z
        · have := hb0 b z; have hz : 0 < mvF hh ww b := of_decide_eq_true hbz; unfold mvF at hz; omega
      have hgk : gDn (xs.map ab) k = ab (gDn xs k) := gDn_mapL (by omega)
      refine x_iload_n G 2 dS_share_9 rfl rfl ?_
      refine x_aload_n G 0 dS_share_10 rfl rfl ?_
      refine x_get G 4 rfl rfl 7 (by decide) rfl (fun w h => .tail _ (iS_ok w h)) (.tail _ wd_197) rfl dS_share_11 ?_
      refine x_icmp_ge G 66 dS_share_14 (by decide) (fun h14 => (by rw [e4, h47] at h14; exact absurd h14 (nI_ge (by omega) (by omega)))) (fun h14 => ?_)
      refine x_iload_n G 2 dS_share_17 rfl rfl ?_
      refine x_aload_n G 1 dS_share_18 rfl rfl ?_
      refine x_alen G 24 0 rfl rfl 8 rfl dS_share_19 ?_
      refine x_icmp_ge G 66 dS_share_20 (by decide) (fun h20 => (by exact absurd h20 (nI_ge (show k < 8 by omega) (by decide)))) (fun h20 => ?_)
      refine x_aload_n G 1 dS_share_23 rfl rfl ?_
      refine x_iload_n G 2 dS_share_24 rfl rfl ?_
      refine x_ialdN G 24 0 rfl rfl (by omega) (by decide) dS_share_25 ?_
      refine x_if_lt G 60 dS_share_26 (by decide) (fun h26 => (by rw [eq, hx1] at h26; exact absurd h26 (nI_pos (by omega)))) (fun h26 => ?_)
      refine x_aload_n G 1 dS_share_29 rfl rfl ?_
      refine x_iload_n G 2 dS_share_30 rfl rfl ?_
      refine x_ialdN G 24 0 rfl rfl (by omega) (by decide) dS_share_31 ?_
      refine x_aload_n G 0 dS_share_32 rfl rfl ?_
      refine x_get G 4 rfl rfl 8 (by decide) rfl (fun w h => .tail _ (iS_ok w h)) (.tail _ wd_198) rfl dS_share_33 ?_
      refine x_icmp_ge G 60 dS_share_36 (by decide) (fun h36 => (by rw [eq, hx1, e4, h48] at h36; exact absurd h36 (nI_ge hx2 (by omega)))) (fun h36 => ?_)
      refine x_aload_n G 0 dS_share_39 rfl rfl ?_
      refine x_get G 4 rfl rfl 2 (by decide) rfl (fun w h => .tail _ (iS_ok w h)) (.tail _ wd_192) rfl dS_share_40 ?_
      refine x_aload_n G 0 dS_share_43 rfl rfl ?_
      refine x_get G 4 rfl rfl 3 (by decide) rfl (fun w h => .tail _ (iS_ok w h)) (.tail _ wd_193) rfl dS_share_44 ?_
      refine x_iload_n G 2 dS_share_47 rfl rfl ?_
      refine x_ialdN G 21 0 rfl rfl (by omega) (by decide) dS_share_48 ?_
      refine x_top (z := nI b) (by rw [g5 21 (by omega) (by omega) (by omega) (by omega), ← hbk]; exact hbu b hb8 hbz) ?_
      refine x_aload_n G 0 dS_share_49 rfl rfl ?_
      refine x_get G 4 rfl rfl 4 (by decide) rfl (fun w h => .tail _ (iS_ok w h)) (.tail _ wd_194) rfl dS_share_50 ?_
      refine x_aload_n G 1 dS_share_53 rfl rfl ?_
      refine x_iload_n G 2 dS_share_54 rfl rfl ?_
      refine x_ialdN G 24 0 rfl rfl (by omega) (by decide) dS_share_55 ?_
      refine x_top (z := nI (gDn xs k)) (by rw [eq]; exact hx1) ?_
      refine x_ialdN G 22 0 rfl rfl (by omega) (by decide) dS_share_56 ?_
      refine x_top (z := nI (ab (gDn xs k))) (by rw [g5 22 (by omega) (by omega) (by omega) (by omega)]; exact ha1) ?_
      refine x_callVN2v G (cT_give (n := n) (C := C) (by rw [g5 1 (by omega) (by omega) (by omega) (by omega)]; exact hnt) hn8 (by rw [g5 2 (by omega) (by omega) (by omega) (by omega)]; exact hC) hC4 g1 g2 hbn ha2 (prA_above hbz hbk)) 3 rfl rfl (cVN G.2.2.2.2.1 G.2.2.2.2.2.2.1 nd_280 wd_282 wd_8 wd_53 wd_283 (by decide +kernel) ⟨(Nat.le_of_ble_eq_true rfl), (Nat.le_of_ble_eq_true rfl)⟩) dS_share_57 (Nat.le_of_ble_eq_true rfl) ⟨Nat.zero_le _, Nat.zero_le _⟩ (fun u57 e57 => ?_)
      obtain ⟨q1, q2, q3, q4, q5⟩ := e57
      rw [← hgk, ← prA_succ hbz hbk] at q1
      refine x_iinc G (nI (k + 1)) dS_share_60 rfl (nI_1 k) (by decide) ?_
      refine x_goto G 9 dS_share_63 (by decide) ?_
      exact ih (k + 1) (by omega) _ q1 (by rw [q2, prA_succ hbz hbk, hgk, spA_up (prA_above hbz hbk) (by omega) (by omega) (Nat.le_refl 4), if_pos (by omega)]) (q3.trans g3) (q4.trans g4) (g5.tr q5)
  refine x_aload_n G 0 dS_share_0 rfl rfl ?_
  refine x_get G 4 rfl rfl 2 (by decide) rfl (fun w h => .tail _ (iS_ok w h)) (.tail _ wd_192) rfl dS_share_1 ?_
  refine x_callVN0v G cT_clear 3 rfl rfl (cVN G.2.2.2.2.1 G.2.2.2.2.2.2.1 nd_275 wd_277 wd_7 wd_53 wd_278 (by decide +kernel) ⟨(Nat.le_of_ble_eq_true rfl), (Nat.le_of_ble_eq_true rfl)⟩) dS_share_4 (Nat.le_of_ble_eq_true rfl) ⟨Nat.zero_le _, Nat.zero_le _⟩ (fun u4 e4 => ?_)
  subst e4
  refine x_iconst G (0) dS_share_7 (by decide) ?_
  refine x_istore_n G 2 dS_share_8 rfl (by decide) ?_
  exact loop (cntB (bzF hh ww) 8) 0 (by omega) _ (by rw [prA_0]; exact clr_TS) (by rw [prA_0, spA_9 (Nat.le_refl 4), clr_11]; rfl) clr_9 clr_10 (fun q a b c d => clr_o a b c d)
def mIJ (j : Nat) : Int32 := if 0 < j then nI (j - 1) else -1
theorem mIJ_s {j : Nat} : mIJ (j + 1) = nI j := by simp [mIJ]
theorem mIJ_next {j : Nat} (h : j < 8) : nI j + (-1) = mIJ j := by
  rcases (show j = 0 ∨ j = 1 ∨ j = 2 ∨ j = 3 ∨ j = 4 ∨ j = 5 ∨ j = 6 ∨ j = 7 by omega) with rfl | rfl | rfl | rfl | rfl | rfl | rfl | rfl <;> decide
theorem mIJ_sub {j : Nat} (h : j ≤ 8) : nI j - 1 = mIJ j := by
  rcases (show j = 0 ∨ j = 1 ∨ j = 2 ∨ j = 3 ∨ j = 4 ∨ j = 5 ∨ j = 6 ∨ j = 7 ∨ j = 8 by omega) with rfl | rfl | rfl | rfl | rfl | rfl | rfl | rfl | rfl <;> decide
/-- the next sharing stands, or there is none -/
def NX (σ u : xSg) (na : Nat) (xs : List Nat) (r : Int32) : Prop := match nxtL na xs with
  | none => r = 0 ∧ u = σ
  | some ys => r = 1 ∧ ys.length = xs.length ∧ (∀ i, i < xs.length → u 23 i = nI (gDn ys i)) ∧ ∀ q, q ≠ 23 → u q = σ q
theorem nI_pred' {a : Nat} (h : 1 ≤ a) : nI a - 1 = nI (a - 1) := by
  obtain ⟨b, rfl⟩ : ∃ b, a = b + 1 := ⟨a - 1, by omega⟩
  exact nI_pred b
set_option maxHeartbeats 4000000 in
set_option maxRecDepth 100000 in
theorem cS_nextChoice {l : Launch} {D : va_G} {cI cZ cJ : ClassId} {ad : Nat → Nat} {σ : xSg} {na : Nat} {xs : List Nat} (h47 : σ 4 7 = nI xs.length) (hl8 : xs.length ≤ 8) (h48 : σ 4 8 = nI na) (hna1 : 1 ≤ na) (hna : na ≤ 4) (hxs : ∀ i, i < xs.length → σ 23 i = nI (gDn xs i) ∧ gDn xs i < na) : xCi l D vCl (tyC cI cZ cJ) nwW (wC ad cI cZ cJ) yS_nextChoice (.code yS_nextChoice bS_nextChoice 4 (some .boolean) :: bigW) 0 [.ref (ad 4)] σ (fun r u => NX σ u na xs r) := by
  refine xCi.of (cc := bS_nextChoice) (nL := 4) (ret := (some .boolean)) rfl (by decide) [.ref (ad 4), .null, .null, .null] rfl (Nat.le_of_ble_eq_true rfl) ?_
  intro pp ee ss mm aa bb me cde AA G hr hlk
  have inner : ∀ (i : Nat), i < xs.length → lastLt (gDn xs) na xs.length = some i → ∀ (j k : Nat), k + j = xs.length → i ≤ k → ∀ (σ1 : xSg), (∀ x, x < xs.length → σ1 23 x = nI (if x < i then gDn xs x else if x < k then gDn xs i + 1 else gDn xs x)) → (∀ q, q ≠ 23 → σ1 q = σ q) → xJ pp l ee { frames := 0, cells := 0, slots := 0, locals := 40 * 0 } ss mm aa bb me cde 0 0 (MQ bb (va_Qi (fun r u => NX σ u na xs r) (fun u t => va_P D vCl (wC ad cI cZ cJ u) t.heap ∧ va_D AA (wC ad cI cZ cJ u)) AA) aa ss 0 0 AA) D vCl AA 4 (va_S AA ss.heap) (wC ad cI cZ cJ σ1) [.ref (ad 4), .int (nI i), .int (nI (gDn xs i + 1)), .int (nI k)] 37 [] := by
    intro i hi hla j
    induction j with
    | zero =>
      intro k hk hik σ1 g1 g2
      have e4 : σ1 4 = σ 4 := g2 4 (by omega)
      refine x_iload_n G 3 dS_nextChoice_37 rfl rfl ?_
      refine x_aload_n G 0 dS_nextChoice_38 rfl rfl ?_
      refine x_get G 4 rfl rfl 7 (by decide) rfl (fun w h => .tail _ (iS_ok w h)) (.tail _ wd_197) rfl dS_nextChoice_39 ?_
      refine x_icmp_ge G 58 dS_nextChoice_42 (by decide) (fun h42 => ?_) (fun h42 => (by rw [e4, h47] at h42; exact absurd (nI_le (by omega) (by omega)) h42))
      refine x_iconst G (1) dS_nextChoice_58 (by decide) ?_
      exact x_reti G hr hlk rfl dS_nextChoice_59 (by unfold NX nxtL; rw [hla]; exact ⟨rfl, by simp, fun x hx => by rw [g1 x hx, gDn_map hx, show k = xs.length by omega]; split <;> simp [hx], g2⟩)
    | succ j ih =>
      intro k hk hik σ1 g1 g2
      have e4 : σ1 4 = σ 4 := g2 4 (by omega)
      refine x_iload_n G 3 dS_nextChoice_37 rfl rfl ?_
      refine x_aload_n G 0 dS_nextChoice_38 rfl rfl ?_
      refine x_get G 4 rfl rfl 7 (by decide) rfl (fun w h => .tail _ (iS_ok w h)) (.tail _ wd_197) rfl dS_nextChoice_39 ?_
      refine x_icmp_ge G 58 dS_nextChoice_42 (by decide) (fun h42 => (by rw [e4, h47] at h42; exact absurd h42 (nI_ge (by omega) (by omega)))) (fun h42 => ?_)
      refine x_aload_n G 0 dS_nextChoice_45 rfl rfl ?_
      refine x_get G 4 rfl rfl 5 (by decide) rfl (fun w h => .tail _ (iS_ok w h)) (.tail _ wd_195) rfl dS_nextChoice_46 ?_
      refine x_iload_n G 3 dS_nextChoice_49 rfl rfl ?_
      refine x_iload_n G 2 dS_nextChoice_50 rfl rfl ?_
      refine x_iastN G 23 0 rfl rfl warr_23 (by omega) (by decide) dS_nextChoice_51 ?_
      refine x_iinc G (nI (k + 1)) dS_nextChoice_52 rfl (nI_1 k) (by decide) ?_
      refine x_goto G 37 dS_nextChoice_55 (by decide) ?_
      refine ih (k + 1) (by omega) (by omega) _ (fun x hx => ?_) (fun q hq => by rw [sst_ne hq]; exact g2 q hq)
      by_cases e : x = k
      · rw [e, sst_same, if_neg (by omega), if_pos (by omega)]
      · rw [sst_i e, g1 x hx]; by_cases e2 : x < i; (· rw [if_pos e2, if_pos e2]); (· rw [if_neg e2, if_neg e2]; by_cases e3 : x < k; (· rw [if_pos e3, if_pos (by omega)]); (· rw [if_neg e3, if_neg (by omega)]))
  have loop : ∀ (j : Nat), j ≤ xs.length → lastLt (gDn xs) na xs.length = lastLt (gDn xs) na j → xJ pp l ee { frames := 0, cells := 0, slots := 0, locals := 40 * 0 } ss mm aa bb me cde 0 0 (MQ bb (va_Qi (fun r u => NX σ u na xs r) (fun u t => va_P D vCl (wC ad cI cZ cJ u) t.heap ∧ va_D AA (wC ad cI cZ cJ u)) AA) aa ss 0 0 AA) D vCl AA 4 (va_S AA ss.heap) (wC ad cI cZ cJ σ) [.ref (ad 4), .int (mIJ j), .null, .null] 7 [] := by
    intro j
    induction j with
    | zero =>
      intro hj he
      refine x_iload_n G 1 dS_nextChoice_7 rfl rfl ?_
      refine x_if_lt G 66 dS_nextChoice_8 (by decide) (fun h8 => ?_) (fun h8 => (by exact absurd (by decide) h8))
      refine x_iconst G (0) dS_nextChoice_66 (by decide) ?_
      exact x_reti G hr hlk rfl dS_nextChoice_67 (by unfold NX nxtL; rw [he]; exact ⟨rfl, rfl⟩)
    | succ j ih =>
      intro hj he
      obtain ⟨hx1, hx2⟩ := hxs j (by omega)
      refine x_eq rfl (vs2 := [.ref (ad 4), .int (nI j), .null, .null]) (by rw [mIJ_s]) rfl rfl ?_
      refine x_iload_n G 1 dS_nextChoice_7 rfl rfl ?_
      refine x_if_lt G 66 dS_nextChoice_8 (by decide) (fun h8 => (by exact absurd h8 (nI_pos (by omega)))) (fun h8 => ?_)
      refine x_aload_n G 0 dS_nextChoice_11 rfl rfl ?_
      refine x_get G 4 rfl rfl 5 (by decide) rfl (fun w h => .tail _ (iS_ok w h)) (.tail _ wd_195) rfl dS_nextChoice_12 ?_
      refine x_iload_n G 1 dS_nextChoice_15 rfl rfl ?_
      refine x_ialdN G 23 0 rfl rfl (by omega) (by decide) dS_nextChoice_16 ?_
      refine x_aload_n G 0 dS_nextChoice_17 rfl rfl ?_
      refine x_get G 4 rfl rfl 8 (by decide) rfl (fun w h => .tail _ (iS_ok w h)) (.tail _ wd_198) rfl dS_nextChoice_18 ?_
      refine x_iconst G (1) dS_nextChoice_21 (by decide) ?_
      refine x_isub G dS_nextChoice_22 ?_
      refine x_icmp_ge G 60 dS_nextChoice_23 (by decide) (fun h23 => ?_) (fun h23 => ?_)
      · have h23 : ¬ gDn xs j + 1 < na := by rw [hx1, h48, nI_pred' hna1, nI_leI (by omega) (by omega)] at h23; omega
        refine x_iinc G (mIJ j) dS_nextChoice_60 rfl (mIJ_next (by omega)) (by decide) ?_
        refine x_goto G 7 dS_nextChoice_63 (by decide) ?_
        exact ih (by omega) (by rw [he, lastLt, if_neg h23])
      · have h23 : gDn xs j + 1 < na := by rw [hx1, h48, nI_pred' hna1, nI_leI (by omega) (by omega)] at h23; omega
        have hla : lastLt (gDn xs) na xs.length = some j := by rw [he, lastLt, if_pos h23]
        refine x_aload_n G 0 dS_nextChoice_26 rfl rfl ?_
        refine x_get G 4 rfl rfl 5 (by decide) rfl (fun w h => .tail _ (iS_ok w h)) (.tail _ wd_195) rfl dS_nextChoice_27 ?_
        refine x_iload_n G 1 dS_nextChoice_30 rfl rfl ?_
        refine x_ialdN G 23 0 rfl rfl (by omega) (by decide) dS_nextChoice_31 ?_
        refine x_iconst G (1) dS_nextChoice_32 (by decide) ?_
        refine x_iadd G dS_nextChoice_33 ?_
        refine x_top (z := nI (gDn xs j + 1)) (by rw [hx1]; exact nI_1 _) ?_
        refine x_istore_n G 2 dS_nextChoice_34 rfl (by decide) ?_
        refine x_iload_n G 1 dS_nextChoice_35 rfl rfl ?_
        refine x_istore_n G 3 dS_nextChoice_36 rfl (by decide) ?_
        exact inner j (by omega) hla (xs.length - j) j (by omega) (Nat.le_refl j) σ (fun x hx => by rw [(hxs x hx).1]; split <;> rfl) (fun q _ => rfl)
  refine x_aload_n G 0 dS_nextChoice_0 rfl rfl ?_
  refine x_get G 4 rfl rfl 7 (by decide) rfl (fun w h => .tail _ (iS_ok w h)) (.tail _ wd_197) rfl dS_nextChoice_1 ?_
  refine x_iconst G (1) dS_nextChoice_4 (by decide) ?_
  refine x_isub G dS_nextChoice_5 ?_
  refine x_top (z := mIJ xs.length) (by rw [h47]; exact mIJ_sub (by omega)) ?_
  refine x_istore_n G 1 dS_nextChoice_6 rfl (by decide) ?_
  exact loop xs.length (Nat.le_refl _) rfl
