/-! Timetable.sortRows, Search's gather, share, nextChoice -/
theorem ins_getD {L : List Nat} {k b i : Nat} (hk : k ≤ L.length) : (L.take k ++ b :: L.drop k).getD i 0 = if i < k then L.getD i 0 else if i = k then b else L.getD (i - 1) 0 := by
  rw [List.getD_eq_getElem?_getD, List.getD_eq_getElem?_getD, List.getD_eq_getElem?_getD]
  have hl : (L.take k).length = k := by rw [List.length_take]; omega
  by_cases h1 : i < k
  · rw [if_pos h1, List.getElem?_append_left (by omega), List.getElem?_take_of_lt h1]
  · rw [if_neg h1, List.getElem?_append_right (by omega), hl]
    by_cases h2 : i = k
    · subst h2; rw [if_pos rfl, Nat.sub_self]; rfl
    · rw [if_neg h2]
      obtain ⟨j, rfl⟩ : ∃ j, i = k + 1 + j := ⟨i - k - 1, by omega⟩
      rw [show k + 1 + j - k = j + 1 by omega, List.getElem?_cons_succ, List.getElem?_drop, show k + 1 + j - 1 = k + j by omega]
theorem mem_getD {L : List Nat} {x : Nat} (h : x ∈ L) : ∃ i, i < L.length ∧ L.getD i 0 = x := by
  obtain ⟨i, hi, e⟩ := List.mem_iff_getElem.mp h
  exact ⟨i, hi, by rw [List.getD_eq_getElem?_getD, List.getElem?_eq_getElem hi]; exact e⟩
theorem getD_mem {L : List Nat} {i : Nat} (h : i < L.length) : L.getD i 0 ∈ L := by
  rw [List.getD_eq_getElem?_getD, List.getElem?_eq_getElem h]; exact List.getElem_mem h
theorem take_getD {L : List Nat} {k x : Nat} (h : x ∈ L.take k) : ∃ i, i < k ∧ i < L.length ∧ L.getD i 0 = x := by
  obtain ⟨i, hi, e⟩ := List.mem_iff_getElem.mp h
  rw [List.length_take] at hi
  refine ⟨i, by omega, by omega, ?_⟩
  rw [List.getD_eq_getElem?_getD, List.getElem?_eq_getElem (by omega)]
  rw [List.getElem_take] at e
  exact e
theorem drop_getD {L : List Nat} {k x : Nat} (h : x ∈ L.drop k) : ∃ i, k ≤ i ∧ i < L.length ∧ L.getD i 0 = x := by
  obtain ⟨i, hi, e⟩ := List.mem_iff_getElem.mp h
  rw [List.length_drop] at hi
  refine ⟨k + i, by omega, by omega, ?_⟩
  rw [List.getD_eq_getElem?_getD, List.getElem?_eq_getElem (by omega)]
  rw [List.getElem_drop] at e
  exact e
/-- rows L of the first k bays stand -/
def RW (σ : xSg) (A bg : Nat → Nat) (k : Nat) (L : List Nat) : Prop := σ 3 9 = nI L.length ∧ (∀ i, i < L.length → σ 20 i = nI (L.getD i 0)) ∧ L.Pairwise (ahd bg A) ∧ L.Perm ((List.range k).filter (fun b => decide (A b < 4)))
theorem RW.len {σ : xSg} {A bg : Nat → Nat} {k : Nat} {L : List Nat} (h : RW σ A bg k L) : L.length ≤ k := by
  rw [h.2.2.2.length_eq]
  exact Nat.le_trans (List.length_filter_le _ _) (by rw [List.length_range]; exact Nat.le_refl k)
theorem RW.mem {σ : xSg} {A bg : Nat → Nat} {k x : Nat} {L : List Nat} (h : RW σ A bg k L) (hx : x ∈ L) : x < k ∧ A x < 4 := by
  have := h.2.2.2.mem_iff.mp hx
  rw [List.mem_filter, List.mem_range] at this
  exact ⟨this.1, of_decide_eq_true this.2⟩
/-- what the rows leave as it was -/
def RO (σ u : xSg) : Prop := u 3 10 = σ 3 10 ∧ u 3 11 = σ 3 11 ∧ ∀ q, q ≠ 3 → q ≠ 20 → u q = σ q
theorem RO.rf {σ : xSg} : RO σ σ := ⟨rfl, rfl, fun _ _ _ => rfl⟩
theorem RO.tr {σ u v : xSg} (h1 : RO σ u) (h2 : RO u v) : RO σ v := ⟨h2.1.trans h1.1, h2.2.1.trans h1.2.1, fun q a b => (h2.2.2 q a b).trans (h1.2.2 q a b)⟩
theorem mI_next {a : Nat} (h : 0 < a) : nI a + (-1) = nI (a - 1) := by
  obtain ⟨b, rfl⟩ : ∃ b, a = b + 1 := ⟨a - 1, by omega⟩
  rw [pk_m1]; rfl
set_option maxHeartbeats 4000000 in
set_option maxRecDepth 100000 in
theorem cT_sortRows {l : Launch} {D : va_G} {cI cZ cJ : ClassId} {ad : Nat → Nat} {σ : xSg} {A bg : Nat → Nat} {n : Nat} {hh ww : Nat → Nat} (hB : PB σ n hh ww) (hTS : TS σ A) (hAn : ∀ b, A b < 4 → b < n) (hbe : ∀ b, b < 8 → A b < 4 → σ 11 b = nI (bg b) ∧ bg b < 2 ^ 31) (hdist : ∀ b d, b < 8 → d < 8 → A b < 4 → A d < 4 → b ≠ d → ahd bg A b d ∨ ahd bg A d b) : xCv l D vCl (tyC cI cZ cJ) nwW (wC ad cI cZ cJ) yT_sortRows (.code yT_sortRows bT_sortRows 3 none :: bigW) 2 [.ref (ad 3)] σ (fun u => (∃ L, RW u A bg 8 L) ∧ RO σ u) := by
  refine xCv.of (cc := bT_sortRows) (nL := 3) (ret := none) rfl (by decide) [.ref (ad 3), .null, .null] rfl (Nat.le_of_ble_eq_true rfl) ?_
  intro pp ee ss mm aa bb me cde AA G hr hlk
  obtain ⟨hn8, hnt, hbw, hbb, hb0⟩ := id hB
  have loop : ∀ (j k : Nat), k + j = 8 → ∀ (tz : Value) (σ1 : xSg) (L : List Nat), RW σ1 A bg k L → RO σ σ1 → xJ pp l ee { frames := 2, cells := 0, slots := 0, locals := 40 * 2 } ss mm aa bb me cde 0 0 (MQ bb (va_Qv (fun u => (∃ L, RW u A bg 8 L) ∧ RO σ u) (fun u t => va_P D vCl (wC ad cI cZ cJ u) t.heap ∧ va_D AA (wC ad cI cZ cJ u)) AA) aa ss 0 0 AA) D vCl AA 3 (va_S AA ss.heap) (wC ad cI cZ cJ σ1) [.ref (ad 3), .int (nI k), tz] 7 [] := by
    intro j
    induction j with
    | zero =>
      intro k hk tz σ1 L hL hO
      have hk : k = 8 := by omega
      subst hk
      refine x_iload_n G 1 dT_sortRows_7 rfl rfl ?_
      refine x_bipush G (8) dT_sortRows_8 (by decide) ?_
      refine x_icmp_ge G 91 dT_sortRows_10 (by decide) (fun h10 => ?_) (fun h10 => (by exact absurd (nI_le (show 8 ≤ 8 by omega) (by decide)) h10))
      exact x_retv G hr hlk dT_sortRows_91 ⟨⟨L, hL⟩, hO⟩
    | succ j ih =>
      intro k hk tz σ1 L hL hO
      have h10' : σ1 10 k = aI (A k) := by rw [hO.2.2 10 (by omega) (by omega)]; exact hTS.1 k (by omega)
      have hlen := hL.len
      refine x_iload_n G 1 dT_sortRows_7 rfl rfl ?_
      refine x_bipush G (8) dT_sortRows_8 (by decide) ?_
      refine x_icmp_ge G 91 dT_sortRows_10 (by decide) (fun h10 => (by exact absurd h10 (nI_ge (show k < 8 by omega) (by decide)))) (fun h10 => ?_)
      refine x_aload_n G 0 dT_sortRows_13 rfl rfl ?_
      refine x_get G 3 rfl rfl 2 (by decide) rfl (fun w h => .tail _ (iT_ok w h)) (.tail _ wd_143) rfl dT_sortRows_14 ?_
      refine x_iload_n G 1 dT_sortRows_17 rfl rfl ?_
      refine x_ialdN G 10 0 rfl rfl (by omega) (by decide) dT_sortRows_18 ?_
      refine x_iconst G (-1) dT_sortRows_19 (by decide) ?_
      refine x_icmp_eq G 85 dT_sortRows_20 (by decide) (fun h20 => ?_) (fun h20 => ?_)
      · rw [h10', aI_m1] at h20
        refine x_iinc G (nI (k + 1)) dT_sortRows_85 rfl (nI_1 k) (by decide) ?_
        refine x_goto G 7 dT_sortRows_88 (by decide) ?_
        refine ih (k + 1) (by omega) _ σ1 L ⟨hL.1, hL.2.1, hL.2.2.1, ?_⟩ hO
        rw [List.range_succ, List.filter_append, List.filter_cons_of_neg (by simp [h20]), List.filter_nil, List.append_nil]
        exact hL.2.2.2
      · rw [h10', aI_m1, Decidable.not_not] at h20
        have hAk := h20
        have hkn : k < n := hAn k hAk
        have place : ∀ (a : Nat) (σ1 : xSg), a ≤ L.length → σ1 3 9 = nI L.length → RO σ σ1 → (∀ i, i < a → σ1 20 i = nI (L.getD i 0)) → (∀ i, a < i → i ≤ L.length → σ1 20 i = nI (L.getD (i - 1) 0)) → (∀ i, a ≤ i → i < L.length → ahd bg A k (L.getD i 0)) → (∀ i, i < a → ahd bg A (L.getD i 0) k) → xJ pp l ee { frames := 2, cells := 0, slots := 0, locals := 40 * 2 } ss mm aa bb me cde 0 0 (MQ bb (va_Qv (fun u => (∃ L, RW u A bg 8 L) ∧ RO σ u) (fun u t => va_P D vCl (wC ad cI cZ cJ u) t.heap ∧ va_D AA (wC ad cI cZ cJ u)) AA) aa ss 0 0 AA) D vCl AA 3 (va_S AA ss.heap) (wC ad cI cZ cJ σ1) [.ref (ad 3), .int (nI k), .int (nI a)] 68 [] := by
          intro a σ1 ha h9 hO i1 i2 i3 i4
          refine x_aload_n G 0 dT_sortRows_68 rfl rfl ?_
          refine x_get G 3 rfl rfl 8 (by decide) rfl (fun w h => .tail _ (iT_ok w h)) (.tail _ wd_150) rfl dT_sortRows_69 ?_
          refine x_iload_n G 2 dT_sortRows_72 rfl rfl ?_
          refine x_iload_n G 1 dT_sortRows_73 rfl rfl ?_
          refine x_iastN G 20 0 rfl rfl warr_20 (by omega) (by decide) dT_sortRows_74 ?_
          refine x_aload_n G 0 dT_sortRows_75 rfl rfl ?_
          refine x_dup G dT_sortRows_76 rfl ?_
          refine x_get G 3 rfl rfl 9 (by decide) rfl (fun w h => .tail _ (iT_ok w h)) (.tail _ wd_151) rfl dT_sortRows_77 ?_
          refine x_top (z := nI L.length) h9 ?_
          refine x_iconst G (1) dT_sortRows_80 (by decide) ?_
          refine x_iadd G dT_sortRows_81 ?_
          refine x_top (nI_1 L.length) ?_
          refine x_put G 3 rfl rfl 9 (by decide) (Nat.le_of_ble_eq_true rfl) wput_3_9 (fun w h => .tail _ (iT_ok w h)) tT_ok nT_ok (.tail _ wd_151) rfl rfl (tT_ok 9 (by decide)) rfl rfl dT_sortRows_82 ?_
          refine x_iinc G (nI (k + 1)) dT_sortRows_85 rfl (nI_1 k) (by decide) ?_
          refine x_goto G 7 dT_sortRows_88 (by decide) ?_
          refine ih (k + 1) (by omega) _ _ (L.take a ++ k :: L.drop a) ⟨?_, fun i hi => ?_, ins_ok hL.2.2.1 (fun x hx => ?_) (fun x hx => ?_), ?_⟩ (hO.tr ⟨by rw [sst_i (by omega), sst_q (by omega)], by rw [sst_i (by omega), sst_q (by omega)], fun q q3 q20 => by rw [sst_ne q3, sst_ne q20]⟩)
          · rw [sst_same]; congr 1; rw [List.length_append, List.length_cons, List.length_take, List.length_drop]; omega
          · have hi : i < L.length + 1 := by rw [List.length_append, List.length_cons, List.length_take, List.length_drop] at hi; omega
            rw [sst_q (by omega), sst_up, ins_getD ha]
            by_cases e1 : i < a
            · rw [if_pos e1]; simp only [upd]; rw [if_neg (by omega)]; exact i1 i e1
            · rw [if_neg e1]
              by_cases e2 : i = a
              · rw [if_pos e2]; simp [upd, e2]
              · rw [if_neg e2]; simp only [upd]; rw [if_neg e2]; exact i2 i (by omega) (by omega)
          · obtain ⟨i, q1, q2, q3⟩ := drop_getD hx; rw [← q3]; exact i3 i q1 q2
          · obtain ⟨i, q1, q2, q3⟩ := take_getD hx; rw [← q3]; exact i4 i q1
          · have e : (List.range (k + 1)).filter (fun b => decide (A b < 4)) = (List.range k).filter (fun b => decide (A b < 4)) ++ [k] := by rw [List.range_succ, List.filter_append, List.filter_cons_of_pos (by simp [hAk])]; rfl
            rw [e]
            refine List.Perm.trans ?_ (List.perm_append_comm (l₁ := [k]))
            refine List.perm_middle.trans ?_
            rw [List.take_append_drop]
            exact (hL.2.2.2.cons k)
        have inner : ∀ (a : Nat) (σ1 : xSg), a ≤ L.length → σ1 3 9 = nI L.length → RO σ σ1 → (∀ i, i < a → σ1 20 i = nI (L.getD i 0)) → (∀ i, a < i → i ≤ L.length → σ1 20 i = nI (L.getD (i - 1) 0)) → (∀ i, a ≤ i → i < L.length → ahd bg A k (L.getD i 0)) → xJ pp l ee { frames := 2, cells := 0, slots := 0, locals := 40 * 2 } ss mm aa bb me cde 0 0 (MQ bb (va_Qv (fun u => (∃ L, RW u A bg 8 L) ∧ RO σ u) (fun u t => va_P D vCl (wC ad cI cZ cJ u) t.heap ∧ va_D AA (wC ad cI cZ cJ u)) AA) aa ss 0 0 AA) D vCl AA 3 (va_S AA ss.heap) (wC ad cI cZ cJ σ1) [.ref (ad 3), .int (nI k), .int (nI a)] 28 [] := by
          intro a
          induction a with
          | zero =>
            intro σ1 ha h9 hO i1 i2 i3
            refine x_iload_n G 2 dT_sortRows_28 rfl rfl ?_
            refine x_if_le G 68 dT_sortRows_29 (by decide) (fun h29 => ?_) (fun h29 => (by exact absurd (by decide) h29))
            exact place 0 σ1 ha h9 hO i1 i2 i3 (fun i hi => by omega)
          | succ a iha =>
            intro σ1 ha h9 hO i1 i2 i3
            have hm := getD_mem (L := L) (i := a) (by omega)
            obtain ⟨hx1, hx2⟩ := hL.mem hm
            have hxn := hAn _ hx2
            obtain ⟨q1, q1'⟩ := hbe k (by omega) hAk
            obtain ⟨q2, q2'⟩ := hbe (L.getD a 0) (by omega) hx2
            have e11 : σ1 11 = σ 11 := hO.2.2 11 (by omega) (by omega)
            have e10 : σ1 10 = σ 10 := hO.2.2 10 (by omega) (by omega)
            have e12 : σ1 1 = σ 1 := hO.2.2 1 (by omega) (by omega)
            refine x_iload_n G 2 dT_sortRows_28 rfl rfl ?_
            refine x_if_le G 68 dT_sortRows_29 (by decide) (fun h29 => (by exact absurd h29 (nI_nle (by omega) (by omega)))) (fun h29 => ?_)
            refine x_aload_n G 0 dT_sortRows_32 rfl rfl ?_
            refine x_iload_n G 1 dT_sortRows_33 rfl rfl ?_
            refine x_aload_n G 0 dT_sortRows_34 rfl rfl ?_
            refine x_get G 3 rfl rfl 8 (by decide) rfl (fun w h => .tail _ (iT_ok w h)) (.tail _ wd_150) rfl dT_sortRows_35 ?_
            refine x_iload_n G 2 dT_sortRows_38 rfl rfl ?_
            refine x_iconst G (1) dT_sortRows_39 (by decide) ?_
            refine x_isub G dT_sortRows_40 ?_
            refine x_top (nI_pred a) ?_
            refine x_ialdN G 20 0 rfl rfl (by omega) (by decide) dT_sortRows_41 ?_
            refine x_top (i1 a (by omega)) ?_
            refine x_call0V2i G (cT_beginsAhead (n := n) (by rw [e12]; exact hnt) hn8 hkn hxn (by rw [e11]; exact q1) (by rw [e11]; exact q2) (by rw [e10, hTS.1 k (by omega), aI_t hAk]) (by rw [e10, hTS.1 _ (by omega), aI_t hx2]) q1' q2' hAk hx2) 3 rfl rfl (cV G.2.2.2.2.1 wd_330 wd_332 wd_18 wd_53 wd_333 (by decide +kernel) ⟨(Nat.le_of_ble_eq_true rfl), (Nat.le_of_ble_eq_true rfl)⟩) dT_sortRows_42 (Nat.le_of_ble_eq_true rfl) ⟨Nat.zero_le _, Nat.zero_le _⟩ (fun r42 e42 => ?_)
            subst e42
            refine x_if_eq G 68 dT_sortRows_45 (by decide) (fun h45 => ?_) (fun h45 => ?_)
            · have h45 := bI_eq0.mp h45
              have h45 : ¬ ahd bg A k (L.getD a 0) := h45
              refine place (a + 1) σ1 ha h9 hO i1 i2 i3 (fun i hi => ?_)
              have hne : L.getD a 0 ≠ k := by omega
              have hd : ahd bg A (L.getD a 0) k := (hdist _ _ (by omega) (by omega) hx2 hAk hne).resolve_right h45
              rcases (show i < a ∨ i = a by omega) with z | z
              · refine ahd_tr ?_ hd
                have hp := List.pairwise_iff_getElem.mp hL.2.2.1 i a (by omega) (by omega) z
                rw [List.getD_eq_getElem?_getD, List.getD_eq_getElem?_getD, List.getElem?_eq_getElem (show i < L.length by omega), List.getElem?_eq_getElem (show a < L.length by omega)]
                exact hp
              · rw [z]; exact hd
            · have h45 := bI_ne0.mp h45
              have h45 : ahd bg A k (L.getD a 0) := h45
              refine x_aload_n G 0 dT_sortRows_48 rfl rfl ?_
              refine x_get G 3 rfl rfl 8 (by decide) rfl (fun w h => .tail _ (iT_ok w h)) (.tail _ wd_150) rfl dT_sortRows_49 ?_
              refine x_iload_n G 2 dT_sortRows_52 rfl rfl ?_
              refine x_aload_n G 0 dT_sortRows_53 rfl rfl ?_
              refine x_get G 3 rfl rfl 8 (by decide) rfl (fun w h => .tail _ (iT_ok w h)) (.tail _ wd_150) rfl dT_sortRows_54 ?_
              refine x_iload_n G 2 dT_sortRows_57 rfl rfl ?_
              refine x_iconst G (1) dT_sortRows_58 (by decide) ?_
              refine x_isub G dT_sortRows_59 ?_
              refine x_top (nI_pred a) ?_
              refine x_ialdN G 20 0 rfl rfl (by omega) (by decide) dT_sortRows_60 ?_
              refine x_top (i1 a (by omega)) ?_
              refine x_iastN G 20 0 rfl rfl warr_20 (by omega) (by decide) dT_sortRows_61 ?_
              refine x_iinc G (nI a) dT_sortRows_62 rfl (pk_m1 a) (by decide) ?_
              refine x_goto G 28 dT_sortRows_65 (by decide) ?_
              refine iha _ (by omega) (by rw [sst_q (by omega)]; exact h9) (hO.tr ⟨sst_q (by omega), sst_q (by omega), fun q q3 q20 => sst_ne q20⟩) (fun i hi => ?_) (fun i hi1 hi2 => ?_) (fun i hi1 hi2 => ?_)
              · rw [sst_i (by omega)]; exact i1 i (by omega)
              · by_cases e : i = a + 1
                · rw [e, sst_same]; rfl
                · rw [sst_i e]; exact i2 i (by omega) hi2
              · by_cases e : i = a
                · rw [e]; exact h45
                · exact i3 i (by omega) hi2
        refine x_aload_n G 0 dT_sortRows_23 rfl rfl ?_
        refine x_get G 3 rfl rfl 9 (by decide) rfl (fun w h => .tail _ (iT_ok w h)) (.tail _ wd_151) rfl dT_sortRows_24 ?_
        refine x_top hL.1 ?_
        refine x_istore_n G 2 dT_sortRows_27 rfl (by decide) ?_
        exact inner L.length σ1 (Nat.le_refl _) hL.1 hO (fun i hi => hL.2.1 i hi) (fun i h1 h2 => by omega) (fun i h1 h2 => by omega)
  refine x_aload_n G 0 dT_sortRows_0 rfl rfl ?_
  refine x_iconst G (0) dT_sortRows_1 (by decide) ?_
  refine x_put G 3 rfl rfl 9 (by decide) (Nat.le_of_ble_eq_true rfl) wput_3_9 (fun w h => .tail _ (iT_ok w h)) tT_ok nT_ok (.tail _ wd_151) rfl rfl (tT_ok 9 (by decide)) rfl rfl dT_sortRows_2 ?_
  refine x_iconst G (0) dT_sortRows_5 (by decide) ?_
  refine x_istore_n G 1 dT_sortRows_6 rfl (by decide) ?_
  exact loop 8 0 (by omega) .null _ [] ⟨sst_same, fun i hi => by simp at hi, List.Pairwise.nil, List.Perm.refl _⟩ ⟨sst_i (by omega), sst_i (by omega), fun q q3 q20 => sst_ne q3⟩
def bzF (hh ww : Nat → Nat) (b : Nat) : Bool := decide (0 < mvF hh ww b)
def abF (C : Nat) (ou : Nat → Bool) (c : Nat) : Bool := decide (c < C) && !ou c
/-- the search knows: bays with work, cranes that may work -/
def GA (σ : xSg) (bz ab : Nat → Bool) : Prop := σ 4 7 = nI (cntB bz 8) ∧ (∀ b, b < 8 → bz b = true → σ 21 (cntB bz b) = nI b) ∧ σ 4 8 = nI (cntB ab 4) ∧ ∀ c, c < 4 → ab c = true → σ 22 (cntB ab c) = nI c
def GO (σ u : xSg) : Prop := ∀ q, q ≠ 4 → q ≠ 21 → q ≠ 22 → q ≠ 23 → u q = σ q
theorem cntB_s {bz : Nat → Bool} {k : Nat} (h : bz k = true) : cntB bz (k + 1) = cntB bz k + 1 := by simp [cntB, h]
theorem cntB_z {bz : Nat → Bool} {k : Nat} (h : ¬ bz k = true) : cntB bz (k + 1) = cntB bz k := by simp [cntB, h]
set_option maxHeartbeats 4000000 in
set_option maxRecDepth 100000 in
theorem cS_gather {l : Launch} {D : va_G} {cI cZ cJ : ClassId} {ad : Nat → Nat} {σ : xSg} {n C : Nat} {hh ww mo mi : Nat → Nat} {ou : Nat → Bool} (hB : PB σ n hh ww) (hK : PK σ C mo mi ou) : xCv l D vCl (tyC cI cZ cJ) nwW (wC ad cI cZ cJ) yS_gather (.code yS_gather bS_gather 2 none :: bigW) 2 [.ref (ad 4)] σ (fun u => GA u (bzF hh ww) (abF C ou) ∧ (∀ j, j < 8 → u 23 j = 0) ∧ GO σ u) := by
  refine xCv.of (cc := bS_gather) (nL := 2) (ret := none) rfl (by decide) [.ref (ad 4), .null] rfl (Nat.le_of_ble_eq_true rfl) ?_
  intro pp ee ss mm aa bb me cde AA G hr hlk
  obtain ⟨hn8, hnt, hbw, hbb, hb0⟩ := id hB
  obtain ⟨hC1, hC4, hC, hrt, hbd⟩ := id hK
  have loop2 : ∀ (j k : Nat), k + j = 4 → ∀ (σ1 : xSg), σ1 4 7 = nI (cntB (bzF hh ww) 8) → (∀ b, b < 8 → bzF hh ww b = true → σ1 21 (cntB (bzF hh ww) b) = nI b) → σ1 4 8 = nI (cntB (abF C ou) k) → (∀ c, c < k → abF C ou c = true → σ1 22 (cntB (abF C ou) c) = nI c) → (∀ j, j < 8 → σ1 23 j = 0) → GO σ σ1 → xJ pp l ee { frames := 2, cells := 0, slots := 0, locals := 40 * 2 } ss mm aa bb me cde 0 0 (MQ bb (va_Qv (fun u => GA u (bzF hh ww) (abF C ou) ∧ (∀ j, j < 8 → u 23 j = 0) ∧ GO σ u) (fun u t => va_P D vCl (wC ad cI cZ cJ u) t.heap ∧ va_D AA (wC ad cI cZ cJ u)) AA) aa ss 0 0 AA) D vCl AA 2 (va_S AA ss.heap) (wC ad cI cZ cJ σ1) [.ref (ad 4), .int (nI k)] 65 [] := by
    intro j
    induction j with
    | zero =>
      intro k hk σ1 g1 g2 g3 g4 g5 g6
      have hk : k = 4 := by omega
      subst hk
      refine x_iload_n G 1 dS_gather_65 rfl rfl ?_
      refine x_iconst G (4) dS_gather_66 (by decide) ?_
      refine x_icmp_ge G 107 dS_gather_67 (by decide) (fun h67 => ?_) (fun h67 => (by exact absurd (nI_le (show 4 ≤ 4 by omega) (by decide)) h67))
      exact x_retv G hr hlk dS_gather_107 ⟨⟨g1, g2, g3, g4⟩, g5, g6⟩
    | succ j ih =>
      intro k hk σ1 g1 g2 g3 g4 g5 g6
      have hcl := cntB_le (bz := abF C ou) k
      have e2 : σ1 2 = σ 2 := g6 2 (by omega) (by omega) (by omega) (by omega)
      have e9 : σ1 9 = σ 9 := g6 9 (by omega) (by omega) (by omega) (by omega)
      have hab : (¬ (k < C ∧ σ1 9 k = 0)) ↔ ¬ abF C ou k = true := by
        rw [e9, (hrt k (by omega)).2.2, bI_eq0]; simp [abF]
      refine x_iload_n G 1 dS_gather_65 rfl rfl ?_
      refine x_iconst G (4) dS_gather_66 (by decide) ?_
      refine x_icmp_ge G 107 dS_gather_67 (by decide) (fun h67 => (by exact absurd h67 (nI_ge (show k < 4 by omega) (by decide)))) (fun h67 => ?_)
      refine x_aload_n G 0 dS_gather_70 rfl rfl ?_
      refine x_get G 4 rfl rfl 1 (by decide) rfl (fun w h => .tail _ (iS_ok w h)) (.tail _ wd_191) rfl dS_gather_71 ?_
      refine x_iload_n G 1 dS_gather_74 rfl rfl ?_
      refine x_call0VN1i G (cK_isOut (by rw [e2]; exact hC) hC4 (by omega)) 2 rfl rfl (cVN G.2.2.2.2.1 G.2.2.2.2.2.2.1 nd_262 wd_264 wd_4 wd_50 wd_265 (by decide +kernel) ⟨(Nat.le_of_ble_eq_true rfl), (Nat.le_of_ble_eq_true rfl)⟩) dS_gather_75 (Nat.le_of_ble_eq_true rfl) ⟨Nat.zero_le _, Nat.zero_le _⟩ (fun r75 e75 => ?_)
      subst e75
      refine x_if_ne G 101 dS_gather_78 (by decide) (fun h78 => ?_) (fun h78 => ?_)
      · have h78 := bI_ne0.mp h78
        have h78 := hab.mp h78
        have ec := cntB_z h78
        refine x_iinc G (nI (k + 1)) dS_gather_101 rfl (nI_1 k) (by decide) ?_
        refine x_goto G 65 dS_gather_104 (by decide) ?_
        first
        | exact ih (k + 1) (by omega) _ g1 g2 (by rw [ec]; exact g3) (fun c q1 q2 => by rcases (show c < k ∨ c = k by omega) with z | z; (· exact g4 c z q2); (· rw [z] at q2; exact absurd q2 h78)) g5 g6
        | exact ih (k + 1) (by omega) _ (by rw [sst_i (by omega), sst_q (by omega)]; exact g1) (fun b q1 q2 => by rw [sst_q (by omega), sst_q (by omega)]; exact g2 b q1 q2) (by rw [sst_same, ec]) (fun c q1 q2 => by rw [sst_q (by omega)]; rcases (show c < k ∨ c = k by omega) with z | z; (· rw [sst_i (by have := (cntB_lt (b := k) q2).mpr z; omega)]; exact g4 c z q2); (· rw [z, sst_same])) (fun j q => by rw [sst_q (by omega), sst_q (by omega)]; exact g5 j q) (fun q q1 q2 q3 q4 => by rw [sst_ne q1, sst_ne q3]; exact g6 q q1 q2 q3 q4)
      · have h78 := bI_eq0.mp h78
        have h78 : abF C ou k = true := Decidable.not_not.mp (fun q => h78 (hab.mpr q))
        have ec := cntB_s h78
        refine x_aload_n G 0 dS_gather_81 rfl rfl ?_
        refine x_get G 4 rfl rfl 4 (by decide) rfl (fun w h => .tail _ (iS_ok w h)) (.tail _ wd_194) rfl dS_gather_82 ?_
        refine x_aload_n G 0 dS_gather_85 rfl rfl ?_
        refine x_get G 4 rfl rfl 8 (by decide) rfl (fun w h => .tail _ (iS_ok w h)) (.tail _ wd_198) rfl dS_gather_86 ?_
        refine x_top g3 ?_
        refine x_iload_n G 1 dS_gather_89 rfl rfl ?_
        refine x_iastN G 22 0 rfl rfl warr_22 (by omega) (by decide) dS_gather_90 ?_
        refine x_aload_n G 0 dS_gather_91 rfl rfl ?_
        refine x_dup G dS_gather_92 rfl ?_
        refine x_get G 4 rfl rfl 8 (by decide) rfl (fun w h => .tail _ (iS_ok w h)) (.tail _ wd_198) rfl dS_gather_93 ?_
        refine x_top (z := nI (cntB (abF C ou) k)) g3 ?_
        refine x_iconst G (1) dS_gather_96 (by decide) ?_
        refine x_iadd G dS_gather_97 ?_
        refine x_top (nI_1 _) ?_
        refine x_put G 4 rfl rfl 8 (by decide) (Nat.le_of_ble_eq_true rfl) wput_4_8 (fun w h => .tail _ (iS_ok w h)) tS_ok nS_ok (.tail _ wd_198) rfl rfl (tS_ok 8 (by decide)) rfl rfl dS_gather_98 ?_
        refine x_iinc G (nI (k + 1)) dS_gather_101 rfl (nI_1 k) (by decide) ?_
        refine x_goto G 65 dS_gather_104 (by decide) ?_
        first
        | exact ih (k + 1) (by omega) _ g1 g2 (by rw [ec]; exact g3) (fun c q1 q2 => by rcases (show c < k ∨ c = k by omega) with z | z; (· exact g4 c z q2); (· rw [z] at q2; exact absurd q2 h78)) g5 g6
        | exact ih (k + 1) (by omega) _ (by rw [sst_i (by omega), sst_q (by omega)]; exact g1) (fun b q1 q2 => by rw [sst_q (by omega), sst_q (by omega)]; exact g2 b q1 q2) (by rw [sst_same, ec]) (fun c q1 q2 => by rw [sst_q (by omega)]; rcases (show c < k ∨ c = k by omega) with z | z; (· rw [sst_i (by have := (cntB_lt (b := k) q2).mpr z; omega)]; exact g4 c z q2); (· rw [z, sst_same])) (fun j q => by rw [sst_q (by omega), sst_q (by omega)]; exact g5 j q) (fun q q1 q2 q3 q4 => by rw [sst_ne q1, sst_ne q3]; exact g6 q q1 q2 q3 q4)
  have loop1 : ∀ (j k : Nat), k + j = 8 → ∀ (σ1 : xSg), σ1 4 7 = nI (cntB (bzF hh ww) k) → (∀ b, b < k → bzF hh ww b = true → σ1 21 (cntB (bzF hh ww) b) = nI b) → (∀ j, j < 8 → σ1 23 j = 0) → GO σ σ1 → xJ pp l ee { frames := 2, cells := 0, slots := 0, locals := 40 * 2 } ss mm aa bb me cde 0 0 (MQ bb (va_Qv (fun u => GA u (bzF hh ww) (abF C ou) ∧ (∀ j, j < 8 → u 23 j = 0) ∧ GO σ u) (fun u t => va_P D vCl (wC ad cI cZ cJ u) t.heap ∧ va_D AA (wC ad cI cZ cJ u)) AA) aa ss 0 0 AA) D vCl AA 2 (va_S AA ss.heap) (wC ad cI cZ cJ σ1) [.ref (ad 4), .int (nI k)] 15 [] := by
    intro j
    induction j with
    | zero =>
      intro k hk σ1 g1 g2 g5 g6
      have hk : k = 8 := by omega
      subst hk
      refine x_iload_n G 1 dS_gather_15 rfl rfl ?_
      refine x_bipush G (8) dS_gather_16 (by decide) ?_
      refine x_icmp_ge G 58 dS_gather_18 (by decide) (fun h18 => ?_) (fun h18 => (by exact absurd (nI_le (show 8 ≤ 8 by omega) (by decide)) h18))
      refine x_aload_n G 0 dS_gather_58 rfl rfl ?_
      refine x_iconst G (0) dS_gather_59 (by decide) ?_
      refine x_put G 4 rfl rfl 8 (by decide) (Nat.le_of_ble_eq_true rfl) wput_4_8 (fun w h => .tail _ (iS_ok w h)) tS_ok nS_ok (.tail _ wd_198) rfl rfl (tS_ok 8 (by decide)) rfl rfl dS_gather_60 ?_
      refine x_iconst G (0) dS_gather_63 (by decide) ?_
      refine x_istore_n G 1 dS_gather_64 rfl (by decide) ?_
      exact loop2 4 0 (by omega) _ (by rw [sst_i (by omega)]; exact g1) (fun b q1 q2 => by rw [sst_q (by omega)]; exact g2 b q1 q2) sst_same (fun c q => by omega) (fun j q => by rw [sst_q (by omega)]; exact g5 j q) (fun q q1 q2 q3 q4 => by rw [sst_ne q1]; exact g6 q q1 q2 q3 q4)
    | succ j ih =>
      intro k hk σ1 g1 g2 g5 g6
      have hcl := cntB_le (bz := bzF hh ww) k
      have e1 : σ1 1 = σ 1 := g6 1 (by omega) (by omega) (by omega) (by omega)
      have hB1 := hB.of e1 (g6 5 (by omega) (by omega) (by omega) (by omega)) (g6 6 (by omega) (by omega) (by omega) (by omega))
      have hmv := hB.mv k
      refine x_iload_n G 1 dS_gather_15 rfl rfl ?_
      refine x_bipush G (8) dS_gather_16 (by decide) ?_
      refine x_icmp_ge G 58 dS_gather_18 (by decide) (fun h18 => (by exact absurd h18 (nI_ge (show k < 8 by omega) (by decide)))) (fun h18 => ?_)
      refine x_aload_n G 0 dS_gather_21 rfl rfl ?_
      refine x_get G 4 rfl rfl 0 (by decide) rfl (fun w h => .tail _ (iS_ok w h)) (.tail _ wd_190) rfl dS_gather_22 ?_
      refine x_iload_n G 1 dS_gather_25 rfl rfl ?_
      refine x_call0VN1i G (cB_movesOf (n := n) (by rw [e1]; exact hnt) hn8 (by omega)) 1 rfl rfl (cVN G.2.2.2.2.1 G.2.2.2.2.2.2.1 nd_254 wd_256 wd_2 wd_49 wd_257 (by decide +kernel) ⟨(Nat.le_of_ble_eq_true rfl), (Nat.le_of_ble_eq_true rfl)⟩) dS_gather_26 (Nat.le_of_ble_eq_true rfl) ⟨Nat.zero_le _, Nat.zero_le _⟩ (fun r26 e26 => ?_)
      refine x_top (z := nI (mvF hh ww k)) (by rw [e26]; exact hB1.moves k) ?_
      refine x_if_le G 52 dS_gather_29 (by decide) (fun h29 => ?_) (fun h29 => ?_)
      · have h29 : ¬ bzF hh ww k = true := by rw [show (0 : Int32) = nI 0 from rfl, nI_leI (by omega) (by omega)] at h29; simp [bzF]; omega
        have ec := cntB_z h29
        refine x_iinc G (nI (k + 1)) dS_gather_52 rfl (nI_1 k) (by decide) ?_
        refine x_goto G 15 dS_gather_55 (by decide) ?_
        first
        | exact ih (k + 1) (by omega) _ (by rw [ec]; exact g1) (fun c q1 q2 => by rcases (show c < k ∨ c = k by omega) with z | z; (· exact g2 c z q2); (· rw [z] at q2; exact absurd q2 h29)) g5 g6
        | exact ih (k + 1) (by omega) _ (by rw [sst_same, ec]) (fun c q1 q2 => by rw [sst_q (by omega)]; rcases (show c < k ∨ c = k by omega) with z | z; (· rw [sst_i (by have := (cntB_lt (b := k) q2).mpr z; omega)]; exact g2 c z q2); (· rw [z, sst_same])) (fun j q => by rw [sst_q (by omega), sst_q (by omega)]; exact g5 j q) (fun q q1 q2 q3 q4 => by rw [sst_ne q1, sst_ne q2]; exact g6 q q1 q2 q3 q4)
      · have h29 : bzF hh ww k = true := by rw [show (0 : Int32) = nI 0 from rfl, nI_leI (by omega) (by omega)] at h29; simp [bzF]; omega
        have ec := cntB_s h29
        refine x_aload_n G 0 dS_gather_32 rfl rfl ?_
        refine x_get G 4 rfl rfl 3 (by decide) rfl (fun w h => .tail _ (iS_ok w h)) (.tail _ wd_193) rfl dS_gather_33 ?_
        refine x_aload_n G 0 dS_gather_36 rfl rfl ?_
        refine x_get G 4 rfl rfl 7 (by decide) rfl (fun w h => .tail _ (iS_ok w h)) (.tail _ wd_197) rfl dS_gather_37 ?_
        refine x_top g1 ?_
        refine x_iload_n G 1 dS_gather_40 rfl rfl ?_
        refine x_iastN G 21 0 rfl rfl warr_21 (by omega) (by decide) dS_gather_41 ?_
        refine x_aload_n G 0 dS_gather_42 rfl rfl ?_
        refine x_dup G dS_gather_43 rfl ?_
        refine x_get G 4 rfl rfl 7 (by decide) rfl (fun w h => .tail _ (iS_ok w h)) (.tail _ wd_197) rfl dS_gather_44 ?_
        refine x_top (z := nI (cntB (bzF hh ww) k)) g1 ?_
        refine x_iconst G (1) dS_gather_47 (by decide) ?_
        refine x_iadd G dS_gather_48 ?_
        refine x_top (nI_1 _) ?_
        refine x_put G 4 rfl rfl 7 (by decide) (Nat.le_of_ble_eq_true rfl) wput_4_7 (fun w h => .tail _ (iS_ok w h)) tS_ok nS_ok (.tail _ wd_197) rfl rfl (tS_ok 7 (by decide)) rfl rfl dS_gather_49 ?_
        refine x_iinc G (nI (k + 1)) dS_gather_52 rfl (nI_1 k) (by decide) ?_
        refine x_goto G 15 dS_gather_55 (by decide) ?_
        first
        | exact ih (k + 1) (by omega) _ (by rw [ec]; exact g1) (fun c q1 q2 => by rcases (show c < k ∨ c = k by omega) with z | z; (· exact g2 c z q2); (· rw [z] at q2; exact absurd q2 h29)) g5 g6
        | exact ih (k + 1) (by omega) _ (by rw [sst_same, ec]) (fun c q1 q2 => by rw [sst_q (by omega)]; rcases (show c < k ∨ c = k by omega) with z | z; (· rw [sst_i (by have := (cntB_lt (b := k) q2).mpr z; omega)]; exact g2 c z q2); (· rw [z, sst_same])) (fun j q => by rw [sst_q (by omega), sst_q (by omega)]; exact g5 j q) (fun q q1 q2 q3 q4 => by rw [sst_ne q1, sst_ne q2]; exact g6 q q1 q2 q3 q4)
  refine x_aload_n G 0 dS_gather_0 rfl rfl ?_
  refine x_get G 4 rfl rfl 5 (by decide) rfl (fun w h => .tail _ (iS_ok w h)) (.tail _ wd_195) rfl dS_gather_1 ?_
  refine x_iconst G (0) dS_gather_4 (by decide) ?_
  refine x_fill G 23 0 rfl rfl (by decide) wd_253 ⟨(Nat.le_of_ble_eq_true rfl), (Nat.le_of_ble_eq_true rfl)⟩ dS_gather_5 (Nat.le_of_ble_eq_true rfl) ⟨Nat.zero_le _, Nat.zero_le _⟩ ?_
  refine x_eq wrow_23 rfl rfl rfl ?_
  refine x_aload_n G 0 dS_gather_8 rfl rfl ?_
  refine x_iconst G (0) dS_gather_9 (by decide) ?_
  refine x_put G 4 rfl rfl 7 (by decide) (Nat.le_of_ble_eq_true rfl) wput_4_7 (fun w h => .tail _ (iS_ok w h)) tS_ok nS_ok (.tail _ wd_197) rfl rfl (tS_ok 7 (by decide)) rfl rfl dS_gather_10 ?_
  refine x_iconst G (0) dS_gather_13 (by decide) ?_
  refine x_istore_n G 1 dS_gather_14 rfl (by decide) ?_
  exact loop1 8 0 (by omega) _ sst_same (fun b q => by omega) (fun j q => by rw [sst_q (by omega), rst_same]; simp [q]) (fun q q1 q2 q3 q4 => by rw [sst_ne q1, rst_ne q4])
