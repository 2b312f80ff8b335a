/-! Timetable: all times; what they answer -/
theorem TM.toK {σ : xSg} {A mv mo mi : Nat → Nat} {g s c f : Nat} (h : TM σ A mv mo mi g s (c + 1)) (hf : fstA A c 8 = some f) : TMk σ A mv mo mi g s c f f := by
  obtain ⟨h1, h2, h3⟩ := h
  obtain ⟨-, -, q3⟩ := fstA_some hf
  have no : ∀ b, ¬ (A b = c ∧ b < f) := fun b q => q3 b q.2 q.1
  refine ⟨fun b a1 a2 => by omega, h1, fun b hb hd => ?_, ?_⟩
  · rcases hd with q | q
    · exact h2 b hb q.1 q.2
    · exact absurd q (no b)
  · rw [h3]
    congr 1
    refine fiG_congr (fun b _ => ?_) (fun _ _ _ => rfl)
    have := no b
    simp [this]
theorem TMk.toM {σ : xSg} {A mv mo mi : Nat → Nat} {g s c f l' : Nat} (h : TMk σ A mv mo mi g s c f (l' + 1)) (hc : c < 4) (hf : fstA A c 8 = some f) (hl : lstA A c 8 = some l') : TM σ A mv mo mi g s c := by
  obtain ⟨h1, h2, h3, h4⟩ := h
  obtain ⟨-, -, q3⟩ := lstA_some hl
  have lo : ∀ b, b < 8 → A b = c → b < l' + 1 := fun b hb q => by
    rcases Nat.lt_or_ge l' b with z | z
    · exact absurd q (q3 b z hb)
    · omega
  refine ⟨fun d f' l2 hd1 hd2 hf' hl' b a1 a2 => ?_, fun b hb hd1 hd2 => ?_, ?_⟩
  · rcases (show c + 1 ≤ d ∨ d = c by omega) with z | z
    · exact h2 d f' l2 z hd2 hf' hl' b a1 a2
    · subst z
      rw [hf] at hf'; rw [hl] at hl'
      cases hf'; cases hl'
      exact h1 b a1 (by omega)
  · refine h3 b hb ?_
    rcases (show c + 1 ≤ A b ∨ A b = c by omega) with z | z
    · exact Or.inl ⟨z, hd2⟩
    · exact Or.inr ⟨z, lo b hb z⟩
  · rw [h4]
    congr 1
    refine fiG_congr (fun b hb => ?_) (fun _ _ _ => rfl)
    have e : ((c + 1 ≤ A b ∧ A b < 4) ∨ (A b = c ∧ b < l' + 1)) ↔ (c ≤ A b ∧ A b < 4) := by
      constructor
      · rintro (q | q)
        · omega
        · omega
      · intro q
        rcases (show c + 1 ≤ A b ∨ A b = c by omega) with z | z
        · exact Or.inl ⟨z, q.2⟩
        · exact Or.inr ⟨z, lo b hb z⟩
    exact decide_eq_decide.mpr e
theorem TM.skip {σ : xSg} {A mv mo mi : Nat → Nat} {g s c : Nat} (h : TM σ A mv mo mi g s (c + 1)) (hf : fstA A c 8 = none) : TM σ A mv mo mi g s c := by
  obtain ⟨h1, h2, h3⟩ := h
  have no := fstA_none.mp hf
  refine ⟨fun d f' l2 hd1 hd2 hf' hl' b a1 a2 => ?_, fun b hb hd1 hd2 => ?_, ?_⟩
  · rcases (show c + 1 ≤ d ∨ d = c by omega) with z | z
    · exact h1 d f' l2 z hd2 hf' hl' b a1 a2
    · subst z; rw [hf] at hf'; cases hf'
  · have := no b hb
    exact h2 b hb (by omega) hd2
  · rw [h3]
    congr 1
    refine fiG_congr (fun b hb => ?_) (fun _ _ _ => rfl)
    have := no b hb
    exact decide_eq_decide.mpr (by omega)
theorem TM.top {σ : xSg} {A mv mo mi : Nat → Nat} {g s : Nat} (h : σ 3 10 = 0) : TM σ A mv mo mi g s 4 := by
  refine ⟨fun d _ _ h1 h2 => by omega, fun b _ h1 h2 => by omega, ?_⟩
  rw [h]
  have e : ∀ k, fiG (fun b => decide (4 ≤ A b ∧ A b < 4)) (enA A mv mo mi g s) k = 0 := by
    intro k
    induction k with
    | zero => rfl
    | succ k ih => unfold fiG; rw [if_neg (by simp), ih]
  rw [e]; rfl
def cvJ (j : Nat) : Int32 := if j ≤ 3 then nI (3 - j) else -1
theorem cvJ_next {j : Nat} (h : j ≤ 3) : cvJ j + (-1) = cvJ (j + 1) := by
  rcases (show j = 0 ∨ j = 1 ∨ j = 2 ∨ j = 3 by omega) with rfl | rfl | rfl | rfl <;> decide
set_option maxHeartbeats 4000000 in
set_option maxRecDepth 100000 in
theorem cT_setTimes {l : Launch} {D : va_G} {cI cZ cJ : ClassId} {ad : Nat → Nat} {σ : xSg} {A : Nat → Nat} {n C g s : Nat} {hh ww mo mi : Nat → Nat} {ou : Nat → Bool} (hB : PB σ n hh ww) (hK : PK σ C mo mi ou) (hS : PS σ g s) (hTS : TS σ A) (hok : (apA A 8 g 4).2 = true) (hAC : ∀ b, A b < 4 → A b < C) (hfin : σ 3 10 = 0) : xCv l D vCl (tyC cI cZ cJ) nwW (wC ad cI cZ cJ) yT_setTimes (.code yT_setTimes bT_setTimes 3 none :: bigW) 3 [.ref (ad 3)] σ (fun u => TM u A (mvF hh ww) mo mi g s 0 ∧ TO σ u) := by
  refine xCv.of (cc := bT_setTimes) (nL := 3) (ret := none) rfl (by decide) [.ref (ad 3), .null, .null] rfl (Nat.le_of_ble_eq_true rfl) ?_
  intro pp ee ss mm aa bb me cde AA G hr hlk
  have loop : ∀ (i j : Nat), j + i = 4 → ∀ (σ1 : xSg), TM σ1 A (mvF hh ww) mo mi g s (4 - j) → TO σ σ1 → xJ pp l ee { frames := 3, cells := 0, slots := 0, locals := 40 * 3 } ss mm aa bb me cde 0 0 (MQ bb (va_Qv (fun u => TM u A (mvF hh ww) mo mi g s 0 ∧ TO σ u) (fun u t => va_P D vCl (wC ad cI cZ cJ u) t.heap ∧ va_D AA (wC ad cI cZ cJ u)) AA) aa ss 0 0 AA) D vCl AA 3 (va_S AA ss.heap) (wC ad cI cZ cJ σ1) [.ref (ad 3), .int (oI (nxA A j)), .int (cvJ j)] 4 [] := by
    intro i
    induction i with
    | zero =>
      intro j hj σ1 hM hO
      have hj : j = 4 := by omega
      subst hj
      refine x_iload_n G 2 dT_setTimes_4 rfl rfl ?_
      refine x_if_lt G 32 dT_setTimes_5 (by decide) (fun h5 => ?_) (fun h5 => (by exact absurd (by decide) h5))
      exact x_retv G hr hlk dT_setTimes_32 ⟨hM, hO⟩
    | succ i ih =>
      intro j hj σ1 hM hO
      have e4 : 4 - j = 3 - j + 1 := by omega
      rw [e4] at hM
      have hcv : cvJ j = nI (3 - j) := if_pos (by omega)
      refine x_eq rfl (vs2 := [.ref (ad 3), .int (oI (nxA A j)), .int (nI (3 - j))]) (by rw [hcv]) rfl rfl ?_
      have h13 : σ1 13 (3 - j) = oI (fstA A (3 - j) 8) := by rw [hO.o (by omega)]; exact (hTS.2 (3 - j) (by omega)).1
      refine x_iload_n G 2 dT_setTimes_4 rfl rfl ?_
      refine x_if_lt G 32 dT_setTimes_5 (by decide) (fun h5 => (by exact absurd h5 (nI_pos (by omega)))) (fun h5 => ?_)
      refine x_aload_n G 0 dT_setTimes_8 rfl rfl ?_
      refine x_get G 3 rfl rfl 5 (by decide) rfl (fun w h => .tail _ (iT_ok w h)) (.tail _ wd_147) rfl dT_setTimes_9 ?_
      refine x_iload_n G 2 dT_setTimes_12 rfl rfl ?_
      refine x_ialdN G 13 0 rfl rfl (by omega) (by decide) dT_setTimes_13 ?_
      refine x_iconst G (-1) dT_setTimes_14 (by decide) ?_
      refine x_icmp_eq G 26 dT_setTimes_15 (by decide) (fun h15 => ?_) (fun h15 => ?_)
      · have hf : fstA A (3 - j) 8 = none := (oI_m1 (fun b hb => by have := fst_lt hb; omega)).mp (by rw [← h13]; exact h15)
        have hM2 := hM.skip hf
        have hO2 := hO
        have e := nxA_none hf
        refine x_iinc G (cvJ (j + 1)) dT_setTimes_26 rfl (by rw [← hcv]; exact cvJ_next (by omega)) (by decide) ?_
        refine x_goto G 4 dT_setTimes_29 (by decide) ?_
        exact x_eq rfl (by rw [e]; rfl) rfl rfl (ih (j + 1) (by omega) _ (by rw [show 4 - (j + 1) = 3 - j by omega]; exact hM2) hO2)
      · obtain ⟨f, hf⟩ : ∃ f, fstA A (3 - j) 8 = some f := by
          cases hq : fstA A (3 - j) 8 with
          | none => rw [h13, hq] at h15; exact absurd rfl h15
          | some f => exact ⟨f, rfl⟩
        obtain ⟨l', hl', -, -, -⟩ := lst_of_fst hf
        have e := nxA_here hf
        refine x_aload_n G 0 dT_setTimes_18 rfl rfl ?_
        refine x_iload_n G 2 dT_setTimes_19 rfl rfl ?_
        refine x_eq (st2 := [.int (nI (3 - j)), .ref (ad 3)]) rfl rfl rfl rfl ?_
        refine x_iload_n G 1 dT_setTimes_20 rfl rfl ?_
        refine x_top (z := oI (nxA A (3 - (3 - j)))) (by rw [show 3 - (3 - j) = j by omega]) ?_
        refine x_callV2v G (cT_setTimesOf (c := 3 - j) (hB.of (hO.o (by omega)) (hO.o (by omega)) (hO.o (by omega))) (hK.of (hO.o (by omega)) (hO.o (by omega)) (hO.o (by omega)) (hO.o (by omega))) (hS.of (hO.o (by omega))) (hO.TS hTS) hok hAC (by omega) hf hl' (hM.toK hf)) 3 rfl rfl (cV G.2.2.2.2.1 wd_298 wd_300 wd_12 wd_53 wd_301 (by decide +kernel) ⟨(Nat.le_of_ble_eq_true rfl), (Nat.le_of_ble_eq_true rfl)⟩) dT_setTimes_21 (Nat.le_of_ble_eq_true rfl) ⟨Nat.zero_le _, Nat.zero_le _⟩ (fun u21 e21 => ?_)
        obtain ⟨hMk, hO1⟩ := e21
        have hM2 := hMk.toM (by omega) hf hl'
        have hO2 := hO.tr hO1
        refine x_iload_n G 2 dT_setTimes_24 rfl rfl ?_
        refine x_istore_n G 1 dT_setTimes_25 rfl (by decide) ?_
        refine x_iinc G (cvJ (j + 1)) dT_setTimes_26 rfl (by rw [← hcv]; exact cvJ_next (by omega)) (by decide) ?_
        refine x_goto G 4 dT_setTimes_29 (by decide) ?_
        exact x_eq rfl (by rw [e]; rfl) rfl rfl (ih (j + 1) (by omega) _ (by rw [show 4 - (j + 1) = 3 - j by omega]; exact hM2) hO2)
  refine x_iconst G (-1) dT_setTimes_0 (by decide) ?_
  refine x_istore_n G 1 dT_setTimes_1 rfl (by decide) ?_
  refine x_iconst G (3) dT_setTimes_2 (by decide) ?_
  refine x_istore_n G 2 dT_setTimes_3 rfl (by decide) ?_
  exact loop 4 0 (by omega) σ (TM.top hfin) TO.rf
/-- the timetable of a plan stands: sharing, times, steps -/
def TP (σ : xSg) (A mv mo mi : Nat → Nat) (g s : Nat) : Prop := TS σ A ∧ TM σ A mv mo mi g s 0 ∧ σ 3 11 = nI (spA A 8 4)
set_option maxHeartbeats 4000000 in
set_option maxRecDepth 100000 in
theorem cT_beginsAhead {l : Launch} {D : va_G} {cI cZ cJ : ClassId} {ad : Nat → Nat} {σ : xSg} {n b d x y : Nat} {cx cy : Nat} (ht : σ 1 2 = nI n) (hn : n ≤ 8) (hb : b < n) (hd : d < n) (h1 : σ 11 b = nI x) (h2 : σ 11 d = nI y) (h3 : σ 10 b = nI cx) (h4 : σ 10 d = nI cy) (b1 : x < 2 ^ 31) (b2 : y < 2 ^ 31) (b3 : cx < 4) (b4 : cy < 4) : xCi0 l D vCl (tyC cI cZ cJ) nwW (wC ad cI cZ cJ σ) yT_beginsAhead (.code yT_beginsAhead bT_beginsAhead 3 (some .boolean) :: bigW) 1 [.ref (ad 3), .int (nI b), .int (nI d)] (fun r => r = bI (x < y ∨ (x = y ∧ cx < cy))) := by
  refine xCi0.of (cc := bT_beginsAhead) (nL := 3) (ret := (some .boolean)) rfl (by decide) [.ref (ad 3), .int (nI b), .int (nI d)] rfl (Nat.le_of_ble_eq_true rfl) ?_
  intro pp ee ss mm aa bb me cde AA G hr hlk
  refine x_aload_n G 0 dT_beginsAhead_0 rfl rfl ?_
  refine x_get G 3 rfl rfl 0 (by decide) rfl (fun w h => .tail _ (iT_ok w h)) (.tail _ wd_141) rfl dT_beginsAhead_1 ?_
  refine x_iload_n G 1 dT_beginsAhead_4 rfl rfl ?_
  refine x_call0VN1i G (cB_hasN ht hn (by omega)) 1 rfl rfl (cVN G.2.2.2.2.1 G.2.2.2.2.2.2.1 nd_284 wd_260 wd_3 wd_49 wd_261 (by decide +kernel) ⟨(Nat.le_of_ble_eq_true rfl), (Nat.le_of_ble_eq_true rfl)⟩) dT_beginsAhead_5 (Nat.le_of_ble_eq_true rfl) ⟨Nat.zero_le _, Nat.zero_le _⟩ (fun r5 e5 => ?_)
  subst e5
  refine x_if_eq G 22 dT_beginsAhead_8 (by decide) (fun h8 => (by have h8 := bI_eq0.mp h8; omega)) (fun h8 => ?_)
  refine x_aload_n G 0 dT_beginsAhead_11 rfl rfl ?_
  refine x_get G 3 rfl rfl 0 (by decide) rfl (fun w h => .tail _ (iT_ok w h)) (.tail _ wd_141) rfl dT_beginsAhead_12 ?_
  refine x_iload_n G 2 dT_beginsAhead_15 rfl rfl ?_
  refine x_call0VN1i G (cB_hasN ht hn (by omega)) 1 rfl rfl (cVN G.2.2.2.2.1 G.2.2.2.2.2.2.1 nd_284 wd_260 wd_3 wd_49 wd_261 (by decide +kernel) ⟨(Nat.le_of_ble_eq_true rfl), (Nat.le_of_ble_eq_true rfl)⟩) dT_beginsAhead_16 (Nat.le_of_ble_eq_true rfl) ⟨Nat.zero_le _, Nat.zero_le _⟩ (fun r16 e16 => ?_)
  subst e16
  refine x_if_ne G 24 dT_beginsAhead_19 (by decide) (fun h19 => ?_) (fun h19 => (by have h19 := bI_eq0.mp h19; omega))
  refine x_aload_n G 0 dT_beginsAhead_24 rfl rfl ?_
  refine x_get G 3 rfl rfl 3 (by decide) rfl (fun w h => .tail _ (iT_ok w h)) (.tail _ wd_145) rfl dT_beginsAhead_25 ?_
  refine x_iload_n G 1 dT_beginsAhead_28 rfl rfl ?_
  refine x_ialdN G 11 0 rfl rfl (by omega) (by decide) dT_beginsAhead_29 ?_
  refine x_aload_n G 0 dT_beginsAhead_30 rfl rfl ?_
  refine x_get G 3 rfl rfl 3 (by decide) rfl (fun w h => .tail _ (iT_ok w h)) (.tail _ wd_145) rfl dT_beginsAhead_31 ?_
  refine x_iload_n G 2 dT_beginsAhead_34 rfl rfl ?_
  refine x_ialdN G 11 0 rfl rfl (by omega) (by decide) dT_beginsAhead_35 ?_
  refine x_icmp_eq G 62 dT_beginsAhead_36 (by decide) (fun h36 => ?_) (fun h36 => ?_)
  · rw [h1, h2, nI_eq b1 b2] at h36
    refine x_aload_n G 0 dT_beginsAhead_62 rfl rfl ?_
    refine x_get G 3 rfl rfl 2 (by decide) rfl (fun w h => .tail _ (iT_ok w h)) (.tail _ wd_143) rfl dT_beginsAhead_63 ?_
    refine x_iload_n G 1 dT_beginsAhead_66 rfl rfl ?_
    refine x_ialdN G 10 0 rfl rfl (by omega) (by decide) dT_beginsAhead_67 ?_
    refine x_aload_n G 0 dT_beginsAhead_68 rfl rfl ?_
    refine x_get G 3 rfl rfl 2 (by decide) rfl (fun w h => .tail _ (iT_ok w h)) (.tail _ wd_143) rfl dT_beginsAhead_69 ?_
    refine x_iload_n G 2 dT_beginsAhead_72 rfl rfl ?_
    refine x_ialdN G 10 0 rfl rfl (by omega) (by decide) dT_beginsAhead_73 ?_
    refine x_icmp_ge G 81 dT_beginsAhead_74 (by decide) (fun h74 => ?_) (fun h74 => ?_)
    · rw [h3, h4, nI_leI (by omega) (by omega)] at h74
      refine x_iconst G (0) dT_beginsAhead_81 (by decide) ?_
      exact x_ret0i G hr hlk rfl dT_beginsAhead_82 (by first | rw [bI_t (by omega)] | rw [bI_f (by omega)])
    · rw [h3, h4, nI_leI (by omega) (by omega)] at h74
      refine x_iconst G (1) dT_beginsAhead_77 (by decide) ?_
      refine x_goto G 82 dT_beginsAhead_78 (by decide) ?_
      exact x_ret0i G hr hlk rfl dT_beginsAhead_82 (by first | rw [bI_t (by omega)] | rw [bI_f (by omega)])
  · rw [h1, h2, nI_eq b1 b2] at h36
    refine x_aload_n G 0 dT_beginsAhead_39 rfl rfl ?_
    refine x_get G 3 rfl rfl 3 (by decide) rfl (fun w h => .tail _ (iT_ok w h)) (.tail _ wd_145) rfl dT_beginsAhead_40 ?_
    refine x_iload_n G 1 dT_beginsAhead_43 rfl rfl ?_
    refine x_ialdN G 11 0 rfl rfl (by omega) (by decide) dT_beginsAhead_44 ?_
    refine x_aload_n G 0 dT_beginsAhead_45 rfl rfl ?_
    refine x_get G 3 rfl rfl 3 (by decide) rfl (fun w h => .tail _ (iT_ok w h)) (.tail _ wd_145) rfl dT_beginsAhead_46 ?_
    refine x_iload_n G 2 dT_beginsAhead_49 rfl rfl ?_
    refine x_ialdN G 11 0 rfl rfl (by omega) (by decide) dT_beginsAhead_50 ?_
    refine x_icmp_ge G 58 dT_beginsAhead_51 (by decide) (fun h51 => ?_) (fun h51 => ?_)
    · rw [h1, h2, nI_leI b2 b1] at h51
      refine x_iconst G (0) dT_beginsAhead_58 (by decide) ?_
      refine x_goto G 82 dT_beginsAhead_59 (by decide) ?_
      exact x_ret0i G hr hlk rfl dT_beginsAhead_82 (by first | rw [bI_t (by omega)] | rw [bI_f (by omega)])
    · rw [h1, h2, nI_leI b2 b1] at h51
      refine x_iconst G (1) dT_beginsAhead_54 (by decide) ?_
      refine x_goto G 82 dT_beginsAhead_55 (by decide) ?_
      exact x_ret0i G hr hlk rfl dT_beginsAhead_82 (by first | rw [bI_t (by omega)] | rw [bI_f (by omega)])
/-- the first bay below k.. that a crane works at at a time: found from j bays before the end -/
def wkA (A bg en : Nat → Nat) (c : Nat) (t : Int) : Nat → Option Nat
  | 0 => none
  | j + 1 => if A (7 - j) = c ∧ (bg (7 - j) : Int) ≤ t ∧ t < (en (7 - j) : Int) then some (7 - j) else wkA A bg en c t j
set_option maxHeartbeats 4000000 in
set_option maxRecDepth 100000 in
theorem cT_bayWorkedAt {l : Launch} {D : va_G} {cI cZ cJ : ClassId} {ad : Nat → Nat} {σ : xSg} {A bg en : Nat → Nat} {c : Nat} {t : Int32} (hTS : TS σ A) (hc : c < 4) (hbe : ∀ b, b < 8 → A b = c → σ 11 b = nI (bg b) ∧ σ 12 b = nI (en b) ∧ bg b < 2 ^ 31 ∧ en b < 2 ^ 31) : xCi0 l D vCl (tyC cI cZ cJ) nwW (wC ad cI cZ cJ σ) yT_bayWorkedAt (.code yT_bayWorkedAt bT_bayWorkedAt 4 (some .int) :: bigW) 0 [.ref (ad 3), .int (nI c), .int t] (fun r => r = oI (wkA A bg en c t.toInt 8)) := by
  refine xCi0.of (cc := bT_bayWorkedAt) (nL := 4) (ret := (some .int)) rfl (by decide) [.ref (ad 3), .int (nI c), .int t, .null] rfl (Nat.le_of_ble_eq_true rfl) ?_
  intro pp ee ss mm aa bb me cde AA G hr hlk
  have loop : ∀ (j k : Nat), k + j = 8 → wkA A bg en c t.toInt j = wkA A bg en c t.toInt 8 → xJ pp l ee { frames := 0, cells := 0, slots := 0, locals := 40 * 0 } ss mm aa bb me cde 0 0 (MQ bb (vp_Si (fun r => r = oI (wkA A bg en c t.toInt 8))) aa ss 0 0 (fun _ => False)) D vCl AA 4 (fun H locs => H = ss.heap ∧ locs = []) (wC ad cI cZ cJ σ) [.ref (ad 3), .int (nI c), .int t, .int (nI k)] 2 [] := by
    intro j
    induction j with
    | zero =>
      intro k hk he
      have hk : k = 8 := by omega
      subst hk
      refine x_iload_n G 3 dT_bayWorkedAt_2 rfl rfl ?_
      refine x_bipush G (8) dT_bayWorkedAt_3 (by decide) ?_
      refine x_icmp_ge G 46 dT_bayWorkedAt_5 (by decide) (fun h5 => ?_) (fun h5 => (by exact absurd (nI_le (show 8 ≤ 8 by omega) (by decide)) h5))
      refine x_iconst G (-1) dT_bayWorkedAt_46 (by decide) ?_
      exact x_ret0i G hr hlk rfl dT_bayWorkedAt_47 (by rw [← he]; rfl)
    | succ j ih =>
      intro k hk he
      have e7 : 7 - j = k := by omega
      have hA := hTS.1 k (by omega)
      refine x_iload_n G 3 dT_bayWorkedAt_2 rfl rfl ?_
      refine x_bipush G (8) dT_bayWorkedAt_3 (by decide) ?_
      refine x_icmp_ge G 46 dT_bayWorkedAt_5 (by decide) (fun h5 => (by exact absurd h5 (nI_ge (show k < 8 by omega) (by decide)))) (fun h5 => ?_)
      refine x_aload_n G 0 dT_bayWorkedAt_8 rfl rfl ?_
      refine x_get G 3 rfl rfl 2 (by decide) rfl (fun w h => .tail _ (iT_ok w h)) (.tail _ wd_143) rfl dT_bayWorkedAt_9 ?_
      refine x_iload_n G 3 dT_bayWorkedAt_12 rfl rfl ?_
      refine x_ialdN G 10 0 rfl rfl (by omega) (by decide) dT_bayWorkedAt_13 ?_
      refine x_iload_n G 1 dT_bayWorkedAt_14 rfl rfl ?_
      refine x_icmp_ne G 40 dT_bayWorkedAt_15 (by decide) (fun h15 => ?_) (fun h15 => ?_)
      · rw [hA, aI_eq hc] at h15
        have e : wkA A bg en c t.toInt (j + 1) = wkA A bg en c t.toInt j := by rw [wkA, e7, if_neg (fun q => h15 q.1)]
        refine x_iinc G (nI (k + 1)) dT_bayWorkedAt_40 rfl (nI_1 k) (by decide) ?_
        refine x_goto G 2 dT_bayWorkedAt_43 (by decide) ?_
        exact ih (k + 1) (by omega) (by rw [← he, e])
      · rw [hA, aI_eq hc] at h15
        obtain ⟨q1, q2, q3, q4⟩ := hbe k (by omega) h15
        refine x_aload_n G 0 dT_bayWorkedAt_18 rfl rfl ?_
        refine x_get G 3 rfl rfl 3 (by decide) rfl (fun w h => .tail _ (iT_ok w h)) (.tail _ wd_145) rfl dT_bayWorkedAt_19 ?_
        refine x_iload_n G 3 dT_bayWorkedAt_22 rfl rfl ?_
        refine x_ialdN G 11 0 rfl rfl (by omega) (by decide) dT_bayWorkedAt_23 ?_
        refine x_iload_n G 2 dT_bayWorkedAt_24 rfl rfl ?_
        refine x_icmp_gt G 40 dT_bayWorkedAt_25 (by decide) (fun h25 => ?_) (fun h25 => ?_)
        · rw [q1, i32_lt, nI_toInt q3] at h25
          have e : wkA A bg en c t.toInt (j + 1) = wkA A bg en c t.toInt j := by rw [wkA, e7, if_neg (by omega)]
          refine x_iinc G (nI (k + 1)) dT_bayWorkedAt_40 rfl (nI_1 k) (by decide) ?_
          refine x_goto G 2 dT_bayWorkedAt_43 (by decide) ?_
          exact ih (k + 1) (by omega) (by rw [← he, e])
        · rw [q1, i32_lt, nI_toInt q3] at h25
          refine x_iload_n G 2 dT_bayWorkedAt_28 rfl rfl ?_
          refine x_aload_n G 0 dT_bayWorkedAt_29 rfl rfl ?_
          refine x_get G 3 rfl rfl 4 (by decide) rfl (fun w h => .tail _ (iT_ok w h)) (.tail _ wd_146) rfl dT_bayWorkedAt_30 ?_
          refine x_iload_n G 3 dT_bayWorkedAt_33 rfl rfl ?_
          refine x_ialdN G 12 0 rfl rfl (by omega) (by decide) dT_bayWorkedAt_34 ?_
          refine x_icmp_ge G 40 dT_bayWorkedAt_35 (by decide) (fun h35 => ?_) (fun h35 => ?_)
          · rw [q2, i32_le, nI_toInt q4] at h35
            have e : wkA A bg en c t.toInt (j + 1) = wkA A bg en c t.toInt j := by rw [wkA, e7, if_neg (by omega)]
            refine x_iinc G (nI (k + 1)) dT_bayWorkedAt_40 rfl (nI_1 k) (by decide) ?_
            refine x_goto G 2 dT_bayWorkedAt_43 (by decide) ?_
            exact ih (k + 1) (by omega) (by rw [← he, e])
          · rw [q2, i32_le, nI_toInt q4] at h35
            have e : wkA A bg en c t.toInt (j + 1) = some k := by rw [wkA, e7, if_pos (by omega)]
            refine x_iload_n G 3 dT_bayWorkedAt_38 rfl rfl ?_
            exact x_ret0i G hr hlk rfl dT_bayWorkedAt_39 (by rw [← he, e]; rfl)
  refine x_iconst G (0) dT_bayWorkedAt_0 (by decide) ?_
  refine x_istore_n G 3 dT_bayWorkedAt_1 rfl (by decide) ?_
  exact loop 8 0 (by omega) rfl
/-- the bay to which a crane came last by a time: of the bays from f on, k of them -/
def ctA (cm : Nat → Nat) (f t : Nat) : Nat → Nat
  | 0 => f
  | k + 1 => if cm (f + k) ≤ t then f + k else ctA cm f t k
set_option maxHeartbeats 4000000 in
set_option maxRecDepth 100000 in
theorem cT_bayCameTo {l : Launch} {D : va_G} {cI cZ cJ : ClassId} {ad : Nat → Nat} {σ : xSg} {C c f l' t : Nat} {cm : Nat → Nat} (hC : σ 2 0 = nI C) (hC4 : C ≤ 4) (hc : c < C) (hf : σ 13 c = nI f) (hl : σ 14 c = nI l') (hfl : f ≤ l') (hl8 : l' < 8) (ht : t < 2 ^ 31) (hcm : ∀ b, f ≤ b → b ≤ l' → σ (16 + c) b = nI (cm b) ∧ cm b < 2 ^ 31) : xCi0 l D vCl (tyC cI cZ cJ) nwW (wC ad cI cZ cJ σ) yT_bayCameTo (.code yT_bayCameTo bT_bayCameTo 5 (some .int) :: bigW) 1 [.ref (ad 3), .int (nI c), .int (nI t)] (fun r => r = nI (ctA cm f t (l' + 1 - f))) := by
  refine xCi0.of (cc := bT_bayCameTo) (nL := 5) (ret := (some .int)) rfl (by decide) [.ref (ad 3), .int (nI c), .int (nI t), .null, .null] rfl (Nat.le_of_ble_eq_true rfl) ?_
  intro pp ee ss mm aa bb me cde AA G hr hlk
  have hcC : c < 4 := by omega
  have hl14 : σ 14 c = nI l' := hl
  have loop : ∀ (j k : Nat), f + k + j = l' + 1 → xJ pp l ee { frames := 1, cells := 0, slots := 0, locals := 40 * 1 } ss mm aa bb me cde 0 0 (MQ bb (vp_Si (fun r => r = nI (ctA cm f t (l' + 1 - f)))) aa ss 0 0 (fun _ => False)) D vCl AA 5 (fun H locs => H = ss.heap ∧ locs = []) (wC ad cI cZ cJ σ) [.ref (ad 3), .int (nI c), .int (nI t), .int (nI (ctA cm f t k)), .int (nI (f + k))] 37 [] := by
    intro j
    induction j with
    | zero =>
      intro k hk
      refine x_iload G dT_bayCameTo_37 rfl ?_
      refine x_aload_n G 0 dT_bayCameTo_39 rfl rfl ?_
      refine x_get G 3 rfl rfl 6 (by decide) rfl (fun w h => .tail _ (iT_ok w h)) (.tail _ wd_148) rfl dT_bayCameTo_40 ?_
      refine x_iload_n G 1 dT_bayCameTo_43 rfl rfl ?_
      refine x_ialdN G 14 0 rfl rfl (by omega) (by decide) dT_bayCameTo_44 ?_
      refine x_icmp_gt G 77 dT_bayCameTo_45 (by decide) (fun h45 => ?_) (fun h45 => (by rw [hl14] at h45; exact absurd (nI_lt (by omega) (by omega)) h45))
      refine x_iload_n G 3 dT_bayCameTo_77 rfl rfl ?_
      exact x_ret0i G hr hlk rfl dT_bayCameTo_78 (by rw [show l' + 1 - f = k by omega])
    | succ j ih =>
      intro k hk
      obtain ⟨hq1, hq2⟩ := hcm (f + k) (by omega) (by omega)
      refine x_iload G dT_bayCameTo_37 rfl ?_
      refine x_aload_n G 0 dT_bayCameTo_39 rfl rfl ?_
      refine x_get G 3 rfl rfl 6 (by decide) rfl (fun w h => .tail _ (iT_ok w h)) (.tail _ wd_148) rfl dT_bayCameTo_40 ?_
      refine x_iload_n G 1 dT_bayCameTo_43 rfl rfl ?_
      refine x_ialdN G 14 0 rfl rfl (by omega) (by decide) dT_bayCameTo_44 ?_
      refine x_icmp_gt G 77 dT_bayCameTo_45 (by decide) (fun h45 => (by rw [hl14, nI_ltI (by omega) (by omega)] at h45; omega)) (fun h45 => ?_)
      refine x_iload G dT_bayCameTo_48 rfl ?_
      refine x_bipush G (8) dT_bayCameTo_50 (by decide) ?_
      refine x_icmp_ge G 77 dT_bayCameTo_52 (by decide) (fun h52 => (by exact absurd h52 (nI_ge (show f + k < 8 by omega) (by decide)))) (fun h52 => ?_)
      refine x_aload_n G 0 dT_bayCameTo_55 rfl rfl ?_
      refine x_get G 3 rfl rfl 7 (by decide) rfl (fun w h => .tail _ (iT_ok w h)) (.tail _ wd_149) rfl dT_bayCameTo_56 ?_
      refine x_iload_n G 1 dT_bayCameTo_59 rfl rfl ?_
      refine x_aald G 15 2 rfl rfl rfl hcC (by decide) (if_pos hcC) dT_bayCameTo_60 ?_
      refine x_iload G dT_bayCameTo_61 rfl ?_
      refine x_ialdN G (16 + c) 0 (wC_row hcC) rfl (by omega) (by decide) dT_bayCameTo_63 ?_
      refine x_iload_n G 2 dT_bayCameTo_64 rfl rfl ?_
      refine x_icmp_gt G 71 dT_bayCameTo_65 (by decide) (fun h65 => ?_) (fun h65 => ?_)
      · rw [hq1, nI_ltI (by omega) (by omega)] at h65
        have e : ctA cm f t (k + 1) = ctA cm f t k := by rw [ctA, if_neg (by omega)]
        refine x_iinc G (nI (f + (k + 1))) dT_bayCameTo_71 rfl (nI_1 (f + k)) (by decide) ?_
        refine x_goto G 37 dT_bayCameTo_74 (by decide) ?_
        exact x_eq rfl (by rw [e]; rfl) rfl rfl (ih (k + 1) (by omega))
      · rw [hq1, nI_ltI (by omega) (by omega)] at h65
        have e : ctA cm f t (k + 1) = f + k := by rw [ctA, if_pos (by omega)]
        refine x_iload G dT_bayCameTo_68 rfl ?_
        refine x_istore_n G 3 dT_bayCameTo_70 rfl (by decide) ?_
        refine x_iinc G (nI (f + (k + 1))) dT_bayCameTo_71 rfl (nI_1 (f + k)) (by decide) ?_
        refine x_goto G 37 dT_bayCameTo_74 (by decide) ?_
        exact x_eq rfl (by rw [e]; rfl) rfl rfl (ih (k + 1) (by omega))
  refine x_aload_n G 0 dT_bayCameTo_0 rfl rfl ?_
  refine x_get G 3 rfl rfl 1 (by decide) rfl (fun w h => .tail _ (iT_ok w h)) (.tail _ wd_142) rfl dT_bayCameTo_1 ?_
  refine x_iload_n G 1 dT_bayCameTo_4 rfl rfl ?_
  refine x_call0VN1i G (cK_hasN hC hC4 (by omega)) 2 rfl rfl (cVN G.2.2.2.2.1 G.2.2.2.2.2.2.1 nd_285 wd_268 wd_5 wd_50 wd_269 (by decide +kernel) ⟨(Nat.le_of_ble_eq_true rfl), (Nat.le_of_ble_eq_true rfl)⟩) dT_bayCameTo_5 (Nat.le_of_ble_eq_true rfl) ⟨Nat.zero_le _, Nat.zero_le _⟩ (fun r5 e5 => ?_)
  subst e5
  refine x_if_eq G 21 dT_bayCameTo_8 (by decide) (fun h8 => (by have h8 := bI_eq0.mp h8; omega)) (fun h8 => ?_)
  refine x_aload_n G 0 dT_bayCameTo_11 rfl rfl ?_
  refine x_get G 3 rfl rfl 5 (by decide) rfl (fun w h => .tail _ (iT_ok w h)) (.tail _ wd_147) rfl dT_bayCameTo_12 ?_
  refine x_iload_n G 1 dT_bayCameTo_15 rfl rfl ?_
  refine x_ialdN G 13 0 rfl rfl (by omega) (by decide) dT_bayCameTo_16 ?_
  refine x_iconst G (-1) dT_bayCameTo_17 (by decide) ?_
  refine x_icmp_ne G 23 dT_bayCameTo_18 (by decide) (fun h18 => ?_) (fun h18 => (by rw [hf] at h18; exact absurd h18 (nI_m1 (by omega))))
  refine x_aload_n G 0 dT_bayCameTo_23 rfl rfl ?_
  refine x_get G 3 rfl rfl 5 (by decide) rfl (fun w h => .tail _ (iT_ok w h)) (.tail _ wd_147) rfl dT_bayCameTo_24 ?_
  refine x_iload_n G 1 dT_bayCameTo_27 rfl rfl ?_
  refine x_ialdN G 13 0 rfl rfl (by omega) (by decide) dT_bayCameTo_28 ?_
  refine x_top hf ?_
  refine x_istore_n G 3 dT_bayCameTo_29 rfl (by decide) ?_
  refine x_iconst G (0) dT_bayCameTo_30 (by decide) ?_
  refine x_iload_n G 3 dT_bayCameTo_31 rfl rfl ?_
  refine x_mmax G (.tail _ wd_302) (.tail _ wd_101) (.tail _ wd_51) (.tail _ wd_102) ⟨(Nat.le_of_ble_eq_true rfl), (Nat.le_of_ble_eq_true rfl), Nat.zero_le _, Nat.zero_le _⟩ dT_bayCameTo_32 ?_
  refine x_top (z := nI f) (by show (if nI 0 < nI f then nI f else nI 0) = _; rw [nI_max (by omega) (by omega), Nat.zero_max]) ?_
  refine x_istore G dT_bayCameTo_35 (by decide) ?_
  exact loop (l' + 1 - f) 0 (by omega)
set_option maxHeartbeats 4000000 in
set_option maxRecDepth 100000 in
theorem cT_bayCameTo0 {l : Launch} {D : va_G} {cI cZ cJ : ClassId} {ad : Nat → Nat} {σ : xSg} {C c : Nat} {t : Int32} (hC : σ 2 0 = nI C) (hC4 : C ≤ 4) (hc : c < C) (hf : σ 13 c = -1) : xCi0 l D vCl (tyC cI cZ cJ) nwW (wC ad cI cZ cJ σ) yT_bayCameTo (.code yT_bayCameTo bT_bayCameTo 5 (some .int) :: bigW) 1 [.ref (ad 3), .int (nI c), .int t] (fun r => r = -1) := by
  refine xCi0.of (cc := bT_bayCameTo) (nL := 5) (ret := (some .int)) rfl (by decide) [.ref (ad 3), .int (nI c), .int t, .null, .null] rfl (Nat.le_of_ble_eq_true rfl) ?_
  intro pp ee ss mm aa bb me cde AA G hr hlk
  refine x_aload_n G 0 dT_bayCameTo_0 rfl rfl ?_
  refine x_get G 3 rfl rfl 1 (by decide) rfl (fun w h => .tail _ (iT_ok w h)) (.tail _ wd_142) rfl dT_bayCameTo_1 ?_
  refine x_iload_n G 1 dT_bayCameTo_4 rfl rfl ?_
  refine x_call0VN1i G (cK_hasN hC hC4 (by omega)) 2 rfl rfl (cVN G.2.2.2.2.1 G.2.2.2.2.2.2.1 nd_285 wd_268 wd_5 wd_50 wd_269 (by decide +kernel) ⟨(Nat.le_of_ble_eq_true rfl), (Nat.le_of_ble_eq_true rfl)⟩) dT_bayCameTo_5 (Nat.le_of_ble_eq_true rfl) ⟨Nat.zero_le _, Nat.zero_le _⟩ (fun r5 e5 => ?_)
  subst e5
  refine x_if_eq G 21 dT_bayCameTo_8 (by decide) (fun h8 => (by have h8 := bI_eq0.mp h8; omega)) (fun h8 => ?_)
  refine x_aload_n G 0 dT_bayCameTo_11 rfl rfl ?_
  refine x_get G 3 rfl rfl 5 (by decide) rfl (fun w h => .tail _ (iT_ok w h)) (.tail _ wd_147) rfl dT_bayCameTo_12 ?_
  refine x_iload_n G 1 dT_bayCameTo_15 rfl rfl ?_
  refine x_ialdN G 13 0 rfl rfl (by omega) (by decide) dT_bayCameTo_16 ?_
  refine x_iconst G (-1) dT_bayCameTo_17 (by decide) ?_
  refine x_icmp_ne G 23 dT_bayCameTo_18 (by decide) (fun h18 => (by exact absurd hf h18)) (fun h18 => ?_)
  refine x_iconst G (-1) dT_bayCameTo_21 (by decide) ?_
  exact x_ret0i G hr hlk rfl dT_bayCameTo_22 rfl
/-- the moves that are done at a bay by a time -/
def dnA (A mv mo mi bg en : Nat → Nat) (b t : Nat) : Nat := if ¬ A b < 4 ∨ t ≤ bg b then 0 else if en b ≤ t then mv b else (t - bg b) * mo (A b) / mi (A b)
set_option maxHeartbeats 4000000 in
set_option maxRecDepth 100000 in
theorem cT_doneBy {l : Launch} {D : va_G} {cI cZ cJ : ClassId} {ad : Nat → Nat} {σ : xSg} {A bg en : Nat → Nat} {n C b t : Nat} {hh ww mo mi : Nat → Nat} {ou : Nat → Bool} (hB : PB σ n hh ww) (hK : PK σ C mo mi ou) (hAC : ∀ b, A b < 4 → A b < C) (hb : b < n) (ht : t < 2 ^ 31) (h10 : σ 10 b = aI (A b)) (hbe : A b < 4 → σ 11 b = nI (bg b) ∧ σ 12 b = nI (en b) ∧ bg b ≤ 1000000 ∧ en b ≤ 1000000) : xCi0 l D vCl (tyC cI cZ cJ) nwW (wC ad cI cZ cJ σ) yT_doneBy (.code yT_doneBy bT_doneBy 3 (some .int) :: bigW) 2 [.ref (ad 3), .int (nI b), .int (nI t)] (fun r => r = nI (dnA A (mvF hh ww) mo mi bg en b t)) := by
  refine xCi0.of (cc := bT_doneBy) (nL := 3) (ret := (some .int)) rfl (by decide) [.ref (ad 3), .int (nI b), .int (nI t)] rfl (Nat.le_of_ble_eq_true rfl) ?_
  intro pp ee ss mm aa bb me cde AA G hr hlk
  obtain ⟨hn8, hnt, hbw, hbb, hb0⟩ := id hB
  refine x_aload_n G 0 dT_doneBy_0 rfl rfl ?_
  refine x_get G 3 rfl rfl 0 (by decide) rfl (fun w h => .tail _ (iT_ok w h)) (.tail _ wd_141) rfl dT_doneBy_1 ?_
  refine x_iload_n G 1 dT_doneBy_4 rfl rfl ?_
  refine x_call0VN1i G (cB_hasN hnt hn8 (by omega)) 1 rfl rfl (cVN G.2.2.2.2.1 G.2.2.2.2.2.2.1 nd_284 wd_260 wd_3 wd_49 wd_261 (by decide +kernel) ⟨(Nat.le_of_ble_eq_true rfl), (Nat.le_of_ble_eq_true rfl)⟩) dT_doneBy_5 (Nat.le_of_ble_eq_true rfl) ⟨Nat.zero_le _, Nat.zero_le _⟩ (fun r5 e5 => ?_)
  subst e5
  refine x_if_eq G 31 dT_doneBy_8 (by decide) (fun h8 => (by have h8 := bI_eq0.mp h8; omega)) (fun h8 => ?_)
  refine x_aload_n G 0 dT_doneBy_11 rfl rfl ?_
  refine x_get G 3 rfl rfl 2 (by decide) rfl (fun w h => .tail _ (iT_ok w h)) (.tail _ wd_143) rfl dT_doneBy_12 ?_
  refine x_iload_n G 1 dT_doneBy_15 rfl rfl ?_
  refine x_ialdN G 10 0 rfl rfl (by omega) (by decide) dT_doneBy_16 ?_
  refine x_iconst G (-1) dT_doneBy_17 (by decide) ?_
  refine x_icmp_eq G 31 dT_doneBy_18 (by decide) (fun h18 => ?_) (fun h18 => ?_)
  · rw [h10, aI_m1] at h18
    have e : dnA A (mvF hh ww) mo mi bg en b t = 0 := if_pos (Or.inl h18)
    refine x_iconst G (0) dT_doneBy_31 (by decide) ?_
    exact x_ret0i G hr hlk rfl dT_doneBy_32 (by rw [e]; rfl)
  · rw [h10, aI_m1, Decidable.not_not] at h18
    have hA := h18
    obtain ⟨q1, q2, q3, q4⟩ := hbe hA
    refine x_iload_n G 2 dT_doneBy_21 rfl rfl ?_
    refine x_aload_n G 0 dT_doneBy_22 rfl rfl ?_
    refine x_get G 3 rfl rfl 3 (by decide) rfl (fun w h => .tail _ (iT_ok w h)) (.tail _ wd_145) rfl dT_doneBy_23 ?_
    refine x_iload_n G 1 dT_doneBy_26 rfl rfl ?_
    refine x_ialdN G 11 0 rfl rfl (by omega) (by decide) dT_doneBy_27 ?_
    refine x_icmp_gt G 33 dT_doneBy_28 (by decide) (fun h28 => ?_) (fun h28 => ?_)
    · rw [q1, nI_ltI (by omega) (by omega)] at h28
      refine x_iload_n G 2 dT_doneBy_33 rfl rfl ?_
      refine x_aload_n G 0 dT_doneBy_34 rfl rfl ?_
      refine x_get G 3 rfl rfl 4 (by decide) rfl (fun w h => .tail _ (iT_ok w h)) (.tail _ wd_146) rfl dT_doneBy_35 ?_
      refine x_iload_n G 1 dT_doneBy_38 rfl rfl ?_
      refine x_ialdN G 12 0 rfl rfl (by omega) (by decide) dT_doneBy_39 ?_
      refine x_icmp_lt G 52 dT_doneBy_40 (by decide) (fun h40 => ?_) (fun h40 => ?_)
      · rw [q2, nI_ltI (by omega) (by omega)] at h40
        have e : dnA A (mvF hh ww) mo mi bg en b t = (t - bg b) * mo (A b) / mi (A b) := by unfold dnA; rw [if_neg (by omega), if_neg (by omega)]
        refine x_aload_n G 0 dT_doneBy_52 rfl rfl ?_
        refine x_get G 3 rfl rfl 1 (by decide) rfl (fun w h => .tail _ (iT_ok w h)) (.tail _ wd_142) rfl dT_doneBy_53 ?_
        refine x_aload_n G 0 dT_doneBy_56 rfl rfl ?_
        refine x_get G 3 rfl rfl 2 (by decide) rfl (fun w h => .tail _ (iT_ok w h)) (.tail _ wd_143) rfl dT_doneBy_57 ?_
        refine x_iload_n G 1 dT_doneBy_60 rfl rfl ?_
        refine x_ialdN G 10 0 rfl rfl (by omega) (by decide) dT_doneBy_61 ?_
        refine x_top (z := nI (A b)) (by rw [h10, aI_t hA]) ?_
        refine x_iload_n G 2 dT_doneBy_62 rfl rfl ?_
        refine x_aload_n G 0 dT_doneBy_63 rfl rfl ?_
        refine x_get G 3 rfl rfl 3 (by decide) rfl (fun w h => .tail _ (iT_ok w h)) (.tail _ wd_145) rfl dT_doneBy_64 ?_
        refine x_iload_n G 1 dT_doneBy_67 rfl rfl ?_
        refine x_ialdN G 11 0 rfl rfl (by omega) (by decide) dT_doneBy_68 ?_
        refine x_isub G dT_doneBy_69 ?_
        refine x_top (z := nI (t - bg b)) (by rw [q1]; exact pk_sub (by omega)) ?_
        refine x_call0VN2i G (cK_movesIn hK (hAC b hA) (by omega)) 2 rfl rfl (cVN G.2.2.2.2.1 G.2.2.2.2.2.2.1 nd_554 wd_556 wd_30 wd_50 wd_557 (by decide +kernel) ⟨(Nat.le_of_ble_eq_true rfl), (Nat.le_of_ble_eq_true rfl)⟩) dT_doneBy_70 (Nat.le_of_ble_eq_true rfl) ⟨Nat.zero_le _, Nat.zero_le _⟩ (fun r70 e70 => ?_)
        subst e70
        exact x_ret0i G hr hlk rfl dT_doneBy_73 (by rw [e])
      · rw [q2, nI_ltI (by omega) (by omega)] at h40
        have e : dnA A (mvF hh ww) mo mi bg en b t = mvF hh ww b := by unfold dnA; rw [if_neg (by omega), if_pos (by omega)]
        refine x_aload_n G 0 dT_doneBy_43 rfl rfl ?_
        refine x_get G 3 rfl rfl 0 (by decide) rfl (fun w h => .tail _ (iT_ok w h)) (.tail _ wd_141) rfl dT_doneBy_44 ?_
        refine x_iload_n G 1 dT_doneBy_47 rfl rfl ?_
        refine x_call0VN1i G (cB_movesOf hnt hn8 (by omega)) 1 rfl rfl (cVN G.2.2.2.2.1 G.2.2.2.2.2.2.1 nd_303 wd_256 wd_2 wd_49 wd_257 (by decide +kernel) ⟨(Nat.le_of_ble_eq_true rfl), (Nat.le_of_ble_eq_true rfl)⟩) dT_doneBy_48 (Nat.le_of_ble_eq_true rfl) ⟨Nat.zero_le _, Nat.zero_le _⟩ (fun r48 e48 => ?_)
        subst e48
        exact x_ret0i G hr hlk rfl dT_doneBy_51 (by rw [e]; exact hB.moves b)
    · rw [q1, nI_ltI (by omega) (by omega)] at h28
      have e : dnA A (mvF hh ww) mo mi bg en b t = 0 := if_pos (Or.inr (by omega))
      refine x_iconst G (0) dT_doneBy_31 (by decide) ?_
      exact x_ret0i G hr hlk rfl dT_doneBy_32 (by rw [e]; rfl)
set_option maxHeartbeats 4000000 in
set_option maxRecDepth 100000 in
theorem cT_ofRow0 {l : Launch} {D : va_G} {cI cZ cJ : ClassId} {ad : Nat → Nat} {σ : xSg} {n i b rw' : Nat} (ht : σ 1 2 = nI n) (hn : n ≤ 8) (hr9 : σ 3 9 = nI rw') (hi : i < rw') (hr8 : rw' ≤ 8) (hb20 : σ 20 i = nI b) (hb : b < n) : xCi0 l D vCl (tyC cI cZ cJ) nwW (wC ad cI cZ cJ σ) yT_ofRow (.code yT_ofRow bT_ofRow 4 (some .int) :: bigW) 1 [.ref (ad 3), .int (nI i), .int 0] (fun r => r = σ 11 b) := by
  refine xCi0.of (cc := bT_ofRow) (nL := 4) (ret := (some .int)) rfl (by decide) [.ref (ad 3), .int (nI i), .int 0, .null] rfl (Nat.le_of_ble_eq_true rfl) ?_
  intro pp ee ss mm aa bb me cde AA G hr hlk
  refine x_iload_n G 1 dT_ofRow_0 rfl rfl ?_
  refine x_if_lt G 34 dT_ofRow_1 (by decide) (fun h1 => (by exact absurd h1 (nI_pos (by omega)))) (fun h1 => ?_)
  refine x_iload_n G 1 dT_ofRow_4 rfl rfl ?_
  refine x_aload_n G 0 dT_ofRow_5 rfl rfl ?_
  refine x_get G 3 rfl rfl 9 (by decide) rfl (fun w h => .tail _ (iT_ok w h)) (.tail _ wd_151) rfl dT_ofRow_6 ?_
  refine x_icmp_ge G 34 dT_ofRow_9 (by decide) (fun h9 => (by rw [hr9, nI_leI (by omega) (by omega)] at h9; omega)) (fun h9 => ?_)
  refine x_iload_n G 1 dT_ofRow_12 rfl rfl ?_
  refine x_bipush G (8) dT_ofRow_13 (by decide) ?_
  refine x_icmp_ge G 34 dT_ofRow_15 (by decide) (fun h15 => (by exact absurd h15 (nI_ge (show i < 8 by omega) (by decide)))) (fun h15 => ?_)
  refine x_aload_n G 0 dT_ofRow_18 rfl rfl ?_
  refine x_get G 3 rfl rfl 0 (by decide) rfl (fun w h => .tail _ (iT_ok w h)) (.tail _ wd_141) rfl dT_ofRow_19 ?_
  refine x_aload_n G 0 dT_ofRow_22 rfl rfl ?_
  refine x_get G 3 rfl rfl 8 (by decide) rfl (fun w h => .tail _ (iT_ok w h)) (.tail _ wd_150) rfl dT_ofRow_23 ?_
  refine x_iload_n G 1 dT_ofRow_26 rfl rfl ?_
  refine x_ialdN G 20 0 rfl rfl (by omega) (by decide) dT_ofRow_27 ?_
  refine x_top (z := nI b) hb20 ?_
  refine x_call0VN1i G (cB_hasN ht hn (by omega)) 1 rfl rfl (cVN G.2.2.2.2.1 G.2.2.2.2.2.2.1 nd_284 wd_260 wd_3 wd_49 wd_261 (by decide +kernel) ⟨(Nat.le_of_ble_eq_true rfl), (Nat.le_of_ble_eq_true rfl)⟩) dT_ofRow_28 (Nat.le_of_ble_eq_true rfl) ⟨Nat.zero_le _, Nat.zero_le _⟩ (fun r28 e28 => ?_)
  subst e28
  refine x_if_ne G 36 dT_ofRow_31 (by decide) (fun h31 => ?_) (fun h31 => (by have h31 := bI_eq0.mp h31; omega))
  refine x_aload_n G 0 dT_ofRow_36 rfl rfl ?_
  refine x_get G 3 rfl rfl 8 (by decide) rfl (fun w h => .tail _ (iT_ok w h)) (.tail _ wd_150) rfl dT_ofRow_37 ?_
  refine x_iload_n G 1 dT_ofRow_40 rfl rfl ?_
  refine x_ialdN G 20 0 rfl rfl (by omega) (by decide) dT_ofRow_41 ?_
  refine x_top (z := nI b) hb20 ?_
  refine x_istore_n G 3 dT_ofRow_42 rfl (by decide) ?_
  refine x_iload_n G 2 dT_ofRow_43 rfl rfl ?_
  refine x_tableIn G 72 dT_ofRow_44 (by decide) (by decide) rfl (by decide) ?_
  refine x_aload_n G 0 dT_ofRow_72 rfl rfl ?_
  refine x_get G 3 rfl rfl 3 (by decide) rfl (fun w h => .tail _ (iT_ok w h)) (.tail _ wd_145) rfl dT_ofRow_73 ?_
  refine x_iload_n G 3 dT_ofRow_76 rfl rfl ?_
  refine x_ialdN G 11 0 rfl rfl (by omega) (by decide) dT_ofRow_77 ?_
  exact x_ret0i G hr hlk rfl dT_ofRow_78 rfl
set_option maxHeartbeats 4000000 in
set_option maxRecDepth 100000 in
theorem cT_ofRow1 {l : Launch} {D : va_G} {cI cZ cJ : ClassId} {ad : Nat → Nat} {σ : xSg} {n i b rw' : Nat} (ht : σ 1 2 = nI n) (hn : n ≤ 8) (hr9 : σ 3 9 = nI rw') (hi : i < rw') (hr8 : rw' ≤ 8) (hb20 : σ 20 i = nI b) (hb : b < n) : xCi0 l D vCl (tyC cI cZ cJ) nwW (wC ad cI cZ cJ σ) yT_ofRow (.code yT_ofRow bT_ofRow 4 (some .int) :: bigW) 1 [.ref (ad 3), .int (nI i), .int 1] (fun r => r = σ 10 b) := by
  refine xCi0.of (cc := bT_ofRow) (nL := 4) (ret := (some .int)) rfl (by decide) [.ref (ad 3), .int (nI i), .int 1, .null] rfl (Nat.le_of_ble_eq_true rfl) ?_
  intro pp ee ss mm aa bb me cde AA G hr hlk
  refine x_iload_n G 1 dT_ofRow_0 rfl rfl ?_
  refine x_if_lt G 34 dT_ofRow_1 (by decide) (fun h1 => (by exact absurd h1 (nI_pos (by omega)))) (fun h1 => ?_)
  refine x_iload_n G 1 dT_ofRow_4 rfl rfl ?_
  refine x_aload_n G 0 dT_ofRow_5 rfl rfl ?_
  refine x_get G 3 rfl rfl 9 (by decide) rfl (fun w h => .tail _ (iT_ok w h)) (.tail _ wd_151) rfl dT_ofRow_6 ?_
  refine x_icmp_ge G 34 dT_ofRow_9 (by decide) (fun h9 => (by rw [hr9, nI_leI (by omega) (by omega)] at h9; omega)) (fun h9 => ?_)
  refine x_iload_n G 1 dT_ofRow_12 rfl rfl ?_
  refine x_bipush G (8) dT_ofRow_13 (by decide) ?_
  refine x_icmp_ge G 34 dT_ofRow_15 (by decide) (fun h15 => (by exact absurd h15 (nI_ge (show i < 8 by omega) (by decide)))) (fun h15 => ?_)
  refine x_aload_n G 0 dT_ofRow_18 rfl rfl ?_
  refine x_get G 3 rfl rfl 0 (by decide) rfl (fun w h => .tail _ (iT_ok w h)) (.tail _ wd_141) rfl dT_ofRow_19 ?_
  refine x_aload_n G 0 dT_ofRow_22 rfl rfl ?_
  refine x_get G 3 rfl rfl 8 (by decide) rfl (fun w h => .tail _ (iT_ok w h)) (.tail _ wd_150) rfl dT_ofRow_23 ?_
  refine x_iload_n G 1 dT_ofRow_26 rfl rfl ?_
  refine x_ialdN G 20 0 rfl rfl (by omega) (by decide) dT_ofRow_27 ?_
  refine x_top (z := nI b) hb20 ?_
  refine x_call0VN1i G (cB_hasN ht hn (by omega)) 1 rfl rfl (cVN G.2.2.2.2.1 G.2.2.2.2.2.2.1 nd_284 wd_260 wd_3 wd_49 wd_261 (by decide +kernel) ⟨(Nat.le_of_ble_eq_true rfl), (Nat.le_of_ble_eq_true rfl)⟩) dT_ofRow_28 (Nat.le_of_ble_eq_true rfl) ⟨Nat.zero_le _, Nat.zero_le _⟩ (fun r28 e28 => ?_)
  subst e28
  refine x_if_ne G 36 dT_ofRow_31 (by decide) (fun h31 => ?_) (fun h31 => (by have h31 := bI_eq0.mp h31; omega))
  refine x_aload_n G 0 dT_ofRow_36 rfl rfl ?_
  refine x_get G 3 rfl rfl 8 (by decide) rfl (fun w h => .tail _ (iT_ok w h)) (.tail _ wd_150) rfl dT_ofRow_37 ?_
  refine x_iload_n G 1 dT_ofRow_40 rfl rfl ?_
  refine x_ialdN G 20 0 rfl rfl (by omega) (by decide) dT_ofRow_41 ?_
  refine x_top (z := nI b) hb20 ?_
  refine x_istore_n G 3 dT_ofRow_42 rfl (by decide) ?_
  refine x_iload_n G 2 dT_ofRow_43 rfl rfl ?_
  refine x_tableIn G 79 dT_ofRow_44 (by decide) (by decide) rfl (by decide) ?_
  refine x_aload_n G 0 dT_ofRow_79 rfl rfl ?_
  refine x_get G 3 rfl rfl 2 (by decide) rfl (fun w h => .tail _ (iT_ok w h)) (.tail _ wd_143) rfl dT_ofRow_80 ?_
  refine x_iload_n G 3 dT_ofRow_83 rfl rfl ?_
  refine x_ialdN G 10 0 rfl rfl (by omega) (by decide) dT_ofRow_84 ?_
  exact x_ret0i G hr hlk rfl dT_ofRow_85 rfl
set_option maxHeartbeats 4000000 in
set_option maxRecDepth 100000 in
theorem cT_ofRow2 {l : Launch} {D : va_G} {cI cZ cJ : ClassId} {ad : Nat → Nat} {σ : xSg} {n i b rw' : Nat} (ht : σ 1 2 = nI n) (hn : n ≤ 8) (hr9 : σ 3 9 = nI rw') (hi : i < rw') (hr8 : rw' ≤ 8) (hb20 : σ 20 i = nI b) (hb : b < n) : xCi0 l D vCl (tyC cI cZ cJ) nwW (wC ad cI cZ cJ σ) yT_ofRow (.code yT_ofRow bT_ofRow 4 (some .int) :: bigW) 1 [.ref (ad 3), .int (nI i), .int 2] (fun r => r = nI b) := by
  refine xCi0.of (cc := bT_ofRow) (nL := 4) (ret := (some .int)) rfl (by decide) [.ref (ad 3), .int (nI i), .int 2, .null] rfl (Nat.le_of_ble_eq_true rfl) ?_
  intro pp ee ss mm aa bb me cde AA G hr hlk
  refine x_iload_n G 1 dT_ofRow_0 rfl rfl ?_
  refine x_if_lt G 34 dT_ofRow_1 (by decide) (fun h1 => (by exact absurd h1 (nI_pos (by omega)))) (fun h1 => ?_)
  refine x_iload_n G 1 dT_ofRow_4 rfl rfl ?_
  refine x_aload_n G 0 dT_ofRow_5 rfl rfl ?_
  refine x_get G 3 rfl rfl 9 (by decide) rfl (fun w h => .tail _ (iT_ok w h)) (.tail _ wd_151) rfl dT_ofRow_6 ?_
  refine x_icmp_ge G 34 dT_ofRow_9 (by decide) (fun h9 => (by rw [hr9, nI_leI (by omega) (by omega)] at h9; omega)) (fun h9 => ?_)
  refine x_iload_n G 1 dT_ofRow_12 rfl rfl ?_
  refine x_bipush G (8) dT_ofRow_13 (by decide) ?_
  refine x_icmp_ge G 34 dT_ofRow_15 (by decide) (fun h15 => (by exact absurd h15 (nI_ge (show i < 8 by omega) (by decide)))) (fun h15 => ?_)
  refine x_aload_n G 0 dT_ofRow_18 rfl rfl ?_
  refine x_get G 3 rfl rfl 0 (by decide) rfl (fun w h => .tail _ (iT_ok w h)) (.tail _ wd_141) rfl dT_ofRow_19 ?_
  refine x_aload_n G 0 dT_ofRow_22 rfl rfl ?_
  refine x_get G 3 rfl rfl 8 (by decide) rfl (fun w h => .tail _ (iT_ok w h)) (.tail _ wd_150) rfl dT_ofRow_23 ?_
  refine x_iload_n G 1 dT_ofRow_26 rfl rfl ?_
  refine x_ialdN G 20 0 rfl rfl (by omega) (by decide) dT_ofRow_27 ?_
  refine x_top (z := nI b) hb20 ?_
  refine x_call0VN1i G (cB_hasN ht hn (by omega)) 1 rfl rfl (cVN G.2.2.2.2.1 G.2.2.2.2.2.2.1 nd_284 wd_260 wd_3 wd_49 wd_261 (by decide +kernel) ⟨(Nat.le_of_ble_eq_true rfl), (Nat.le_of_ble_eq_true rfl)⟩) dT_ofRow_28 (Nat.le_of_ble_eq_true rfl) ⟨Nat.zero_le _, Nat.zero_le _⟩ (fun r28 e28 => ?_)
  subst e28
  refine x_if_ne G 36 dT_ofRow_31 (by decide) (fun h31 => ?_) (fun h31 => (by have h31 := bI_eq0.mp h31; omega))
  refine x_aload_n G 0 dT_ofRow_36 rfl rfl ?_
  refine x_get G 3 rfl rfl 8 (by decide) rfl (fun w h => .tail _ (iT_ok w h)) (.tail _ wd_150) rfl dT_ofRow_37 ?_
  refine x_iload_n G 1 dT_ofRow_40 rfl rfl ?_
  refine x_ialdN G 20 0 rfl rfl (by omega) (by decide) dT_ofRow_41 ?_
  refine x_top (z := nI b) hb20 ?_
  refine x_istore_n G 3 dT_ofRow_42 rfl (by decide) ?_
  refine x_iload_n G 2 dT_ofRow_43 rfl rfl ?_
  refine x_tableIn G 86 dT_ofRow_44 (by decide) (by decide) rfl (by decide) ?_
  refine x_iload_n G 3 dT_ofRow_86 rfl rfl ?_
  exact x_ret0i G hr hlk rfl dT_ofRow_87 rfl
set_option maxHeartbeats 4000000 in
set_option maxRecDepth 100000 in
theorem cT_ofRow3 {l : Launch} {D : va_G} {cI cZ cJ : ClassId} {ad : Nat → Nat} {σ : xSg} {n i b rw' : Nat} (ht : σ 1 2 = nI n) (hn : n ≤ 8) (hr9 : σ 3 9 = nI rw') (hi : i < rw') (hr8 : rw' ≤ 8) (hb20 : σ 20 i = nI b) (hb : b < n) : xCi0 l D vCl (tyC cI cZ cJ) nwW (wC ad cI cZ cJ σ) yT_ofRow (.code yT_ofRow bT_ofRow 4 (some .int) :: bigW) 1 [.ref (ad 3), .int (nI i), .int 3] (fun r => r = σ 12 b) := by
  refine xCi0.of (cc := bT_ofRow) (nL := 4) (ret := (some .int)) rfl (by decide) [.ref (ad 3), .int (nI i), .int 3, .null] rfl (Nat.le_of_ble_eq_true rfl) ?_
  intro pp ee ss mm aa bb me cde AA G hr hlk
  refine x_iload_n G 1 dT_ofRow_0 rfl rfl ?_
  refine x_if_lt G 34 dT_ofRow_1 (by decide) (fun h1 => (by exact absurd h1 (nI_pos (by omega)))) (fun h1 => ?_)
  refine x_iload_n G 1 dT_ofRow_4 rfl rfl ?_
  refine x_aload_n G 0 dT_ofRow_5 rfl rfl ?_
  refine x_get G 3 rfl rfl 9 (by decide) rfl (fun w h => .tail _ (iT_ok w h)) (.tail _ wd_151) rfl dT_ofRow_6 ?_
  refine x_icmp_ge G 34 dT_ofRow_9 (by decide) (fun h9 => (by rw [hr9, nI_leI (by omega) (by omega)] at h9; omega)) (fun h9 => ?_)
  refine x_iload_n G 1 dT_ofRow_12 rfl rfl ?_
  refine x_bipush G (8) dT_ofRow_13 (by decide) ?_
  refine x_icmp_ge G 34 dT_ofRow_15 (by decide) (fun h15 => (by exact absurd h15 (nI_ge (show i < 8 by omega) (by decide)))) (fun h15 => ?_)
  refine x_aload_n G 0 dT_ofRow_18 rfl rfl ?_
  refine x_get G 3 rfl rfl 0 (by decide) rfl (fun w h => .tail _ (iT_ok w h)) (.tail _ wd_141) rfl dT_ofRow_19 ?_
  refine x_aload_n G 0 dT_ofRow_22 rfl rfl ?_
  refine x_get G 3 rfl rfl 8 (by decide) rfl (fun w h => .tail _ (iT_ok w h)) (.tail _ wd_150) rfl dT_ofRow_23 ?_
  refine x_iload_n G 1 dT_ofRow_26 rfl rfl ?_
  refine x_ialdN G 20 0 rfl rfl (by omega) (by decide) dT_ofRow_27 ?_
  refine x_top (z := nI b) hb20 ?_
  refine x_call0VN1i G (cB_hasN ht hn (by omega)) 1 rfl rfl (cVN G.2.2.2.2.1 G.2.2.2.2.2.2.1 nd_284 wd_260 wd_3 wd_49 wd_261 (by decide +kernel) ⟨(Nat.le_of_ble_eq_true rfl), (Nat.le_of_ble_eq_true rfl)⟩) dT_ofRow_28 (Nat.le_of_ble_eq_true rfl) ⟨Nat.zero_le _, Nat.zero_le _⟩ (fun r28 e28 => ?_)
  subst e28
  refine x_if_ne G 36 dT_ofRow_31 (by decide) (fun h31 => ?_) (fun h31 => (by have h31 := bI_eq0.mp h31; omega))
  refine x_aload_n G 0 dT_ofRow_36 rfl rfl ?_
  refine x_get G 3 rfl rfl 8 (by decide) rfl (fun w h => .tail _ (iT_ok w h)) (.tail _ wd_150) rfl dT_ofRow_37 ?_
  refine x_iload_n G 1 dT_ofRow_40 rfl rfl ?_
  refine x_ialdN G 20 0 rfl rfl (by omega) (by decide) dT_ofRow_41 ?_
  refine x_top (z := nI b) hb20 ?_
  refine x_istore_n G 3 dT_ofRow_42 rfl (by decide) ?_
  refine x_iload_n G 2 dT_ofRow_43 rfl rfl ?_
  refine x_tableOut G 88 dT_ofRow_44 (by decide) (by decide) ?_
  refine x_aload_n G 0 dT_ofRow_88 rfl rfl ?_
  refine x_get G 3 rfl rfl 4 (by decide) rfl (fun w h => .tail _ (iT_ok w h)) (.tail _ wd_146) rfl dT_ofRow_89 ?_
  refine x_iload_n G 3 dT_ofRow_92 rfl rfl ?_
  refine x_ialdN G 12 0 rfl rfl (by omega) (by decide) dT_ofRow_93 ?_
  exact x_ret0i G hr hlk rfl dT_ofRow_94 rfl
