/-! THE REFERENCE: ahead, row -/
/-- how many bays below k come ahead of b -/
def ahQ (A bg : Nat → Nat) (b x : Nat) : Bool := decide (A x < 4 ∧ (bg x < bg b ∨ (bg x = bg b ∧ A x < A b)))
theorem cntB_countP {Q : Nat → Bool} (k : Nat) : cntB Q k = (List.range k).countP Q := by rw [List.countP_eq_length_filter, fil_len]
/-- bay x has j bays ahead of it just where it is the j-th of the rows in order -/
theorem ah_row {A bg : Nat → Nat} {n x j : Nat} {L : List Nat} (hA1 : ∀ b, n ≤ b → ¬ A b < 4) (hn : n ≤ 8) (hs : L.Pairwise (ahd bg A)) (hp : L.Perm ((List.range 8).filter (fun b => decide (A b < 4)))) (hx : A x < 4) (hx8 : x < 8) (hj : j < L.length) : cntB (ahQ A bg x) n = j ↔ x = L.getD j 0 := by
  have hmem : x ∈ L := hp.mem_iff.mpr (List.mem_filter.mpr ⟨List.mem_range.mpr hx8, by simpa using hx⟩)
  obtain ⟨i, hi, e⟩ := List.getElem_of_mem hmem
  have key : ∀ i (hi : i < L.length), cntB (ahQ A bg (L[i])) n = i := by
    intro i hi
    have h8 : cntB (ahQ A bg (L[i])) n = cntB (ahQ A bg (L[i])) 8 := by
      have := cntB_flat (P := ahQ A bg (L[i])) (k := n) (fun c hc => by simp [ahQ, hA1 c hc]) (8 - n)
      rw [show n + (8 - n) = 8 by omega] at this
      exact this.symm
    have h1 := cnt_sorted hs i hi (fun y => decide (bg y < bg (L[i]) ∨ (bg y = bg (L[i]) ∧ A y < A (L[i])))) (fun y => by unfold ahd; simp)
    rw [hp.countP_eq, List.countP_filter] at h1
    rw [h8, cntB_countP]
    refine Eq.trans (List.countP_congr (fun y _ => ?_)) h1
    simp [ahQ, and_comm]
  have hg : ∀ i (hi : i < L.length), L.getD i 0 = L[i] := fun i hi => by rw [List.getD_eq_getElem?_getD, List.getElem?_eq_getElem hi]; rfl
  rw [hg j hj]
  constructor
  · intro h
    have := key i hi
    rw [e, h] at this
    subst this
    exact e.symm
  · intro h
    rw [h]; exact key j hj
def tRw (pl : Bool) (rows : Nat) (i w : Int32) : Int32 := if pl = true then (if (¬ i < 0 ∧ ¬ nI rows ≤ i) ∧ (¬ w < 0 ∧ ¬ 3 < w) then 0 else 2) else 1
def rwA (A bg en : Nat → Nat) (b : Nat) (w : Int32) : Int32 := if w = 0 then nI (bg b) else if w = 1 then nI (A b) else if w = 2 then nI b else nI (en b)
set_option maxHeartbeats 4000000 in
set_option maxRecDepth 100000 in
theorem cM_ahead {l : Launch} {D : va_G} {cI cZ cJ : ClassId} {ad : Nat → Nat} {σ : xSg} {n C g s : Nat} {hh ww mo mi : Nat → Nat} {ou : Nat → Bool} (hP : PM σ n C g s hh ww mo mi ou) {A : Nat → Nat} (hT : TR σ A n C) (hCM : CM σ A (mvF hh ww) mo mi g s C 0) {b : Nat} (hb : b < n) (hA4 : A b < 4) : xCi0 l D vCl (tyC cI cZ cJ) nwW (wM ad cI cZ cJ σ) yM_ahead (.code yM_ahead bM_ahead 6 (some .int) :: bigW) 0 [.ref (ad 0), .int (nI b)] (fun r => r = nI (cntB (ahQ A (fun b => cmA A (mvF hh ww) mo mi 8 g s (A b) b) b) n)) := by
  refine xCi0.of (cc := bM_ahead) (nL := 6) (ret := (some .int)) rfl (by decide) [.ref (ad 0), .int (nI b), .null, .null, .null, .null] rfl (Nat.le_of_ble_eq_true rfl) ?_
  intro pp ee ss mm aa bb me cde AA G hr hlk
  obtain ⟨hn8, hC1, hC4, hg3, hs20, hn, hC, hg, hs, hbw, hrt, hbb, hb0, hbd⟩ := id hP
  have hbb4 := hT.2.2 b hA4
  have h6b : σ 6 b = nI (A b) := (hT.1 b hb).trans (aI_t hA4)
  have h8b : σ 8 (8 * A b + b) = nI ((fun b => cmA A (mvF hh ww) mo mi 8 g s (A b) b) b) := hCM.at (by omega) hbb4
  have hcb : (fun b => cmA A (mvF hh ww) mo mi 8 g s (A b) b) b ≤ 675540 := hP.cm (A := A) hA4 (show b < 8 by omega)
  have loop : ∀ (j k : Nat), k + j = n → ∀ (z5 : Value), xJ pp l ee { frames := 0, cells := 0, slots := 0, locals := 40 * 0 } ss mm aa bb me cde 0 0 (MQ bb (vp_Si (fun r => r = nI (cntB (ahQ A (fun b => cmA A (mvF hh ww) mo mi 8 g s (A b) b) b) n))) aa ss 0 0 (fun _ => False)) D vCl AA 6 (fun H locs => H = ss.heap ∧ locs = []) (wM ad cI cZ cJ σ) [.ref (ad 0), .int (nI b), .int (nI (cntB (ahQ A (fun b => cmA A (mvF hh ww) mo mi 8 g s (A b) b) b) k)), .int (nI ((fun b => cmA A (mvF hh ww) mo mi 8 g s (A b) b) b)), .int (nI k), z5] 22 [] := by
    intro j
    induction j with
    | zero =>
      intro k hk z5
      have hk : n = k := by omega
      subst hk
      refine x_iload G dM_ahead_22 rfl ?_
      refine x_aload_n G 0 dM_ahead_24 rfl rfl ?_
      refine x_get G 0 rfl rfl 3 (by decide) rfl (fun w h => .tail _ (iM_ok w h)) (.tail _ wd_598) rfl dM_ahead_25 ?_
      refine x_icmp_ge G 122 dM_ahead_28 (by decide) (fun h28 => ?_) (fun h28 => (by rw [hn] at h28; exact absurd (nI_le (Nat.le_refl _) (by omega)) h28))
      refine x_iload_n G 2 dM_ahead_122 rfl rfl ?_
      exact x_ret0i G hr hlk rfl dM_ahead_123 rfl
    | succ j ih =>
      intro k hk z5
      have h6 := hT.1 k (by omega)
      have hcl := cntB_le (bz := ahQ A (fun b => cmA A (mvF hh ww) mo mi 8 g s (A b) b) b) k
      have tail : ∀ (x : Nat) (x5 : Int32), x = (if ahQ A (fun b => cmA A (mvF hh ww) mo mi 8 g s (A b) b) b k = true then 1 else 0) → xJ pp l ee { frames := 0, cells := 0, slots := 0, locals := 40 * 0 } ss mm aa bb me cde 0 0 (MQ bb (vp_Si (fun r => r = nI (cntB (ahQ A (fun b => cmA A (mvF hh ww) mo mi 8 g s (A b) b) b) n))) aa ss 0 0 (fun _ => False)) D vCl AA 6 (fun H locs => H = ss.heap ∧ locs = []) (wM ad cI cZ cJ σ) [.ref (ad 0), .int (nI b), .int (nI (cntB (ahQ A (fun b => cmA A (mvF hh ww) mo mi 8 g s (A b) b) b) k)), .int (nI ((fun b => cmA A (mvF hh ww) mo mi 8 g s (A b) b) b)), .int (nI k), .int x5] 114 [.int (nI x), .int (nI (cntB (ahQ A (fun b => cmA A (mvF hh ww) mo mi 8 g s (A b) b) b) k))] := by
        intro x x5 hx
        have ex : cntB (ahQ A (fun b => cmA A (mvF hh ww) mo mi 8 g s (A b) b) b) k + x = cntB (ahQ A (fun b => cmA A (mvF hh ww) mo mi 8 g s (A b) b) b) (k + 1) := by rw [hx]; by_cases h1 : ahQ A (fun b => cmA A (mvF hh ww) mo mi 8 g s (A b) b) b k = true; (· rw [if_pos h1, cntB_s h1]); (· rw [if_neg h1, cntB_z h1]; rfl)
        refine x_iadd G dM_ahead_114 ?_
        refine x_top ((nI_add _ _).trans (congrArg nI ex)) ?_
        refine x_istore_n G 2 dM_ahead_115 rfl (by decide) ?_
        refine x_iinc G (nI (k + 1)) dM_ahead_116 rfl (nI_1 k) (by decide) ?_
        refine x_goto G 22 dM_ahead_119 (by decide) ?_
        exact ih (k + 1) (by omega) _
      refine x_iload G dM_ahead_22 rfl ?_
      refine x_aload_n G 0 dM_ahead_24 rfl rfl ?_
      refine x_get G 0 rfl rfl 3 (by decide) rfl (fun w h => .tail _ (iM_ok w h)) (.tail _ wd_598) rfl dM_ahead_25 ?_
      refine x_icmp_ge G 122 dM_ahead_28 (by decide) (fun h28 => (by rw [hn] at h28; exact absurd h28 (nI_ge (by omega) (by omega)))) (fun h28 => ?_)
      refine x_aload_n G 0 dM_ahead_31 rfl rfl ?_
      refine x_get G 0 rfl rfl 11 (by decide) rfl (fun w h => .tail _ (iM_ok w h)) (.tail _ wd_606) rfl dM_ahead_32 ?_
      refine x_iload G dM_ahead_35 rfl ?_
      refine x_ialdN G 6 0 rfl rfl (by omega) (by decide) dM_ahead_37 ?_
      refine x_if_ge G 46 dM_ahead_38 (by decide) (fun h38 => ?_) (fun h38 => ?_)
      · rw [h6, aI_ge0] at h38
        have h6k : σ 6 k = nI (A k) := h6.trans (aI_t h38)
        have h8 : σ 8 (8 * A k + k) = nI ((fun b => cmA A (mvF hh ww) mo mi 8 g s (A b) b) k) := hCM.at (by omega) (hT.2.2 k h38)
        have hck : (fun b => cmA A (mvF hh ww) mo mi 8 g s (A b) b) k ≤ 675540 := hP.cm (A := A) h38 (show k < 8 by omega)
        have hQ : ahQ A (fun b => cmA A (mvF hh ww) mo mi 8 g s (A b) b) b k = true ↔ ((fun b => cmA A (mvF hh ww) mo mi 8 g s (A b) b) k < (fun b => cmA A (mvF hh ww) mo mi 8 g s (A b) b) b ∨ ((fun b => cmA A (mvF hh ww) mo mi 8 g s (A b) b) k = (fun b => cmA A (mvF hh ww) mo mi 8 g s (A b) b) b ∧ A k < A b)) := by unfold ahQ; simp [h38]
        refine x_aload_n G 0 dM_ahead_46 rfl rfl ?_
        refine x_get G 0 rfl rfl 13 (by decide) rfl (fun w h => .tail _ (iM_ok w h)) (.tail _ wd_608) rfl dM_ahead_47 ?_
        refine x_bipush G (8) dM_ahead_50 (by decide) ?_
        refine x_aload_n G 0 dM_ahead_52 rfl rfl ?_
        refine x_get G 0 rfl rfl 11 (by decide) rfl (fun w h => .tail _ (iM_ok w h)) (.tail _ wd_606) rfl dM_ahead_53 ?_
        refine x_iload G dM_ahead_56 rfl ?_
        refine x_ialdN G 6 0 rfl rfl (by omega) (by decide) dM_ahead_58 ?_
        refine x_if_ge G 66 dM_ahead_59 (by decide) (fun h59 => ?_) (fun h59 => (by rw [h6k] at h59; exact absurd (nI_pos' (by omega)) h59))
        refine x_aload_n G 0 dM_ahead_66 rfl rfl ?_
        refine x_get G 0 rfl rfl 11 (by decide) rfl (fun w h => .tail _ (iM_ok w h)) (.tail _ wd_606) rfl dM_ahead_67 ?_
        refine x_iload G dM_ahead_70 rfl ?_
        refine x_ialdN G 6 0 rfl rfl (by omega) (by decide) dM_ahead_72 ?_
        refine x_imul G dM_ahead_73 ?_
        refine x_iload G dM_ahead_74 rfl ?_
        refine x_iadd G dM_ahead_76 ?_
        refine x_top (z := nI (8 * A k + k)) (by rw [h6k]; show nI 8 * nI (A k) + nI k = _; rw [pk_mul, nI_add]) ?_
        refine x_ialdN G 8 0 rfl rfl (by omega) (by decide) dM_ahead_77 ?_
        refine x_top h8 ?_
        refine x_istore G dM_ahead_78 (by decide) ?_
        refine x_iload_n G 2 dM_ahead_80 rfl rfl ?_
        refine x_iload G dM_ahead_81 rfl ?_
        refine x_iload_n G 3 dM_ahead_83 rfl rfl ?_
        refine x_icmp_lt G 109 dM_ahead_84 (by decide) (fun h84 => ?_) (fun h84 => ?_)
        · rw [nI_ltI (by omega) (by omega)] at h84
          refine x_iconst G (1) dM_ahead_109 (by decide) ?_
          refine x_goto G 114 dM_ahead_110 (by decide) ?_
          first | exact tail 1 _ (by rw [if_pos (hQ.mpr (by omega))]) | exact tail 0 _ (by rw [if_neg (fun q => by have := hQ.mp q; omega)])
        · rw [nI_ltI (by omega) (by omega)] at h84
          refine x_iload G dM_ahead_87 rfl ?_
          refine x_iload_n G 3 dM_ahead_89 rfl rfl ?_
          refine x_icmp_ne G 113 dM_ahead_90 (by decide) (fun h90 => ?_) (fun h90 => ?_)
          · rw [nI_eq (by omega) (by omega)] at h90
            refine x_iconst G (0) dM_ahead_113 (by decide) ?_
            first | exact tail 1 _ (by rw [if_pos (hQ.mpr (by omega))]) | exact tail 0 _ (by rw [if_neg (fun q => by have := hQ.mp q; omega)])
          · rw [nI_eq (by omega) (by omega)] at h90
            refine x_aload_n G 0 dM_ahead_93 rfl rfl ?_
            refine x_get G 0 rfl rfl 11 (by decide) rfl (fun w h => .tail _ (iM_ok w h)) (.tail _ wd_606) rfl dM_ahead_94 ?_
            refine x_iload G dM_ahead_97 rfl ?_
            refine x_ialdN G 6 0 rfl rfl (by omega) (by decide) dM_ahead_99 ?_
            refine x_aload_n G 0 dM_ahead_100 rfl rfl ?_
            refine x_get G 0 rfl rfl 11 (by decide) rfl (fun w h => .tail _ (iM_ok w h)) (.tail _ wd_606) rfl dM_ahead_101 ?_
            refine x_iload_n G 1 dM_ahead_104 rfl rfl ?_
            refine x_ialdN G 6 0 rfl rfl (by omega) (by decide) dM_ahead_105 ?_
            refine x_icmp_ge G 113 dM_ahead_106 (by decide) (fun h106 => ?_) (fun h106 => ?_)
            · rw [h6k, h6b, nI_leI (by omega) (by omega)] at h106
              refine x_iconst G (0) dM_ahead_113 (by decide) ?_
              first | exact tail 1 _ (by rw [if_pos (hQ.mpr (by omega))]) | exact tail 0 _ (by rw [if_neg (fun q => by have := hQ.mp q; omega)])
            · rw [h6k, h6b, nI_leI (by omega) (by omega)] at h106
              refine x_iconst G (1) dM_ahead_109 (by decide) ?_
              refine x_goto G 114 dM_ahead_110 (by decide) ?_
              first | exact tail 1 _ (by rw [if_pos (hQ.mpr (by omega))]) | exact tail 0 _ (by rw [if_neg (fun q => by have := hQ.mp q; omega)])
      · rw [h6, aI_ge0] at h38
        refine x_ldc G 1000000000 dM_ahead_41 (by decide +kernel) ?_
        refine x_goto G 78 dM_ahead_43 (by decide) ?_
        refine x_istore G dM_ahead_78 (by decide) ?_
        refine x_iload_n G 2 dM_ahead_80 rfl rfl ?_
        refine x_iload G dM_ahead_81 rfl ?_
        refine x_iload_n G 3 dM_ahead_83 rfl rfl ?_
        refine x_icmp_lt G 109 dM_ahead_84 (by decide) (fun h84 => (by rw [show (1000000000 : Int32) = nI 1000000000 from rfl, nI_ltI (by omega) (by omega)] at h84; omega)) (fun h84 => ?_)
        refine x_iload G dM_ahead_87 rfl ?_
        refine x_iload_n G 3 dM_ahead_89 rfl rfl ?_
        refine x_icmp_ne G 113 dM_ahead_90 (by decide) (fun h90 => ?_) (fun h90 => (by have h90 : (1000000000 : Int32) = nI _ := h90; rw [show (1000000000 : Int32) = nI 1000000000 from rfl, nI_eq (by omega) (by omega)] at h90; omega))
        refine x_iconst G (0) dM_ahead_113 (by decide) ?_
        exact tail 0 _ (by rw [if_neg (by simp [ahQ]; omega)])
  refine x_iconst G (0) dM_ahead_0 (by decide) ?_
  refine x_istore_n G 2 dM_ahead_1 rfl (by decide) ?_
  refine x_aload_n G 0 dM_ahead_2 rfl rfl ?_
  refine x_get G 0 rfl rfl 13 (by decide) rfl (fun w h => .tail _ (iM_ok w h)) (.tail _ wd_608) rfl dM_ahead_3 ?_
  refine x_bipush G (8) dM_ahead_6 (by decide) ?_
  refine x_aload_n G 0 dM_ahead_8 rfl rfl ?_
  refine x_get G 0 rfl rfl 11 (by decide) rfl (fun w h => .tail _ (iM_ok w h)) (.tail _ wd_606) rfl dM_ahead_9 ?_
  refine x_iload_n G 1 dM_ahead_12 rfl rfl ?_
  refine x_ialdN G 6 0 rfl rfl (by omega) (by decide) dM_ahead_13 ?_
  refine x_imul G dM_ahead_14 ?_
  refine x_iload_n G 1 dM_ahead_15 rfl rfl ?_
  refine x_iadd G dM_ahead_16 ?_
  refine x_top (z := nI (8 * A b + b)) (by rw [h6b]; show nI 8 * nI (A b) + nI b = _; rw [pk_mul, nI_add]) ?_
  refine x_ialdN G 8 0 rfl rfl (by omega) (by decide) dM_ahead_17 ?_
  refine x_top h8b ?_
  refine x_istore_n G 3 dM_ahead_18 rfl (by decide) ?_
  refine x_iconst G (0) dM_ahead_19 (by decide) ?_
  refine x_istore G dM_ahead_20 (by decide) ?_
  exact loop n 0 (by omega) .null
set_option maxHeartbeats 4000000 in
set_option maxRecDepth 100000 in
theorem cM_row {l : Launch} {D : va_G} {cI cZ cJ : ClassId} {ad : Nat → Nat} {σ : xSg} {n C g s : Nat} {hh ww mo mi : Nat → Nat} {ou : Nat → Bool} (hP : PM σ n C g s hh ww mo mi ou) {pl : Bool} {A : Nat → Nat} (hpl : σ 0 10 = bI (pl = true)) (hA : pl = true → PLA σ A n C g) {v t : Int32} {L : List Nat} (hL : pl = true → L.Pairwise (ahd (fun b => cmA A (mvF hh ww) mo mi 8 g s (A b) b) A) ∧ L.Perm ((List.range 8).filter (fun b => decide (A b < 4)))) : xCi l D vCl (tyC cI cZ cJ) nwW (wM ad cI cZ cJ) yM_row (.code yM_row bM_row 8 (some .int) :: bigW) 4 [.ref (ad 0), .int v, .int t] σ (fun r u => u 0 0 = tRw pl (cntB (fun b => decide (A b < 4)) n) v t ∧ LU σ u ∧ (tRw pl (cntB (fun b => decide (A b < 4)) n) v t = 0 → ∃ j, v = nI j ∧ j < L.length ∧ r = rwA A (fun b => cmA A (mvF hh ww) mo mi 8 g s (A b) b) (enA A (mvF hh ww) mo mi g s) (L.getD j 0) t)) := by
  refine xCi.of (cc := bM_row) (nL := 8) (ret := (some .int)) rfl (by decide) [.ref (ad 0), .int v, .int t, .null, .null, .null, .null, .null] rfl (Nat.le_of_ble_eq_true rfl) ?_
  intro pp ee ss mm aa bb me cde AA G hr hlk
  obtain ⟨hn8, hC1, hC4, hg3, hs20, hn, hC, hg, hs, hbw, hrt, hbb, hb0, hbd⟩ := id hP
  refine x_aload_n G 0 dM_row_0 rfl rfl ?_
  refine x_get G 0 rfl rfl 10 (by decide) rfl (fun w h => .tail _ (iM_ok w h)) (.tail _ wd_605) rfl dM_row_1 ?_
  refine x_if_ne G 13 dM_row_4 (by decide) (fun h4 => ?_) (fun h4 => ?_)
  · have hp : pl = true := bI_ne0.mp (by rw [← hpl]; exact h4)
    refine x_aload_n G 0 dM_row_13 rfl rfl ?_
    refine x_callV0i G (cM_lays hP (hA hp).1 (hA hp).2.1 (hA hp).2.2.1 (hA hp).2.2.2) 0 rfl rfl (cV G.2.2.2.2.1 wd_716 wd_718 wd_45 wd_55 wd_719 (by decide +kernel) ⟨(Nat.le_of_ble_eq_true rfl), (Nat.le_of_ble_eq_true rfl)⟩) dM_row_14 (Nat.le_of_ble_eq_true rfl) ⟨Nat.zero_le _, Nat.zero_le _⟩ (fun r14 u14 e14 => ?_)
    obtain ⟨σ3, hz⟩ : ∃ z, z = u14 := ⟨_, rfl⟩
    subst hz
    obtain ⟨rfl, hT, hF, hCM, hLO⟩ := e14
    have hLU : LU σ σ3 := ⟨fun q hq => hLO q (by omega), fun i _ => by rw [hLO 0 (by omega)]⟩
    have hP3 := hLU.PM hP
    obtain ⟨-, hA1, hA2, hok⟩ := hA hp
    have e0 : σ3 0 3 = nI n := by rw [hLU.2 3 (by omega)]; exact hn
    have hej := hP.ej A 0
    obtain ⟨hLs, hLp⟩ := hL hp
    have rows : ∀ (j k : Nat), k + j = n → ∀ (z7 : Value), xJ pp l ee { frames := 4, cells := 0, slots := 0, locals := 40 * 4 } ss mm aa bb me cde 0 0 (MQ bb (va_Qi (fun r u => u 0 0 = tRw pl (cntB (fun b => decide (A b < 4)) n) v t ∧ LU σ u ∧ (tRw pl (cntB (fun b => decide (A b < 4)) n) v t = 0 → ∃ j, v = nI j ∧ j < L.length ∧ r = rwA A (fun b => cmA A (mvF hh ww) mo mi 8 g s (A b) b) (enA A (mvF hh ww) mo mi g s) (L.getD j 0) t)) (fun u t => va_P D vCl (wM ad cI cZ cJ u) t.heap ∧ va_D AA (wM ad cI cZ cJ u)) AA) aa ss 0 0 AA) D vCl AA 8 (va_S AA ss.heap) (wM ad cI cZ cJ σ3) [.ref (ad 0), .int v, .int t, .int (nI (EJ A (mvF hh ww) mo mi g s 0)), .int (nI (cntB (fun b => decide (A b < 4)) k)), .int (-1), .int (nI k), z7] 27 [] := by
      intro j
      induction j with
      | zero =>
        intro k hk' z7
        have hk' : n = k := by omega
        subst hk'
        have hcl := cntB_le (bz := fun b => decide (A b < 4)) n
        refine x_iload G dM_row_27 rfl ?_
        refine x_aload_n G 0 dM_row_29 rfl rfl ?_
        refine x_get G 0 rfl rfl 3 (by decide) rfl (fun w h => .tail _ (iM_ok w h)) (.tail _ wd_598) rfl dM_row_30 ?_
        refine x_icmp_ge G 62 dM_row_33 (by decide) (fun h33 => ?_) (fun h33 => (by rw [e0] at h33; exact absurd (nI_le (Nat.le_refl _) (by omega)) h33))
        refine x_iload_n G 1 dM_row_62 rfl rfl ?_
        refine x_if_lt G 87 dM_row_63 (by decide) (fun h63 => ?_) (fun h63 => ?_)
        · have hk : tRw pl (cntB (fun b => decide (A b < 4)) n) v t = 2 := by unfold tRw; rw [if_pos hp, if_neg (fun q => q.1.1 h63)]
          have hLU4 : LU σ (sst σ3 0 0 2) := ⟨fun q hq => by rw [sst_ne (by omega)]; exact hLU.1 q hq, fun i hi => by rw [sst_i hi]; exact hLU.2 i hi⟩
          refine x_aload_n G 0 dM_row_87 rfl rfl ?_
          refine x_iconst G (2) dM_row_88 (by decide) ?_
          refine x_callV1i G cM_refuse 0 rfl rfl (cV G.2.2.2.2.1 wd_655 wd_657 wd_34 wd_55 wd_658 (by decide +kernel) ⟨(Nat.le_of_ble_eq_true rfl), (Nat.le_of_ble_eq_true rfl)⟩) dM_row_89 (Nat.le_of_ble_eq_true rfl) ⟨Nat.zero_le _, Nat.zero_le _⟩ (fun r89 u89 e89 => ?_)
          obtain ⟨e89r, e89u⟩ := e89; subst e89u; subst e89r
          exact x_reti G hr hlk rfl dM_row_92 ⟨by rw [hk]; exact sst_same, hLU4, fun q => absurd (hk.symm.trans q) (by decide)⟩
        · refine x_iload_n G 1 dM_row_66 rfl rfl ?_
          refine x_iload G dM_row_67 rfl ?_
          refine x_icmp_ge G 87 dM_row_69 (by decide) (fun h69 => ?_) (fun h69 => ?_)
          · have hk : tRw pl (cntB (fun b => decide (A b < 4)) n) v t = 2 := by unfold tRw; rw [if_pos hp, if_neg (fun q => q.1.2 h69)]
            have hLU4 : LU σ (sst σ3 0 0 2) := ⟨fun q hq => by rw [sst_ne (by omega)]; exact hLU.1 q hq, fun i hi => by rw [sst_i hi]; exact hLU.2 i hi⟩
            refine x_aload_n G 0 dM_row_87 rfl rfl ?_
            refine x_iconst G (2) dM_row_88 (by decide) ?_
            refine x_callV1i G cM_refuse 0 rfl rfl (cV G.2.2.2.2.1 wd_655 wd_657 wd_34 wd_55 wd_658 (by decide +kernel) ⟨(Nat.le_of_ble_eq_true rfl), (Nat.le_of_ble_eq_true rfl)⟩) dM_row_89 (Nat.le_of_ble_eq_true rfl) ⟨Nat.zero_le _, Nat.zero_le _⟩ (fun r89 u89 e89 => ?_)
            obtain ⟨e89r, e89u⟩ := e89; subst e89u; subst e89r
            exact x_reti G hr hlk rfl dM_row_92 ⟨by rw [hk]; exact sst_same, hLU4, fun q => absurd (hk.symm.trans q) (by decide)⟩
          · refine x_iload_n G 2 dM_row_72 rfl rfl ?_
            refine x_iconst G (0) dM_row_73 (by decide) ?_
            refine x_iconst G (3) dM_row_74 (by decide) ?_
            refine x_call0S3i G cM_in (cS G.2.2.2.2.1 wd_652 wd_653 wd_55 wd_654 (by decide +kernel) ⟨(Nat.le_of_ble_eq_true rfl), (Nat.le_of_ble_eq_true rfl)⟩) dM_row_75 (Nat.le_of_ble_eq_true rfl) ⟨Nat.zero_le _, Nat.zero_le _⟩ (fun r75 e75 => ?_)
            subst e75
            refine x_if_eq G 87 dM_row_78 (by decide) (fun h78 => ?_) (fun h78 => ?_)
            · have h78 := bI_eq0.mp h78
              have hk : tRw pl (cntB (fun b => decide (A b < 4)) n) v t = 2 := by unfold tRw; rw [if_pos hp, if_neg (fun q => h78 q.2)]
              have hLU4 : LU σ (sst σ3 0 0 2) := ⟨fun q hq => by rw [sst_ne (by omega)]; exact hLU.1 q hq, fun i hi => by rw [sst_i hi]; exact hLU.2 i hi⟩
              refine x_aload_n G 0 dM_row_87 rfl rfl ?_
              refine x_iconst G (2) dM_row_88 (by decide) ?_
              refine x_callV1i G cM_refuse 0 rfl rfl (cV G.2.2.2.2.1 wd_655 wd_657 wd_34 wd_55 wd_658 (by decide +kernel) ⟨(Nat.le_of_ble_eq_true rfl), (Nat.le_of_ble_eq_true rfl)⟩) dM_row_89 (Nat.le_of_ble_eq_true rfl) ⟨Nat.zero_le _, Nat.zero_le _⟩ (fun r89 u89 e89 => ?_)
              obtain ⟨e89r, e89u⟩ := e89; subst e89u; subst e89r
              exact x_reti G hr hlk rfl dM_row_92 ⟨by rw [hk]; exact sst_same, hLU4, fun q => absurd (hk.symm.trans q) (by decide)⟩
            · have h78 := bI_ne0.mp h78
              have hk : tRw pl (cntB (fun b => decide (A b < 4)) n) v t = 0 := by unfold tRw; rw [if_pos hp, if_pos ⟨⟨h63, h69⟩, h78⟩]
              have hLU4 : LU σ (sst σ3 0 0 0) := ⟨fun q hq => by rw [sst_ne (by omega)]; exact hLU.1 q hq, fun i hi => by rw [sst_i hi]; exact hLU.2 i hi⟩
              obtain ⟨i, hi0, rfl⟩ := nI_of h63
              have hiR : i < cntB (fun b => decide (A b < 4)) n := by rw [nI_leI (by omega) hi0] at h69; omega
              have hLl : L.length = cntB (fun b => decide (A b < 4)) n := by
                rw [hLp.length_eq, fil_len]
                have := cntB_flat (P := fun b => decide (A b < 4)) (k := n) (fun c hc => by simp [hA1 c hc]) (8 - n)
                rw [show n + (8 - n) = 8 by omega] at this
                exact this
              have hi : i < L.length := by omega
              have hmem := hLp.mem_iff.mp (getD_mem hi)
              rw [List.mem_filter, List.mem_range] at hmem
              have hb4 : A (L.getD i 0) < 4 := by simpa using hmem.2
              have hbn : L.getD i 0 < n := by rcases Nat.lt_or_ge (L.getD i 0) n with z | z; (· exact z); (· exact absurd hb4 (hA1 _ z))
              have hP4 := hLU4.PM hP
              have e04 : sst σ3 0 0 0 0 3 = nI n := (sst_i (by omega)).trans e0
              have hT4 : TR (sst σ3 0 0 0) A n C := ⟨fun b hb => by rw [sst_ne (by omega)]; exact hT.1 b hb, hT.2.1, hT.2.2⟩
              have hCM4 : CM (sst σ3 0 0 0) A (mvF hh ww) mo mi g s C 0 := fun c f x h1 h2 h3 h4 b h5 => by rw [sst_ne (by omega)]; exact hCM c f x h1 h2 h3 h4 b h5
              have find : ∀ (j k : Nat), k + j = n → ∀ (z7 : Value), xJ pp l ee { frames := 4, cells := 0, slots := 0, locals := 40 * 4 } ss mm aa bb me cde 0 0 (MQ bb (va_Qi (fun r u => u 0 0 = tRw pl (cntB (fun b => decide (A b < 4)) n) (nI i) t ∧ LU σ u ∧ (tRw pl (cntB (fun b => decide (A b < 4)) n) (nI i) t = 0 → ∃ j, nI i = nI j ∧ j < L.length ∧ r = rwA A (fun b => cmA A (mvF hh ww) mo mi 8 g s (A b) b) (enA A (mvF hh ww) mo mi g s) (L.getD j 0) t)) (fun u t => va_P D vCl (wM ad cI cZ cJ u) t.heap ∧ va_D AA (wM ad cI cZ cJ u)) AA) aa ss 0 0 AA) D vCl AA 8 (va_S AA ss.heap) (wM ad cI cZ cJ (sst σ3 0 0 0)) [.ref (ad 0), .int (nI i), .int t, .int (nI (EJ A (mvF hh ww) mo mi g s 0)), .int (nI (cntB (fun b => decide (A b < 4)) n)), .int (if L.getD i 0 < k then nI (L.getD i 0) else -1), .int (nI k), z7] 101 [] := by
                intro j
                induction j with
                | zero =>
                  intro k hk' z7
                  have hk' : n = k := by omega
                  subst hk'
                  obtain ⟨b, hbe⟩ : ∃ b, b = L.getD i 0 := ⟨_, rfl⟩
                  rw [← hbe] at hbn hb4
                  refine x_eq rfl (vs2 := [.ref (ad 0), .int (nI i), .int t, .int (nI (EJ A (mvF hh ww) mo mi g s 0)), .int (nI (cntB (fun b => decide (A b < 4)) n)), .int (nI b), .int (nI n), z7]) (by rw [← hbe, if_pos hbn]) rfl rfl ?_
                  have h6b : sst σ3 0 0 0 6 b = nI (A b) := by rw [sst_ne (by omega)]; exact (hT.1 b hbn).trans (aI_t hb4)
                  have h8b : sst σ3 0 0 0 8 (8 * A b + b) = nI ((fun b => cmA A (mvF hh ww) mo mi 8 g s (A b) b) b) := by rw [sst_ne (by omega)]; exact hCM.at (by omega) (hA2 b hb4)
                  refine x_iload G dM_row_101 rfl ?_
                  refine x_aload_n G 0 dM_row_103 rfl rfl ?_
                  refine x_get G 0 rfl rfl 3 (by decide) rfl (fun w h => .tail _ (iM_ok w h)) (.tail _ wd_598) rfl dM_row_104 ?_
                  refine x_icmp_ge G 145 dM_row_107 (by decide) (fun h107 => ?_) (fun h107 => (by rw [e04] at h107; exact absurd (nI_le (Nat.le_refl _) (by omega)) h107))
                  refine x_aload_n G 0 dM_row_145 rfl rfl ?_
                  refine x_get G 0 rfl rfl 11 (by decide) rfl (fun w h => .tail _ (iM_ok w h)) (.tail _ wd_606) rfl dM_row_146 ?_
                  refine x_iload G dM_row_149 rfl ?_
                  refine x_ialdN G 6 0 rfl rfl (by omega) (by decide) dM_row_151 ?_
                  refine x_top h6b ?_
                  refine x_istore G dM_row_152 (by decide) ?_
                  refine x_aload_n G 0 dM_row_154 rfl rfl ?_
                  refine x_get G 0 rfl rfl 13 (by decide) rfl (fun w h => .tail _ (iM_ok w h)) (.tail _ wd_608) rfl dM_row_155 ?_
                  refine x_bipush G (8) dM_row_158 (by decide) ?_
                  refine x_iload G dM_row_160 rfl ?_
                  refine x_imul G dM_row_162 ?_
                  refine x_iload G dM_row_163 rfl ?_
                  refine x_iadd G dM_row_165 ?_
                  refine x_top (z := nI (8 * A b + b)) (by show nI 8 * nI (A b) + nI b = _; rw [pk_mul, nI_add]) ?_
                  refine x_ialdN G 8 0 rfl rfl (by omega) (by decide) dM_row_166 ?_
                  refine x_top h8b ?_
                  refine x_istore G dM_row_167 (by decide) ?_
                  refine x_iload_n G 2 dM_row_169 rfl rfl ?_
                  refine x_if_ne G 178 dM_row_170 (by decide) (fun h170 => ?_) (fun h170 => ?_)
                  · refine x_iload_n G 2 dM_row_178 rfl rfl ?_
                    refine x_iconst G (1) dM_row_179 (by decide) ?_
                    refine x_icmp_ne G 188 dM_row_180 (by decide) (fun h180 => ?_) (fun h180 => ?_)
                    · refine x_iload_n G 2 dM_row_188 rfl rfl ?_
                      refine x_iconst G (2) dM_row_189 (by decide) ?_
                      refine x_icmp_ne G 198 dM_row_190 (by decide) (fun h190 => ?_) (fun h190 => ?_)
                      · refine x_iload G dM_row_198 rfl ?_
                        refine x_aload_n G 0 dM_row_200 rfl rfl ?_
                        refine x_iload G dM_row_201 rfl ?_
                        refine x_iload G dM_row_203 rfl ?_
                        refine x_call0V2i G (cM_takes hP4 hb4 hbn) 0 rfl rfl (cV G.2.2.2.2.1 wd_696 wd_698 wd_41 wd_55 wd_699 (by decide +kernel) ⟨(Nat.le_of_ble_eq_true rfl), (Nat.le_of_ble_eq_true rfl)⟩) dM_row_205 (Nat.le_of_ble_eq_true rfl) ⟨Nat.zero_le _, Nat.zero_le _⟩ (fun r205 e205 => ?_)
                        subst e205
                        refine x_iadd G dM_row_208 ?_
                        exact x_reti G hr hlk rfl dM_row_209 ⟨by rw [hk]; exact sst_same, hLU4, fun _ => ⟨i, rfl, hi, by unfold rwA; rw [← hbe, if_neg h170, if_neg h180, if_neg h190]; exact nI_add _ _⟩⟩
                      · refine x_iload G dM_row_193 rfl ?_
                        refine x_goto G 209 dM_row_195 (by decide) ?_
                        exact x_reti G hr hlk rfl dM_row_209 ⟨by rw [hk]; exact sst_same, hLU4, fun _ => ⟨i, rfl, hi, by unfold rwA; rw [← hbe, if_neg h170, if_neg h180, if_pos h190]⟩⟩
                    · refine x_iload G dM_row_183 rfl ?_
                      refine x_goto G 209 dM_row_185 (by decide) ?_
                      exact x_reti G hr hlk rfl dM_row_209 ⟨by rw [hk]; exact sst_same, hLU4, fun _ => ⟨i, rfl, hi, by unfold rwA; rw [← hbe, if_neg h170, if_pos h180]⟩⟩
                  · refine x_iload G dM_row_173 rfl ?_
                    refine x_goto G 209 dM_row_175 (by decide) ?_
                    exact x_reti G hr hlk rfl dM_row_209 ⟨by rw [hk]; exact sst_same, hLU4, fun _ => ⟨i, rfl, hi, by unfold rwA; rw [← hbe, if_pos h170]⟩⟩
                | succ j ih =>
                  intro k hk' z7
                  have h6 : sst σ3 0 0 0 6 k = aI (A k) := by rw [sst_ne (by omega)]; exact hT.1 k (by omega)
                  have key : ∀ x, x = (if A k < 4 ∧ k = L.getD i 0 then nI k else (if L.getD i 0 < k then nI (L.getD i 0) else -1)) → x = (if L.getD i 0 < k + 1 then nI (L.getD i 0) else -1) := by
                    intro x hx
                    rw [hx]
                    by_cases h1 : k = L.getD i 0
                    · rw [if_pos ⟨by rw [h1]; exact hb4, h1⟩, if_pos (by omega), ← h1]
                    · rw [if_neg (fun q => h1 q.2)]
                      by_cases h2 : L.getD i 0 < k
                      · rw [if_pos h2, if_pos (by omega)]
                      · rw [if_neg h2, if_neg (by omega)]
                  refine x_iload G dM_row_101 rfl ?_
                  refine x_aload_n G 0 dM_row_103 rfl rfl ?_
                  refine x_get G 0 rfl rfl 3 (by decide) rfl (fun w h => .tail _ (iM_ok w h)) (.tail _ wd_598) rfl dM_row_104 ?_
                  refine x_icmp_ge G 145 dM_row_107 (by decide) (fun h107 => (by rw [e04] at h107; exact absurd h107 (nI_ge (by omega) (by omega)))) (fun h107 => ?_)
                  refine x_aload_n G 0 dM_row_110 rfl rfl ?_
                  refine x_get G 0 rfl rfl 11 (by decide) rfl (fun w h => .tail _ (iM_ok w h)) (.tail _ wd_606) rfl dM_row_111 ?_
                  refine x_iload G dM_row_114 rfl ?_
                  refine x_ialdN G 6 0 rfl rfl (by omega) (by decide) dM_row_116 ?_
                  refine x_if_lt G 135 dM_row_117 (by decide) (fun h117 => ?_) (fun h117 => ?_)
                  · rw [h6, aI_lt0] at h117
                    have hx : (if L.getD i 0 < k then nI (L.getD i 0) else -1) = (if A k < 4 ∧ k = L.getD i 0 then nI k else (if L.getD i 0 < k then nI (L.getD i 0) else -1)) := (if_neg (fun q => h117 q.1)).symm
                    refine x_iload G dM_row_135 rfl ?_
                    refine x_top (key _ hx) ?_
                    refine x_istore G dM_row_137 (by decide) ?_
                    refine x_iinc G (nI (k + 1)) dM_row_139 rfl (nI_1 k) (by decide) ?_
                    refine x_goto G 101 dM_row_142 (by decide) ?_
                    exact ih (k + 1) (by omega) z7
                  · rw [h6, aI_lt0, Decidable.not_not] at h117
                    have har := ah_row (n := n) (x := k) hA1 hn8 hLs hLp h117 (by omega) hi
                    have hcl := cntB_le (bz := ahQ A (fun b => cmA A (mvF hh ww) mo mi 8 g s (A b) b) k) n
                    refine x_aload_n G 0 dM_row_120 rfl rfl ?_
                    refine x_iload G dM_row_121 rfl ?_
                    refine x_call0V1i G (cM_ahead hP4 hT4 hCM4 (show k < n by omega) h117) 0 rfl rfl (cV G.2.2.2.2.1 wd_736 wd_738 wd_46 wd_55 wd_739 (by decide +kernel) ⟨(Nat.le_of_ble_eq_true rfl), (Nat.le_of_ble_eq_true rfl)⟩) dM_row_123 (Nat.le_of_ble_eq_true rfl) ⟨Nat.zero_le _, Nat.zero_le _⟩ (fun r123 e123 => ?_)
                    subst e123
                    refine x_iload_n G 1 dM_row_126 rfl rfl ?_
                    refine x_icmp_ne G 135 dM_row_127 (by decide) (fun h127 => ?_) (fun h127 => ?_)
                    · have h127 : ¬ k = L.getD i 0 := fun q => h127 (by rw [har.mpr q])
                      have hx : (if L.getD i 0 < k then nI (L.getD i 0) else -1) = (if A k < 4 ∧ k = L.getD i 0 then nI k else (if L.getD i 0 < k then nI (L.getD i 0) else -1)) := (if_neg (fun q => h127 q.2)).symm
                      refine x_iload G dM_row_135 rfl ?_
                      refine x_top (key _ hx) ?_
                      refine x_istore G dM_row_137 (by decide) ?_
                      refine x_iinc G (nI (k + 1)) dM_row_139 rfl (nI_1 k) (by decide) ?_
                      refine x_goto G 101 dM_row_142 (by decide) ?_
                      exact ih (k + 1) (by omega) z7
                    · have h127 : k = L.getD i 0 := har.mp (by rw [nI_eq (by omega) (by omega)] at h127; exact h127)
                      have hx : nI k = (if A k < 4 ∧ k = L.getD i 0 then nI k else (if L.getD i 0 < k then nI (L.getD i 0) else -1)) := by rw [if_pos ⟨h117, h127⟩]
                      refine x_iload G dM_row_130 rfl ?_
                      refine x_goto G 137 dM_row_132 (by decide) ?_
                      refine x_top (key _ hx) ?_
                      refine x_istore G dM_row_137 (by decide) ?_
                      refine x_iinc G (nI (k + 1)) dM_row_139 rfl (nI_1 k) (by decide) ?_
                      refine x_goto G 101 dM_row_142 (by decide) ?_
                      exact ih (k + 1) (by omega) z7
              refine x_iload_n G 3 dM_row_81 rfl rfl ?_
              refine x_ldc G 1000000000 dM_row_82 (by decide +kernel) ?_
              refine x_icmp_ne G 93 dM_row_84 (by decide) (fun h84 => ?_) (fun h84 => (by have h84 := h84; rw [show (1000000000 : Int32) = nI 1000000000 from rfl, nI_eq (by omega) (by omega)] at h84; omega))
              refine x_aload_n G 0 dM_row_93 rfl rfl ?_
              refine x_iconst G (0) dM_row_94 (by decide) ?_
              refine x_put G 0 rfl rfl 0 (by decide) (Nat.le_of_ble_eq_true rfl) mput_0_0 (fun w h => .tail _ (iM_ok w h)) tM_ok nM_ok (.tail _ wd_595) rfl rfl (tM_ok 0 (by decide)) rfl rfl dM_row_95 ?_
              refine x_iconst G (0) dM_row_98 (by decide) ?_
              refine x_istore G dM_row_99 (by decide) ?_
              exact x_eq rfl (by rw [if_neg (show ¬ L.getD i 0 < 0 by omega)]; rfl) rfl rfl (find n 0 (by omega) z7)
      | succ j ih =>
        intro k hk' z7
        have h6 : σ3 6 k = aI (A k) := hT.1 k (by omega)
        refine x_iload G dM_row_27 rfl ?_
        refine x_aload_n G 0 dM_row_29 rfl rfl ?_
        refine x_get G 0 rfl rfl 3 (by decide) rfl (fun w h => .tail _ (iM_ok w h)) (.tail _ wd_598) rfl dM_row_30 ?_
        refine x_icmp_ge G 62 dM_row_33 (by decide) (fun h33 => (by rw [e0] at h33; exact absurd h33 (nI_ge (by omega) (by omega)))) (fun h33 => ?_)
        refine x_iload G dM_row_36 rfl ?_
        refine x_aload_n G 0 dM_row_38 rfl rfl ?_
        refine x_get G 0 rfl rfl 11 (by decide) rfl (fun w h => .tail _ (iM_ok w h)) (.tail _ wd_606) rfl dM_row_39 ?_
        refine x_iload G dM_row_42 rfl ?_
        refine x_ialdN G 6 0 rfl rfl (by omega) (by decide) dM_row_44 ?_
        refine x_if_lt G 52 dM_row_45 (by decide) (fun h45 => ?_) (fun h45 => ?_)
        · rw [h6, aI_lt0] at h45
          have ec : cntB (fun b => decide (A b < 4)) k + 0 = cntB (fun b => decide (A b < 4)) (k + 1) := by rw [cntB_z (by simp [h45])]; rfl
          refine x_iconst G (0) dM_row_52 (by decide) ?_
          refine x_iadd G dM_row_53 ?_
          refine x_top ((nI_add _ _).trans (congrArg nI ec)) ?_
          refine x_istore G dM_row_54 (by decide) ?_
          refine x_iinc G (nI (k + 1)) dM_row_56 rfl (nI_1 k) (by decide) ?_
          refine x_goto G 27 dM_row_59 (by decide) ?_
          exact ih (k + 1) (by omega) z7
        · rw [h6, aI_lt0, Decidable.not_not] at h45
          have ec : cntB (fun b => decide (A b < 4)) k + 1 = cntB (fun b => decide (A b < 4)) (k + 1) := by rw [cntB_s (by simp [h45])]
          refine x_iconst G (1) dM_row_48 (by decide) ?_
          refine x_goto G 53 dM_row_49 (by decide) ?_
          refine x_iadd G dM_row_53 ?_
          refine x_top ((nI_add _ _).trans (congrArg nI ec)) ?_
          refine x_istore G dM_row_54 (by decide) ?_
          refine x_iinc G (nI (k + 1)) dM_row_56 rfl (nI_1 k) (by decide) ?_
          refine x_goto G 27 dM_row_59 (by decide) ?_
          exact ih (k + 1) (by omega) z7
    refine x_istore_n G 3 dM_row_17 rfl (by decide) ?_
    refine x_iconst G (0) dM_row_18 (by decide) ?_
    refine x_istore G dM_row_19 (by decide) ?_
    refine x_iconst G (-1) dM_row_21 (by decide) ?_
    refine x_istore G dM_row_22 (by decide) ?_
    refine x_iconst G (0) dM_row_24 (by decide) ?_
    refine x_istore G dM_row_25 (by decide) ?_
    exact rows n 0 (by omega) .null
  · have hp : ¬ pl = true := bI_eq0.mp (by rw [← hpl]; exact h4)
    have hk : tRw pl (cntB (fun b => decide (A b < 4)) n) v t = 1 := if_neg hp
    refine x_aload_n G 0 dM_row_7 rfl rfl ?_
    refine x_iconst G (1) dM_row_8 (by decide) ?_
    refine x_callV1i G cM_refuse 0 rfl rfl (cV G.2.2.2.2.1 wd_655 wd_657 wd_34 wd_55 wd_658 (by decide +kernel) ⟨(Nat.le_of_ble_eq_true rfl), (Nat.le_of_ble_eq_true rfl)⟩) dM_row_9 (Nat.le_of_ble_eq_true rfl) ⟨Nat.zero_le _, Nat.zero_le _⟩ (fun r9 u9 e9 => ?_)
    obtain ⟨e9r, e9u⟩ := e9; subst e9u; subst e9r
    exact x_reti G hr hlk rfl dM_row_12 ⟨by rw [hk]; exact sst_same, LU.thr, fun q => absurd (hk.symm.trans q) (by decide)⟩
