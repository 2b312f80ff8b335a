/-! THE REFERENCE: search, plan, lays -/
/-- finish and steps of a sharing of all cranes, none where a crane of it is out or it does not keep apart -/
def keyM (n g s : Nat) (hh ww mo mi : Nat → Nat) (ou : Nat → Bool) (xs : List Nat) : Option (Nat × Nat) := if alw (sprB (bzF hh ww) xs) ou n = true then keyA (sprB (bzF hh ww) xs) (mvF hh ww) mo mi g s else none
def mF (acc : Option (List Nat × Nat × Nat)) : Nat := match acc with
  | none => 1000000000
  | some q => q.2.1
def mS (acc : Option (List Nat × Nat × Nat)) : Nat := match acc with
  | none => 1000000000
  | some q => q.2.2
theorem bstM_t {key : List Nat → Option (Nat × Nat)} {acc : Option (List Nat × Nat × Nat)} {x : List Nat} {f s : Nat} (h : key x = some (f, s)) (hb : f < mF acc ∨ (f = mF acc ∧ s < mS acc)) : bstS key acc x = some (x, f, s) := by
  unfold bstS; rw [h]
  cases acc with
  | none => rfl
  | some q =>
    obtain ⟨y, f', s'⟩ := q
    exact if_pos hb
theorem bstM_f {key : List Nat → Option (Nat × Nat)} {acc : Option (List Nat × Nat × Nat)} {x : List Nat} {f s : Nat} (h : key x = some (f, s)) (hf : f < 1000000000) (hb : ¬ (f < mF acc ∨ (f = mF acc ∧ s < mS acc))) : bstS key acc x = acc := by
  unfold bstS; rw [h]
  cases acc with
  | none => exact absurd (Or.inl hf) hb
  | some q =>
    obtain ⟨y, f', s'⟩ := q
    exact if_neg hb
/-- what the search leaves -/
def SB (u : xSg) (n C g s : Nat) (hh ww mo mi : Nat → Nat) (ou : Nat → Bool) (r : Int32) : Prop := match (if 0 < abS ou C then bstL (keyM n g s hh ww mo mi ou) (enL C 165 (zrL (cntB (bzF hh ww) n))) none else none) with
  | none => r = -1 ∧ u 0 10 = 0
  | some (ys, f, _) => r = nI f ∧ u 0 10 = 1 ∧ ys.length = (cntB (bzF hh ww) n) ∧ (∀ i, i < ys.length → gDn ys i < C) ∧ ∀ b, b < n → u 7 b = aI (sprB (bzF hh ww) ys b)
def SU (σ u : xSg) : Prop := (∀ q, 1 ≤ q → q < 6 → u q = σ q) ∧ ∀ i, i ≠ 10 → u 0 i = σ 0 i
def SL (σ u : xSg) : Prop := ∀ q, q < 6 → u q = σ q
theorem SL.tr {σ u v : xSg} (h1 : SL σ u) (h2 : SL u v) : SL σ v := fun q a => (h2 q a).trans (h1 q a)
theorem SL.PM {σ u : xSg} {n C g s : Nat} {hh ww mo mi : Nat → Nat} {ou : Nat → Bool} (h : SL σ u) (hP : PM σ n C g s hh ww mo mi ou) : PM u n C g s hh ww mo mi ou := hP.of ⟨by rw [h 0 (by omega)], by rw [h 0 (by omega)], by rw [h 0 (by omega)], by rw [h 0 (by omega)]⟩ (h 1 (by omega)) (h 2 (by omega)) (h 3 (by omega)) (h 4 (by omega)) (h 5 (by omega))
def LA (σ : xSg) (n C : Nat) (hh ww : Nat → Nat) (acc : Option (List Nat × Nat × Nat)) : Prop := ∀ ys f st, acc = some (ys, f, st) → ys.length = (cntB (bzF hh ww) n) ∧ (∀ i, i < ys.length → gDn ys i < C) ∧ (∀ b, b < n → σ 7 b = aI (sprB (bzF hh ww) ys b)) ∧ f ≤ 700540 ∧ st ≤ 32
theorem LA.of {σ u : xSg} {n C : Nat} {hh ww : Nat → Nat} {acc : Option (List Nat × Nat × Nat)} (h : LA σ n C hh ww acc) (h7 : u 7 = σ 7) : LA u n C hh ww acc := by unfold LA; rw [h7]; exact h
theorem LA.le {σ : xSg} {n C : Nat} {hh ww : Nat → Nat} {acc : Option (List Nat × Nat × Nat)} (h : LA σ n C hh ww acc) : mF acc ≤ 1000000000 ∧ mS acc ≤ 1000000000 ∧ (acc ≠ none → mF acc < 1000000000) := by
  cases acc with
  | none => exact ⟨Nat.le_refl _, Nat.le_refl _, fun q => absurd rfl q⟩
  | some q =>
    obtain ⟨y, f, st⟩ := q
    obtain ⟨-, -, -, h1, h2⟩ := h y f st rfl
    simp only [mF, mS]
    omega
theorem spr_TR {σ : xSg} {bz : Nat → Bool} {xs : List Nat} {n C : Nat} (hl : xs.length = cntB bz n) (hx : ∀ i, i < xs.length → gDn xs i < C) (hz : ∀ b, bz b = true → b < n) (ht : ∀ b, b < n → σ 6 b = aI (sprB bz xs b)) : TR σ (sprB bz xs) n C := by
  refine ⟨ht, fun b hb q => ?_, fun b q => ?_⟩
  · rw [spr_no (fun z => by have := hz b z; omega)] at q; omega
  · by_cases z : bz b = true
    · exact spr_lt hl hx (hz b z) z
    · rw [spr_no z] at q; omega
theorem spA_le (A : Nat → Nat) : spA A 8 4 ≤ 32 := by
  have h1 : ∀ c, (lstA A c 8).getD 0 - (fstA A c 8).getD 0 ≤ 8 := by
    intro c
    cases hl : lstA A c 8 with
    | none => simp
    | some x => have := lst_lt hl; simp only [Option.getD_some]; omega
  have := h1 0; have := h1 1; have := h1 2; have := h1 3
  simp only [spA]; omega
theorem PM.ej {σ : xSg} {n C g s : Nat} {hh ww mo mi : Nat → Nat} {ou : Nat → Bool} (h : PM σ n C g s hh ww mo mi ou) (A : Nat → Nat) (j : Nat) : EJ A (mvF hh ww) mo mi g s j ≤ 700540 := by
  have hmv := h.mv
  obtain ⟨hn8, hC1, hC4, hg3, hs20, hn, hC, hg, hs, hbw, hrt, hbb, hb0, hbd⟩ := h
  refine fiG_le (fun b hb hp => ?_)
  have hp : j ≤ A b ∧ A b < 4 := of_decide_eq_true hp
  have q1 := cmA_le (A := A) (mv := mvF hh ww) (mo := mo) (mi := mi) (n := 8) (g := g) (s := s) hmv (fun c _ => (hbd c).2.2.2) (fun c _ => (hbd c).1) hg3 hs20 hp.2 hb
  have q2 := tkA_le (mv := mvF hh ww) (mo := mo) (mi := mi) (c := A b) (b := b) (hmv b) (hbd _).2.2.2 (hbd _).1
  unfold enA; omega
theorem gDn_zr {n i : Nat} : gDn (zrL n) i = 0 := by
  unfold gDn zrL; rw [List.getD_eq_getElem?_getD, List.getElem?_replicate]; split <;> rfl
theorem spr_zr {bz : Nat → Bool} {n b : Nat} : sprB bz (zrL n) b = if bz b = true then 0 else 9 := by unfold sprB; rw [gDn_zr]
set_option maxHeartbeats 4000000 in
set_option maxRecDepth 100000 in
theorem cM_search {l : Launch} {D : va_G} {cI cZ cJ : ClassId} {ad : Nat → Nat} {σ : xSg} {n C g s : Nat} {hh ww mo mi : Nat → Nat} {ou : Nat → Bool} (hP : PM σ n C g s hh ww mo mi ou) : xCi l D vCl (tyC cI cZ cJ) nwW (wM ad cI cZ cJ) yM_search (.code yM_search bM_search 7 (some .int) :: bigW) 3 [.ref (ad 0)] σ (fun r u => SB u n C g s hh ww mo mi ou r ∧ SU σ u) := by
  refine xCi.of (cc := bM_search) (nL := 7) (ret := (some .int)) rfl (by decide) [.ref (ad 0), .null, .null, .null, .null, .null, .null] rfl (Nat.le_of_ble_eq_true rfl) ?_
  intro pp ee ss mm aa bb me cde AA G hr hlk
  obtain ⟨hn8, hC1, hC4, hg3, hs20, hn, hC, hg, hs, hbw, hrt, hbb, hb0, hbd⟩ := id hP
  have hbz : ∀ b, bzF hh ww b = true → b < n := fun b h => by
    rcases Nat.lt_or_ge b n with z | z
    · exact z
    · have := hb0 b z; have hz : 0 < mvF hh ww b := of_decide_eq_true h; unfold mvF at hz; omega
  have ends : ∀ (σ1 : xSg) (acc : Option (List Nat × Nat × Nat)) (x3 : Int32) (z4 z5 z6 : Value), bstL (keyM n g s hh ww mo mi ou) (enL C 165 (zrL (cntB (bzF hh ww) n))) none = acc → LA σ1 n C hh ww acc → SL σ σ1 → xJ pp l ee { frames := 3, cells := 0, slots := 0, locals := 40 * 3 } ss mm aa bb me cde 0 0 (MQ bb (va_Qi (fun r u => SB u n C g s hh ww mo mi ou r ∧ SU σ u) (fun u t => va_P D vCl (wM ad cI cZ cJ u) t.heap ∧ va_D AA (wM ad cI cZ cJ u)) AA) aa ss 0 0 AA) D vCl AA 7 (va_S AA ss.heap) (wM ad cI cZ cJ σ1) [.ref (ad 0), .int (nI (mF acc)), .int (nI (mS acc)), .int x3, z4, z5, z6] 147 [] := by
    intro σ1 acc x3 z4 z5 z6 hT hA hO
    have hle := hA.le
    refine x_aload_n G 0 dM_search_147 rfl rfl ?_
    refine x_iload_n G 1 dM_search_148 rfl rfl ?_
    refine x_ldc G 1000000000 dM_search_149 (by decide +kernel) ?_
    refine x_icmp_ge G 165 dM_search_151 (by decide) (fun h151 => ?_) (fun h151 => ?_)
    · have hacc : acc = none := by
        rcases acc with _ | q
        · rfl
        · have := hle.2.2 (by simp); rw [show (1000000000 : Int32) = nI 1000000000 from rfl, nI_leI (by omega) (by omega)] at h151; omega
      refine x_iconst G (0) dM_search_165 (by decide) ?_
      refine x_put G 0 rfl rfl 10 (by decide) (Nat.le_of_ble_eq_true rfl) mput_0_10 (fun w h => .tail _ (iM_ok w h)) tM_ok nM_ok (.tail _ wd_605) rfl rfl (tM_ok 10 (by decide)) rfl rfl dM_search_166 ?_
      refine x_aload_n G 0 dM_search_169 rfl rfl ?_
      refine x_get G 0 rfl rfl 10 (by decide) rfl (fun w h => .tail _ (iM_ok w h)) (.tail _ wd_605) rfl dM_search_170 ?_
      refine x_if_eq G 180 dM_search_173 (by decide) (fun h173 => ?_) (fun h173 => (by exact absurd sst_same h173))
      refine x_iconst G (-1) dM_search_180 (by decide) ?_
      exact x_reti G hr hlk rfl dM_search_181 ⟨(by unfold SB; rw [hT, hacc]; rw [show (if 0 < abS ou C then (none : Option (List Nat × Nat × Nat)) else none) = none by split <;> rfl]; exact ⟨rfl, sst_same⟩), ⟨fun q h1 h2 => by rw [sst_ne (by omega)]; exact hO q h2, fun i hi => by rw [sst_i hi]; rw [hO 0 (by omega)]⟩⟩
    · obtain ⟨ys, f, st, hacc⟩ : ∃ ys f st, acc = some (ys, f, st) := by
        rcases acc with _ | q
        · exact absurd (by decide) h151
        · exact ⟨q.1, q.2.1, q.2.2, rfl⟩
      obtain ⟨a1, a2, a3, a4, a5⟩ := hA ys f st hacc
      refine x_aload_n G 0 dM_search_154 rfl rfl ?_
      refine x_call0V0i G (cM_working (hO.PM hP)) 0 rfl rfl (cV G.2.2.2.2.1 wd_708 wd_710 wd_44 wd_55 wd_711 (by decide +kernel) ⟨(Nat.le_of_ble_eq_true rfl), (Nat.le_of_ble_eq_true rfl)⟩) dM_search_155 (Nat.le_of_ble_eq_true rfl) ⟨Nat.zero_le _, Nat.zero_le _⟩ (fun r155 e155 => ?_)
      subst e155
      refine x_if_le G 165 dM_search_158 (by decide) (fun h158 => ?_) (fun h158 => ?_)
      · have hab := abS_le (ou := ou) C
        rw [show (0 : Int32) = nI 0 from rfl, nI_leI (by omega) (by omega)] at h158
        refine x_iconst G (0) dM_search_165 (by decide) ?_
        refine x_put G 0 rfl rfl 10 (by decide) (Nat.le_of_ble_eq_true rfl) mput_0_10 (fun w h => .tail _ (iM_ok w h)) tM_ok nM_ok (.tail _ wd_605) rfl rfl (tM_ok 10 (by decide)) rfl rfl dM_search_166 ?_
        refine x_aload_n G 0 dM_search_169 rfl rfl ?_
        refine x_get G 0 rfl rfl 10 (by decide) rfl (fun w h => .tail _ (iM_ok w h)) (.tail _ wd_605) rfl dM_search_170 ?_
        refine x_if_eq G 180 dM_search_173 (by decide) (fun h173 => ?_) (fun h173 => (by exact absurd sst_same h173))
        refine x_iconst G (-1) dM_search_180 (by decide) ?_
        exact x_reti G hr hlk rfl dM_search_181 ⟨(by unfold SB; rw [if_neg (by omega)]; exact ⟨rfl, sst_same⟩), ⟨fun q h1 h2 => by rw [sst_ne (by omega)]; exact hO q h2, fun i hi => by rw [sst_i hi]; rw [hO 0 (by omega)]⟩⟩
      · have hab := abS_le (ou := ou) C
        rw [show (0 : Int32) = nI 0 from rfl, nI_leI (by omega) (by omega), Nat.not_le] at h158
        refine x_iconst G (1) dM_search_161 (by decide) ?_
        refine x_goto G 166 dM_search_162 (by decide) ?_
        refine x_put G 0 rfl rfl 10 (by decide) (Nat.le_of_ble_eq_true rfl) mput_0_10 (fun w h => .tail _ (iM_ok w h)) tM_ok nM_ok (.tail _ wd_605) rfl rfl (tM_ok 10 (by decide)) rfl rfl dM_search_166 ?_
        refine x_aload_n G 0 dM_search_169 rfl rfl ?_
        refine x_get G 0 rfl rfl 10 (by decide) rfl (fun w h => .tail _ (iM_ok w h)) (.tail _ wd_605) rfl dM_search_170 ?_
        refine x_if_eq G 180 dM_search_173 (by decide) (fun h173 => (by rw [sst_same] at h173; exact absurd h173 (by decide))) (fun h173 => ?_)
        refine x_iload_n G 1 dM_search_176 rfl rfl ?_
        refine x_goto G 181 dM_search_177 (by decide) ?_
        exact x_reti G hr hlk rfl dM_search_181 ⟨(by unfold SB; rw [if_pos h158, hT, hacc]; exact ⟨rfl, sst_same, a1, a2, fun b hb => by rw [sst_ne (by omega)]; exact a3 b hb⟩), ⟨fun q h1 h2 => by rw [sst_ne (by omega)]; exact hO q h2, fun i hi => by rw [sst_i hi]; rw [hO 0 (by omega)]⟩⟩
  have loop : ∀ (j : Nat) (σ1 : xSg) (xs : List Nat) (acc : Option (List Nat × Nat × Nat)) (z4 z5 z6 : Value), xs.length = (cntB (bzF hh ww) n) → (∀ i, i < xs.length → gDn xs i < C) → (∀ b, b < n → σ1 6 b = aI (sprB (bzF hh ww) xs b)) → enE C j xs = true → bstL (keyM n g s hh ww mo mi ou) (enL C 165 (zrL (cntB (bzF hh ww) n))) none = bstL (keyM n g s hh ww mo mi ou) (enL C j xs) acc → LA σ1 n C hh ww acc → SL σ σ1 → xJ pp l ee { frames := 3, cells := 0, slots := 0, locals := 40 * 3 } ss mm aa bb me cde 0 0 (MQ bb (va_Qi (fun r u => SB u n C g s hh ww mo mi ou r ∧ SU σ u) (fun u t => va_P D vCl (wM ad cI cZ cJ u) t.heap ∧ va_D AA (wM ad cI cZ cJ u)) AA) aa ss 0 0 AA) D vCl AA 7 (va_S AA ss.heap) (wM ad cI cZ cJ σ1) [.ref (ad 0), .int (nI (mF acc)), .int (nI (mS acc)), .int 1, z4, z5, z6] 43 [] := by
    intro j
    induction j with
    | zero =>
      intro σ1 xs acc z4 z5 z6 h1 h2 h3 hE
      simp [enE] at hE
    | succ j ih =>
      intro σ1 xs acc z4 z5 z6 hx1 hx2 hx3 hE hT hA hO
      have hTR := spr_TR hx1 hx2 hbz hx3
      have hle := hA.le
      have tail : ∀ (σ5 : xSg) (acc2 : Option (List Nat × Nat × Nat)) (z4 z5 z6 : Value), LA σ5 n C hh ww acc2 → SL σ σ5 → (∀ b, b < n → σ5 6 b = aI (sprB (bzF hh ww) xs b)) → bstS (keyM n g s hh ww mo mi ou) acc xs = acc2 → xJ pp l ee { frames := 3, cells := 0, slots := 0, locals := 40 * 3 } ss mm aa bb me cde 0 0 (MQ bb (va_Qi (fun r u => SB u n C g s hh ww mo mi ou r ∧ SU σ u) (fun u t => va_P D vCl (wM ad cI cZ cJ u) t.heap ∧ va_D AA (wM ad cI cZ cJ u)) AA) aa ss 0 0 AA) D vCl AA 7 (va_S AA ss.heap) (wM ad cI cZ cJ σ5) [.ref (ad 0), .int (nI (mF acc2)), .int (nI (mS acc2)), .int 1, z4, z5, z6] 139 [] := by
        intro σ5 acc2 z4 z5 z6 hA2 hO2 hx5 hb2
        refine x_aload_n G 0 dM_search_139 rfl rfl ?_
        refine x_callV0i G (cM_goesOn (hO2.PM hP) hx1 hx2 hx5) 0 rfl rfl (cV G.2.2.2.2.1 wd_704 wd_706 wd_43 wd_55 wd_707 (by decide +kernel) ⟨(Nat.le_of_ble_eq_true rfl), (Nat.le_of_ble_eq_true rfl)⟩) dM_search_140 (Nat.le_of_ble_eq_true rfl) ⟨Nat.zero_le _, Nat.zero_le _⟩ (fun r140 u140 e140 => ?_)
        obtain ⟨σ6, hz⟩ : ∃ z, z = u140 := ⟨_, rfl⟩
        subst hz
        unfold NXM at e140
        cases hnx : nxtL C xs with
        | none =>
          rw [hnx] at e140
          obtain ⟨rfl, rfl⟩ := e140
          refine x_istore_n G 3 dM_search_143 rfl (by decide) ?_
          refine x_goto G 43 dM_search_144 (by decide) ?_
          refine x_iload_n G 3 dM_search_43 rfl rfl ?_
          refine x_if_eq G 147 dM_search_44 (by decide) (fun h44 => ?_) (fun h44 => (by exact absurd rfl h44))
          exact ends σ6 acc2 0 z4 z5 z6 (by rw [hT, enL_s]; simp only [hnx]; rw [bstL_cons, bstL_nil]; exact hb2) hA2 hO2
        | some ys =>
          rw [hnx] at e140
          obtain ⟨rfl, hy1, hy2, hy3⟩ := e140
          refine x_istore_n G 3 dM_search_143 rfl (by decide) ?_
          refine x_goto G 43 dM_search_144 (by decide) ?_
          exact ih σ6 ys acc2 z4 z5 z6 (hy1.trans hx1) (fun i hi => nxtL_lt hnx hx2 i (by omega)) hy2 (by unfold enE at hE; rw [hnx] at hE; exact hE) (by rw [hT, enL_s]; simp only [hnx]; rw [bstL_cons, hb2]) (hA2.of (hy3 7 (by omega))) (hO2.tr (fun q hq => hy3 q (by omega)))
      have copy : ∀ (f st : Nat), (keyM n g s hh ww mo mi ou) xs = some (f, st) → (f < mF acc ∨ (f = mF acc ∧ st < mS acc)) → f ≤ 700540 → st ≤ 32 → ∀ (i k : Nat), k + i = n → ∀ (σ5 : xSg) (z4 z5 : Int32), SL σ σ5 → (∀ b, b < n → σ5 6 b = aI ((sprB (bzF hh ww) xs) b)) → (∀ b, b < k → σ5 7 b = aI ((sprB (bzF hh ww) xs) b)) → xJ pp l ee { frames := 3, cells := 0, slots := 0, locals := 40 * 3 } ss mm aa bb me cde 0 0 (MQ bb (va_Qi (fun r u => SB u n C g s hh ww mo mi ou r ∧ SU σ u) (fun u t => va_P D vCl (wM ad cI cZ cJ u) t.heap ∧ va_D AA (wM ad cI cZ cJ u)) AA) aa ss 0 0 AA) D vCl AA 7 (va_S AA ss.heap) (wM ad cI cZ cJ σ5) [.ref (ad 0), .int (nI f), .int (nI st), .int 1, .int z4, .int z5, .int (nI k)] 110 [] := by
        intro f st hkey hbet hf hst i
        induction i with
        | zero =>
          intro k hk σ5 z4 z5 hO5 h6 h7
          have hk : k = n := by omega
          subst hk
          have e0 : σ5 0 = σ 0 := hO5 0 (by omega)
          refine x_iload G dM_search_110 rfl ?_
          refine x_aload_n G 0 dM_search_112 rfl rfl ?_
          refine x_get G 0 rfl rfl 3 (by decide) rfl (fun w h => .tail _ (iM_ok w h)) (.tail _ wd_598) rfl dM_search_113 ?_
          refine x_icmp_ge G 139 dM_search_116 (by decide) (fun h116 => ?_) (fun h116 => (by rw [e0, hn] at h116; exact absurd (nI_le (Nat.le_refl _) (by omega)) h116))
          exact tail σ5 (some (xs, f, st)) (.int z4) (.int z5) _ (fun ys f' st' he => by cases he; exact ⟨hx1, hx2, h7, hf, hst⟩) hO5 h6 (bstM_t hkey hbet)
        | succ i ihc =>
          intro k hk σ5 z4 z5 hO5 h6 h7
          have e0 : σ5 0 = σ 0 := hO5 0 (by omega)
          refine x_iload G dM_search_110 rfl ?_
          refine x_aload_n G 0 dM_search_112 rfl rfl ?_
          refine x_get G 0 rfl rfl 3 (by decide) rfl (fun w h => .tail _ (iM_ok w h)) (.tail _ wd_598) rfl dM_search_113 ?_
          refine x_icmp_ge G 139 dM_search_116 (by decide) (fun h116 => (by rw [e0, hn] at h116; exact absurd h116 (nI_ge (by omega) (by omega)))) (fun h116 => ?_)
          refine x_aload_n G 0 dM_search_119 rfl rfl ?_
          refine x_get G 0 rfl rfl 12 (by decide) rfl (fun w h => .tail _ (iM_ok w h)) (.tail _ wd_607) rfl dM_search_120 ?_
          refine x_iload G dM_search_123 rfl ?_
          refine x_aload_n G 0 dM_search_125 rfl rfl ?_
          refine x_get G 0 rfl rfl 11 (by decide) rfl (fun w h => .tail _ (iM_ok w h)) (.tail _ wd_606) rfl dM_search_126 ?_
          refine x_iload G dM_search_129 rfl ?_
          refine x_ialdN G 6 0 rfl rfl (by omega) (by decide) dM_search_131 ?_
          refine x_iastN G 7 0 rfl rfl marr_7 (by omega) (by decide) dM_search_132 ?_
          refine x_iinc G (nI (k + 1)) dM_search_133 rfl (nI_1 k) (by decide) ?_
          refine x_goto G 110 dM_search_136 (by decide) ?_
          exact ihc (k + 1) (by omega) (sst σ5 7 k (σ5 6 k)) z4 z5 (hO5.tr (fun q hq => sst_ne (by omega))) (fun b hb => by rw [sst_ne (by omega)]; exact h6 b hb) (fun b hb => by rcases (show b < k ∨ b = k by omega) with z | z; (· rw [sst_i (by omega)]; exact h7 b z); (· rw [z, sst_same]; exact h6 k (by omega)))
      refine x_iload_n G 3 dM_search_43 rfl rfl ?_
      refine x_if_eq G 147 dM_search_44 (by decide) (fun h44 => (by exact absurd h44 (by decide))) (fun h44 => ?_)
      refine x_aload_n G 0 dM_search_47 rfl rfl ?_
      refine x_callV0i G (cM_isAllowed (hO.PM hP) hTR) 0 rfl rfl (cV G.2.2.2.2.1 wd_684 wd_686 wd_38 wd_55 wd_687 (by decide +kernel) ⟨(Nat.le_of_ble_eq_true rfl), (Nat.le_of_ble_eq_true rfl)⟩) dM_search_48 (Nat.le_of_ble_eq_true rfl) ⟨Nat.zero_le _, Nat.zero_le _⟩ (fun r48 u48 e48 => ?_)
      obtain ⟨σ2, hz⟩ : ∃ z, z = u48 := ⟨_, rfl⟩
      subst hz
      obtain ⟨rfl, hF, hS2⟩ := e48
      have hO2 : SL σ σ2 := hO.tr (fun q hq => hS2 q (by omega) (by omega))
      have h26 : σ2 6 = σ1 6 := hS2 6 (by omega) (by omega)
      have h27 : σ2 7 = σ1 7 := hS2 7 (by omega) (by omega)
      have hTR2 : TR σ2 (sprB (bzF hh ww) xs) n C := ⟨fun b hb => by rw [h26]; exact hx3 b hb, hTR.2.1, hTR.2.2⟩
      refine x_if_eq G 61 dM_search_51 (by decide) (fun h51 => ?_) (fun h51 => ?_)
      · have h51 := bI_eq0.mp h51
        have hkey : (keyM n g s hh ww mo mi ou) xs = none := by
          unfold keyM; split
          · unfold keyA; rw [if_neg (fun q => h51 ⟨by assumption, q⟩)]
          · rfl
        refine x_ldc G 1000000000 dM_search_61 (by decide +kernel) ?_
        refine x_istore G dM_search_63 (by decide) ?_
        refine x_iload G dM_search_65 rfl ?_
        refine x_ldc G 1000000000 dM_search_67 (by decide +kernel) ?_
        refine x_icmp_ge G 79 dM_search_69 (by decide) (fun h69 => ?_) (fun h69 => (by exact absurd (Int32.le_refl _) h69))
        refine x_ldc G 1000000000 dM_search_79 (by decide +kernel) ?_
        refine x_istore G dM_search_81 (by decide) ?_
        refine x_iload G dM_search_83 rfl ?_
        refine x_iload_n G 1 dM_search_85 rfl rfl ?_
        refine x_icmp_lt G 101 dM_search_86 (by decide) (fun h86 => (by rw [show (1000000000 : Int32) = nI 1000000000 from rfl, nI_ltI (by omega) (by omega)] at h86; omega)) (fun h86 => ?_)
        refine x_iload G dM_search_89 rfl ?_
        refine x_iload_n G 1 dM_search_91 rfl rfl ?_
        refine x_icmp_ne G 139 dM_search_92 (by decide) (fun h92 => ?_) (fun h92 => ?_)
        · skip
          exact tail σ2 acc _ _ z6 (hA.of h27) hO2 (fun b hb => by rw [h26]; exact hx3 b hb) (bstS_none hkey)
        · skip
          refine x_iload G dM_search_95 rfl ?_
          refine x_iload_n G 2 dM_search_97 rfl rfl ?_
          refine x_icmp_ge G 139 dM_search_98 (by decide) (fun h98 => ?_) (fun h98 => (by rw [show (1000000000 : Int32) = nI 1000000000 from rfl, nI_leI (by omega) (by omega)] at h98; omega))
          exact tail σ2 acc _ _ z6 (hA.of h27) hO2 (fun b hb => by rw [h26]; exact hx3 b hb) (bstS_none hkey)
      · have h51 := bI_ne0.mp h51
        have hkey : (keyM n g s hh ww mo mi ou) xs = some (EJ (sprB (bzF hh ww) xs) (mvF hh ww) mo mi g s 0, spA (sprB (bzF hh ww) xs) 8 4) := by
          unfold keyM; rw [if_pos h51.1]; unfold keyA; rw [if_pos h51.2]; rfl
        refine x_aload_n G 0 dM_search_54 rfl rfl ?_
        refine x_callV0i G (cM_times (hO2.PM hP) hTR2 (hF h51.1) h51.2) 0 rfl rfl (cV G.2.2.2.2.1 wd_692 wd_694 wd_40 wd_55 wd_695 (by decide +kernel) ⟨(Nat.le_of_ble_eq_true rfl), (Nat.le_of_ble_eq_true rfl)⟩) dM_search_55 (Nat.le_of_ble_eq_true rfl) ⟨Nat.zero_le _, Nat.zero_le _⟩ (fun r55 u55 e55 => ?_)
        obtain ⟨σ3, hz⟩ : ∃ z, z = u55 := ⟨_, rfl⟩
        subst hz
        obtain ⟨rfl, hCM, hE3⟩ := e55
        have hO3 : SL σ σ3 := hO2.tr (fun q hq => hE3 q (by omega))
        have h36 : σ3 6 = σ2 6 := hE3 6 (by omega)
        have h37 : σ3 7 = σ2 7 := hE3 7 (by omega)
        have hTR3 : TR σ3 (sprB (bzF hh ww) xs) n C := ⟨fun b hb => by rw [h36]; exact hTR2.1 b hb, hTR.2.1, hTR.2.2⟩
        have hF3 : FL σ3 (sprB (bzF hh ww) xs) C := fun c hc => by rw [hE3 9 (by omega), hE3 10 (by omega)]; exact hF h51.1 c hc
        have hej := hP.ej (sprB (bzF hh ww) xs) 0
        have hsp := spA_le (sprB (bzF hh ww) xs)
        refine x_goto G 63 dM_search_58 (by decide) ?_
        refine x_istore G dM_search_63 (by decide) ?_
        refine x_iload G dM_search_65 rfl ?_
        refine x_ldc G 1000000000 dM_search_67 (by decide +kernel) ?_
        refine x_icmp_ge G 79 dM_search_69 (by decide) (fun h69 => (by rw [show (1000000000 : Int32) = nI 1000000000 from rfl, nI_leI (by omega) (by omega)] at h69; omega)) (fun h69 => ?_)
        refine x_aload_n G 0 dM_search_72 rfl rfl ?_
        refine x_call0V0i G (cM_steps (hO3.PM hP) hTR3 hF3) 0 rfl rfl (cV G.2.2.2.2.1 wd_700 wd_702 wd_42 wd_55 wd_703 (by decide +kernel) ⟨(Nat.le_of_ble_eq_true rfl), (Nat.le_of_ble_eq_true rfl)⟩) dM_search_73 (Nat.le_of_ble_eq_true rfl) ⟨Nat.zero_le _, Nat.zero_le _⟩ (fun r73 e73 => ?_)
        subst e73
        refine x_goto G 81 dM_search_76 (by decide) ?_
        refine x_istore G dM_search_81 (by decide) ?_
        refine x_iload G dM_search_83 rfl ?_
        refine x_iload_n G 1 dM_search_85 rfl rfl ?_
        refine x_icmp_lt G 101 dM_search_86 (by decide) (fun h86 => ?_) (fun h86 => ?_)
        · rw [nI_ltI (by omega) (by omega)] at h86
          refine x_iload G dM_search_101 rfl ?_
          refine x_istore_n G 1 dM_search_103 rfl (by decide) ?_
          refine x_iload G dM_search_104 rfl ?_
          refine x_istore_n G 2 dM_search_106 rfl (by decide) ?_
          refine x_iconst G (0) dM_search_107 (by decide) ?_
          refine x_istore G dM_search_108 (by decide) ?_
          exact copy _ _ hkey (by omega) hej hsp n 0 (by omega) σ3 _ _ hO3 hTR3.1 (fun b hb => by omega)
        · rw [nI_ltI (by omega) (by omega)] at h86
          refine x_iload G dM_search_89 rfl ?_
          refine x_iload_n G 1 dM_search_91 rfl rfl ?_
          refine x_icmp_ne G 139 dM_search_92 (by decide) (fun h92 => ?_) (fun h92 => ?_)
          · rw [nI_eq (by omega) (by omega)] at h92
            exact tail σ3 acc _ _ z6 (hA.of (h37.trans h27)) hO3 hTR3.1 (bstM_f hkey (by omega) (by omega))
          · rw [nI_eq (by omega) (by omega)] at h92
            refine x_iload G dM_search_95 rfl ?_
            refine x_iload_n G 2 dM_search_97 rfl rfl ?_
            refine x_icmp_ge G 139 dM_search_98 (by decide) (fun h98 => ?_) (fun h98 => ?_)
            · rw [nI_leI (by omega) (by omega)] at h98
              exact tail σ3 acc _ _ z6 (hA.of (h37.trans h27)) hO3 hTR3.1 (bstM_f hkey (by omega) (by omega))
            · rw [nI_leI (by omega) (by omega)] at h98
              refine x_iload G dM_search_101 rfl ?_
              refine x_istore_n G 1 dM_search_103 rfl (by decide) ?_
              refine x_iload G dM_search_104 rfl ?_
              refine x_istore_n G 2 dM_search_106 rfl (by decide) ?_
              refine x_iconst G (0) dM_search_107 (by decide) ?_
              refine x_istore G dM_search_108 (by decide) ?_
              exact copy _ _ hkey (by omega) hej hsp n 0 (by omega) σ3 _ _ hO3 hTR3.1 (fun b hb => by omega)
  have zero : ∀ (i k : Nat), k + i = n → ∀ (σ1 : xSg), SL σ σ1 → (∀ b, b < k → σ1 6 b = aI (sprB (bzF hh ww) (zrL (cntB (bzF hh ww) n)) b)) → xJ pp l ee { frames := 3, cells := 0, slots := 0, locals := 40 * 3 } ss mm aa bb me cde 0 0 (MQ bb (va_Qi (fun r u => SB u n C g s hh ww mo mi ou r ∧ SU σ u) (fun u t => va_P D vCl (wM ad cI cZ cJ u) t.heap ∧ va_D AA (wM ad cI cZ cJ u)) AA) aa ss 0 0 AA) D vCl AA 7 (va_S AA ss.heap) (wM ad cI cZ cJ σ1) [.ref (ad 0), .int (nI k), .null, .null, .null, .null, .null] 2 [] := by
    intro i
    induction i with
    | zero =>
      intro k hk σ1 hO h6
      have hk : k = n := by omega
      subst hk
      have e0 : σ1 0 = σ 0 := hO 0 (by omega)
      refine x_iload_n G 1 dM_search_2 rfl rfl ?_
      refine x_aload_n G 0 dM_search_3 rfl rfl ?_
      refine x_get G 0 rfl rfl 3 (by decide) rfl (fun w h => .tail _ (iM_ok w h)) (.tail _ wd_598) rfl dM_search_4 ?_
      refine x_icmp_ge G 35 dM_search_7 (by decide) (fun h7 => ?_) (fun h7 => (by rw [e0, hn] at h7; exact absurd (nI_le (Nat.le_refl _) (by omega)) h7))
      refine x_ldc G 1000000000 dM_search_35 (by decide +kernel) ?_
      refine x_istore_n G 1 dM_search_37 rfl (by decide) ?_
      refine x_ldc G 1000000000 dM_search_38 (by decide +kernel) ?_
      refine x_istore_n G 2 dM_search_40 rfl (by decide) ?_
      refine x_iconst G (1) dM_search_41 (by decide) ?_
      refine x_istore_n G 3 dM_search_42 rfl (by decide) ?_
      exact loop 165 σ1 (zrL (cntB (bzF hh ww) k)) none .null .null .null (by simp [zrL]) (fun i hi => by rw [gDn_zr]; omega) h6 (end_of hC1 hC4 (Nat.le_trans (cntB_le k) hn8)) rfl (fun ys f st he => by cases he) hO
    | succ i ih =>
      intro k hk σ1 hO h6
      have e0 : σ1 0 = σ 0 := hO 0 (by omega)
      have e12 : σ1 1 k + σ1 2 k = nI (mvF hh ww k) := by rw [hO 1 (by omega), hO 2 (by omega), (hbw k (by omega)).1, (hbw k (by omega)).2, nI_add]; rfl
      have hmv := hP.mv k
      refine x_iload_n G 1 dM_search_2 rfl rfl ?_
      refine x_aload_n G 0 dM_search_3 rfl rfl ?_
      refine x_get G 0 rfl rfl 3 (by decide) rfl (fun w h => .tail _ (iM_ok w h)) (.tail _ wd_598) rfl dM_search_4 ?_
      refine x_icmp_ge G 35 dM_search_7 (by decide) (fun h7 => (by rw [e0, hn] at h7; exact absurd h7 (nI_ge (by omega) (by omega)))) (fun h7 => ?_)
      refine x_aload_n G 0 dM_search_10 rfl rfl ?_
      refine x_get G 0 rfl rfl 11 (by decide) rfl (fun w h => .tail _ (iM_ok w h)) (.tail _ wd_606) rfl dM_search_11 ?_
      refine x_iload_n G 1 dM_search_14 rfl rfl ?_
      refine x_aload_n G 0 dM_search_15 rfl rfl ?_
      refine x_iload_n G 1 dM_search_16 rfl rfl ?_
      refine x_call0V1i G (cM_all (by omega)) 0 rfl rfl (cV G.2.2.2.2.1 wd_679 wd_681 wd_37 wd_55 wd_682 (by decide +kernel) ⟨(Nat.le_of_ble_eq_true rfl), (Nat.le_of_ble_eq_true rfl)⟩) dM_search_17 (Nat.le_of_ble_eq_true rfl) ⟨Nat.zero_le _, Nat.zero_le _⟩ (fun r17 e17 => ?_)
      subst e17
      refine x_if_le G 27 dM_search_20 (by decide) (fun h20 => ?_) (fun h20 => ?_)
      · rw [e12, show (0 : Int32) = nI 0 from rfl, nI_leI (by omega) (by omega)] at h20
        have hz : ¬ bzF hh ww k = true := fun q => by have q : 0 < mvF hh ww k := of_decide_eq_true q; omega
        refine x_iconst G (-1) dM_search_27 (by decide) ?_
        refine x_iastN G 6 0 rfl rfl marr_6 (by omega) (by decide) dM_search_28 ?_
        refine x_iinc G (nI (k + 1)) dM_search_29 rfl (nI_1 k) (by decide) ?_
        refine x_goto G 2 dM_search_32 (by decide) ?_
        exact ih (k + 1) (by omega) _ (hO.tr (fun q hq => sst_ne (by omega))) (fun b hb => by rcases (show b < k ∨ b = k by omega) with z | z; (· rw [sst_i (by omega)]; exact h6 b z); (· rw [z, sst_same, spr_zr]; rw [if_neg hz]; rfl))
      · rw [e12, show (0 : Int32) = nI 0 from rfl, nI_leI (by omega) (by omega)] at h20
        have hz : bzF hh ww k = true := decide_eq_true (by omega)
        refine x_iconst G (0) dM_search_23 (by decide) ?_
        refine x_goto G 28 dM_search_24 (by decide) ?_
        refine x_iastN G 6 0 rfl rfl marr_6 (by omega) (by decide) dM_search_28 ?_
        refine x_iinc G (nI (k + 1)) dM_search_29 rfl (nI_1 k) (by decide) ?_
        refine x_goto G 2 dM_search_32 (by decide) ?_
        exact ih (k + 1) (by omega) _ (hO.tr (fun q hq => sst_ne (by omega))) (fun b hb => by rcases (show b < k ∨ b = k by omega) with z | z; (· rw [sst_i (by omega)]; exact h6 b z); (· rw [z, sst_same, spr_zr]; rw [if_pos hz]; rfl))
  refine x_iconst G (0) dM_search_0 (by decide) ?_
  refine x_istore_n G 1 dM_search_1 rfl (by decide) ?_
  exact zero n 0 (by omega) σ (fun _ _ => rfl) (fun b hb => by omega)
set_option maxHeartbeats 4000000 in
set_option maxRecDepth 100000 in
theorem cM_plan {l : Launch} {D : va_G} {cI cZ cJ : ClassId} {ad : Nat → Nat} {σ : xSg} {n C g s : Nat} {hh ww mo mi : Nat → Nat} {ou : Nat → Bool} (hP : PM σ n C g s hh ww mo mi ou) : xCi l D vCl (tyC cI cZ cJ) nwW (wM ad cI cZ cJ) yM_plan (.code yM_plan bM_plan 1 (some .int) :: bigW) 4 [.ref (ad 0)] σ (fun r u => SB u n C g s hh ww mo mi ou r ∧ SU (sst σ 0 0 0) u) := by
  refine xCi.of (cc := bM_plan) (nL := 1) (ret := (some .int)) rfl (by decide) [.ref (ad 0)] rfl (Nat.le_of_ble_eq_true rfl) ?_
  intro pp ee ss mm aa bb me cde AA G hr hlk
  refine x_aload_n G 0 dM_plan_0 rfl rfl ?_
  refine x_iconst G (0) dM_plan_1 (by decide) ?_
  refine x_put G 0 rfl rfl 0 (by decide) (Nat.le_of_ble_eq_true rfl) mput_0_0 (fun w h => .tail _ (iM_ok w h)) tM_ok nM_ok (.tail _ wd_595) rfl rfl (tM_ok 0 (by decide)) rfl rfl dM_plan_2 ?_
  refine x_aload_n G 0 dM_plan_5 rfl rfl ?_
  refine x_callV0i G (cM_search (hP.of ⟨sst_i (by omega), sst_i (by omega), sst_i (by omega), sst_i (by omega)⟩ (sst_ne (by omega)) (sst_ne (by omega)) (sst_ne (by omega)) (sst_ne (by omega)) (sst_ne (by omega)))) 0 rfl rfl (cV G.2.2.2.2.1 wd_675 wd_677 wd_36 wd_55 wd_678 (by decide +kernel) ⟨(Nat.le_of_ble_eq_true rfl), (Nat.le_of_ble_eq_true rfl)⟩) dM_plan_6 (Nat.le_of_ble_eq_true rfl) ⟨Nat.zero_le _, Nat.zero_le _⟩ (fun r6 u6 e6 => ?_)
  exact x_reti G hr hlk rfl dM_plan_9 e6
def LO (σ u : xSg) : Prop := ∀ q, q < 6 ∨ q = 7 → u q = σ q
set_option maxHeartbeats 4000000 in
set_option maxRecDepth 100000 in
theorem cM_lays {l : Launch} {D : va_G} {cI cZ cJ : ClassId} {ad : Nat → Nat} {σ : xSg} {n C g s : Nat} {hh ww mo mi : Nat → Nat} {ou : Nat → Bool} (hP : PM σ n C g s hh ww mo mi ou) {A : Nat → Nat} (hA : ∀ b, b < n → σ 7 b = aI (A b)) (hA1 : ∀ b, n ≤ b → ¬ A b < 4) (hA2 : ∀ b, A b < 4 → A b < C) (hok : (apA A 8 g 4).2 = true) : xCi l D vCl (tyC cI cZ cJ) nwW (wM ad cI cZ cJ) yM_lays (.code yM_lays bM_lays 2 (some .int) :: bigW) 3 [.ref (ad 0)] σ (fun r u => r = nI (EJ A (mvF hh ww) mo mi g s 0) ∧ TR u A n C ∧ FL u A C ∧ CM u A (mvF hh ww) mo mi g s C 0 ∧ LO σ u) := by
  refine xCi.of (cc := bM_lays) (nL := 2) (ret := (some .int)) rfl (by decide) [.ref (ad 0), .null] rfl (Nat.le_of_ble_eq_true rfl) ?_
  intro pp ee ss mm aa bb me cde AA G hr hlk
  obtain ⟨hn8, hC1, hC4, hg3, hs20, hn, hC, hg, hs, hbw, hrt, hbb, hb0, hbd⟩ := id hP
  have loop : ∀ (i k : Nat), k + i = n → ∀ (σ1 : xSg), LO σ σ1 → (∀ b, b < k → σ1 6 b = aI (A b)) → xJ pp l ee { frames := 3, cells := 0, slots := 0, locals := 40 * 3 } ss mm aa bb me cde 0 0 (MQ bb (va_Qi (fun r u => r = nI (EJ A (mvF hh ww) mo mi g s 0) ∧ TR u A n C ∧ FL u A C ∧ CM u A (mvF hh ww) mo mi g s C 0 ∧ LO σ u) (fun u t => va_P D vCl (wM ad cI cZ cJ u) t.heap ∧ va_D AA (wM ad cI cZ cJ u)) AA) aa ss 0 0 AA) D vCl AA 2 (va_S AA ss.heap) (wM ad cI cZ cJ σ1) [.ref (ad 0), .int (nI k)] 2 [] := by
    intro i
    induction i with
    | zero =>
      intro k hk σ1 hO h6
      have hk : k = n := by omega
      subst hk
      have e0 : σ1 0 = σ 0 := hO 0 (by omega)
      have hT1 : TR σ1 A k C := ⟨h6, hA1, hA2⟩
      have hP1 : PM σ1 k C g s hh ww mo mi ou := hP.of ⟨by rw [e0], by rw [e0], by rw [e0], by rw [e0]⟩ (hO 1 (by omega)) (hO 2 (by omega)) (hO 3 (by omega)) (hO 4 (by omega)) (hO 5 (by omega))
      refine x_iload_n G 1 dM_lays_2 rfl rfl ?_
      refine x_aload_n G 0 dM_lays_3 rfl rfl ?_
      refine x_get G 0 rfl rfl 3 (by decide) rfl (fun w h => .tail _ (iM_ok w h)) (.tail _ wd_598) rfl dM_lays_4 ?_
      refine x_icmp_ge G 28 dM_lays_7 (by decide) (fun h7 => ?_) (fun h7 => (by rw [e0, hn] at h7; exact absurd (nI_le (Nat.le_refl _) (by omega)) h7))
      refine x_aload_n G 0 dM_lays_28 rfl rfl ?_
      refine x_callV0i G (cM_spans hP1 hT1) 0 rfl rfl (cV G.2.2.2.2.1 wd_688 wd_690 wd_39 wd_55 wd_691 (by decide +kernel) ⟨(Nat.le_of_ble_eq_true rfl), (Nat.le_of_ble_eq_true rfl)⟩) dM_lays_29 (Nat.le_of_ble_eq_true rfl) ⟨Nat.zero_le _, Nat.zero_le _⟩ (fun r29 u29 e29 => ?_)
      obtain ⟨σ2, hz⟩ : ∃ z, z = u29 := ⟨_, rfl⟩
      subst hz
      obtain ⟨rfl, hF, hS2⟩ := e29
      have hT2 : TR σ2 A k C := ⟨fun b hb => by rw [hS2 6 (by omega) (by omega)]; exact h6 b hb, hA1, hA2⟩
      refine x_istore_n G 1 dM_lays_32 rfl (by decide) ?_
      refine x_iload_n G 1 dM_lays_33 rfl rfl ?_
      refine x_if_eq G 44 dM_lays_34 (by decide) (fun h34 => (by rw [bI_t hok] at h34; exact absurd h34 (by decide))) (fun h34 => ?_)
      refine x_aload_n G 0 dM_lays_37 rfl rfl ?_
      refine x_callV0i G (cM_times (hP1.of ⟨by rw [hS2 0 (by omega) (by omega)], by rw [hS2 0 (by omega) (by omega)], by rw [hS2 0 (by omega) (by omega)], by rw [hS2 0 (by omega) (by omega)]⟩ (hS2 1 (by omega) (by omega)) (hS2 2 (by omega) (by omega)) (hS2 3 (by omega) (by omega)) (hS2 4 (by omega) (by omega)) (hS2 5 (by omega) (by omega))) hT2 hF hok) 0 rfl rfl (cV G.2.2.2.2.1 wd_692 wd_694 wd_40 wd_55 wd_695 (by decide +kernel) ⟨(Nat.le_of_ble_eq_true rfl), (Nat.le_of_ble_eq_true rfl)⟩) dM_lays_38 (Nat.le_of_ble_eq_true rfl) ⟨Nat.zero_le _, Nat.zero_le _⟩ (fun r38 u38 e38 => ?_)
      obtain ⟨σ3, hz⟩ : ∃ z, z = u38 := ⟨_, rfl⟩
      subst hz
      obtain ⟨rfl, hCM, hE3⟩ := e38
      refine x_goto G 46 dM_lays_41 (by decide) ?_
      exact x_reti G hr hlk rfl dM_lays_46 ⟨rfl, ⟨fun b hb => by rw [hE3 6 (by omega)]; exact hT2.1 b hb, hA1, hA2⟩, fun c hc => by rw [hE3 9 (by omega), hE3 10 (by omega)]; exact hF c hc, hCM, fun q hq => by rw [hE3 q (by omega), hS2 q (by omega) (by omega)]; exact hO q hq⟩
    | succ i ih =>
      intro k hk σ1 hO h6
      have e0 : σ1 0 = σ 0 := hO 0 (by omega)
      refine x_iload_n G 1 dM_lays_2 rfl rfl ?_
      refine x_aload_n G 0 dM_lays_3 rfl rfl ?_
      refine x_get G 0 rfl rfl 3 (by decide) rfl (fun w h => .tail _ (iM_ok w h)) (.tail _ wd_598) rfl dM_lays_4 ?_
      refine x_icmp_ge G 28 dM_lays_7 (by decide) (fun h7 => (by rw [e0, hn] at h7; exact absurd h7 (nI_ge (by omega) (by omega)))) (fun h7 => ?_)
      refine x_aload_n G 0 dM_lays_10 rfl rfl ?_
      refine x_get G 0 rfl rfl 11 (by decide) rfl (fun w h => .tail _ (iM_ok w h)) (.tail _ wd_606) rfl dM_lays_11 ?_
      refine x_iload_n G 1 dM_lays_14 rfl rfl ?_
      refine x_aload_n G 0 dM_lays_15 rfl rfl ?_
      refine x_get G 0 rfl rfl 12 (by decide) rfl (fun w h => .tail _ (iM_ok w h)) (.tail _ wd_607) rfl dM_lays_16 ?_
      refine x_iload_n G 1 dM_lays_19 rfl rfl ?_
      refine x_ialdN G 7 0 rfl rfl (by omega) (by decide) dM_lays_20 ?_
      refine x_iastN G 6 0 rfl rfl marr_6 (by omega) (by decide) dM_lays_21 ?_
      refine x_iinc G (nI (k + 1)) dM_lays_22 rfl (nI_1 k) (by decide) ?_
      refine x_goto G 2 dM_lays_25 (by decide) ?_
      exact ih (k + 1) (by omega) (sst σ1 6 k (σ1 7 k)) (fun q hq => by rw [sst_ne (by omega)]; exact hO q hq) (fun b hb => by rcases (show b < k ∨ b = k by omega) with z | z; (· rw [sst_i (by omega)]; exact h6 b z); (· rw [z, sst_same, hO 7 (by omega)]; exact hA k (by omega)))
  refine x_iconst G (0) dM_lays_0 (by decide) ?_
  refine x_istore_n G 1 dM_lays_1 rfl (by decide) ?_
  exact loop n 0 (by omega) σ (fun _ _ => rfl) (fun b hb => by omega)
