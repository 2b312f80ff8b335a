/-! THE REFERENCE: times, goesOn, isAllowed, working -/
/-- the time when a crane may leave for bay b: its work before is done -/
def tbA (A mv mo mi : Nat → Nat) (g s c : Nat) : Nat → Nat
  | 0 => 0
  | b + 1 => cmA A mv mo mi 8 g s c b + duA A mv mo mi c b
/-- the times of the cranes from j on stand -/
def CM (σ : xSg) (A mv mo mi : Nat → Nat) (g s C j : Nat) : Prop := ∀ c f x, j ≤ c → c < C → fstA A c 8 = some f → lstA A c 8 = some x → ∀ b, b ≤ x → σ 8 (8 * c + b) = nI (cmA A mv mo mi 8 g s c b)
def EO (σ u : xSg) : Prop := ∀ q, q ≠ 8 → u q = σ q
theorem EO.tr {σ u v : xSg} (h1 : EO σ u) (h2 : EO u v) : EO σ v := fun q a => (h2 q a).trans (h1 q a)
def EN (A mv mo mi : Nat → Nat) (g s c k : Nat) : Nat := fiG (fun b => decide ((c + 1 ≤ A b ∧ A b < 4) ∨ (A b = c ∧ b < k))) (enA A mv mo mi g s) 8
def EJ (A mv mo mi : Nat → Nat) (g s j : Nat) : Nat := fiG (fun b => decide (j ≤ A b ∧ A b < 4)) (enA A mv mo mi g s) 8
theorem EN_0 {A mv mo mi : Nat → Nat} {g s c : Nat} : EN A mv mo mi g s c 0 = EJ A mv mo mi g s (c + 1) := by
  unfold EN EJ
  refine fiG_congr (fun b _ => ?_) (fun _ _ _ => rfl)
  simp
theorem EN_end {A mv mo mi : Nat → Nat} {g s c x : Nat} (hc : c < 4) (hl : lstA A c 8 = some x) : EN A mv mo mi g s c (x + 1) = EJ A mv mo mi g s c := by
  obtain ⟨-, -, q3⟩ := lstA_some hl
  unfold EN EJ
  refine fiG_congr (fun b hb => ?_) (fun _ _ _ => rfl)
  refine decide_eq_decide.mpr ?_
  constructor
  · rintro (q | q) <;> omega
  · intro q
    rcases (show c + 1 ≤ A b ∨ A b = c by omega) with z | z
    · exact Or.inl ⟨z, q.2⟩
    · refine Or.inr ⟨z, ?_⟩
      rcases Nat.lt_or_ge x b with y | y
      · exact absurd z (q3 b y hb)
      · omega
theorem EJ_skip {A mv mo mi : Nat → Nat} {g s c : Nat} (hf : fstA A c 8 = none) : EJ A mv mo mi g s (c + 1) = EJ A mv mo mi g s c := by
  have no := fstA_none.mp hf
  unfold EJ
  refine fiG_congr (fun b hb => ?_) (fun _ _ _ => rfl)
  have := no b hb
  exact decide_eq_decide.mpr (by omega)
theorem EN_no {A mv mo mi : Nat → Nat} {g s c k : Nat} (h : A k ≠ c) : EN A mv mo mi g s c (k + 1) = EN A mv mo mi g s c k := by
  unfold EN
  refine fiG_congr (fun b hb => ?_) (fun _ _ _ => rfl)
  refine decide_eq_decide.mpr ?_
  constructor
  · rintro (q | ⟨q1, q2⟩)
    · exact Or.inl q
    · refine Or.inr ⟨q1, ?_⟩
      rcases (show b < k ∨ b = k by omega) with z | z
      · exact z
      · rw [z] at q1; exact absurd q1 h
  · rintro (q | q)
    · exact Or.inl q
    · exact Or.inr ⟨q.1, by omega⟩
theorem EN_yes {A mv mo mi : Nat → Nat} {g s c k : Nat} (h : A k = c) (hk : k < 8) : EN A mv mo mi g s c (k + 1) = max (EN A mv mo mi g s c k) (enA A mv mo mi g s k) := by
  have e : EN A mv mo mi g s c (k + 1) = fiG (fun b => decide ((c + 1 ≤ A b ∧ A b < 4) ∨ (A b = c ∧ b < k)) || b == k) (enA A mv mo mi g s) 8 := by
    unfold EN
    refine fiG_congr (fun b hb => ?_) (fun _ _ _ => rfl)
    by_cases e : b = k
    · subst e; simp [h]
    · have e2 : (b < k + 1) = (b < k) := by apply propext; omega
      simp [e, e2]
  rw [e, fiG_add, if_pos hk]; rfl
theorem EJ_top {A mv mo mi : Nat → Nat} {g s C : Nat} (h : ∀ b, A b < 4 → A b < C) : EJ A mv mo mi g s C = 0 := by
  have e : ∀ k, fiG (fun b => decide (C ≤ A b ∧ A b < 4)) (enA A mv mo mi g s) k = 0 := by
    intro k
    induction k with
    | zero => rfl
    | succ k ih =>
      unfold fiG
      rw [if_neg (fun q => by have q : C ≤ A k ∧ A k < 4 := of_decide_eq_true q; have := h k q.2; omega), ih]
  exact e 8
theorem nx_top {A : Nat → Nat} {C : Nat} (hC : C ≤ 4) (h : ∀ c, C ≤ c → c < 4 → fstA A c 8 = none) : nxA A (4 - C) = none := by
  cases hn : nxA A (4 - C) with
  | none => rfl
  | some d =>
    obtain ⟨h1, h2, ⟨f, h3⟩, -⟩ := nxA_some (by omega) hn
    rw [h d (by omega) h2] at h3; cases h3
theorem cm_tb {A mv mo mi : Nat → Nat} {g s c f b : Nat} (hf : fstA A c 8 = some f) (h : ¬ b ≤ f) : cmA A mv mo mi 8 g s c b = max (tbA A mv mo mi g s c b) (wtA A mv mo mi 8 g s (3 - c) (b + 1 + g)) + s := by
  obtain ⟨k, rfl⟩ : ∃ k, b = k + 1 := ⟨b - 1, by omega⟩
  unfold tbA cmA
  rw [hf, show k + 1 + 1 + g = k + 2 + g by omega]
  exact tim_up (show f ≤ k by omega)
theorem cm_low {A mv mo mi : Nat → Nat} {g s c f b : Nat} (hf : fstA A c 8 = some f) (h : b ≤ f) : cmA A mv mo mi 8 g s c b = 0 := by
  unfold cmA; rw [hf]; exact tim_low h
theorem tb_low {A mv mo mi : Nat → Nat} {g s c f b : Nat} (hf : fstA A c 8 = some f) (h : b ≤ f) : tbA A mv mo mi g s c b = 0 := by
  cases b with
  | zero => rfl
  | succ k =>
    obtain ⟨-, -, q3⟩ := fstA_some hf
    have := q3 k (by omega)
    show cmA A mv mo mi 8 g s c k + duA A mv mo mi c k = 0
    rw [cm_low hf (by omega)]
    simp [duA, this]
set_option maxHeartbeats 4000000 in
set_option maxRecDepth 100000 in
theorem cM_times {l : Launch} {D : va_G} {cI cZ cJ : ClassId} {ad : Nat → Nat} {σ : xSg} {n C g s : Nat} {hh ww mo mi : Nat → Nat} {ou : Nat → Bool} (hP : PM σ n C g s hh ww mo mi ou) {A : Nat → Nat} (hT : TR σ A n C) (hF : FL σ A C) (hok : (apA A 8 g 4).2 = true) : xCi l D vCl (tyC cI cZ cJ) nwW (wM ad cI cZ cJ) yM_times (.code yM_times bM_times 7 (some .int) :: bigW) 2 [.ref (ad 0)] σ (fun r u => r = nI (EJ A (mvF hh ww) mo mi g s 0) ∧ CM u A (mvF hh ww) mo mi g s C 0 ∧ EO σ u) := by
  refine xCi.of (cc := bM_times) (nL := 7) (ret := (some .int)) rfl (by decide) [.ref (ad 0), .null, .null, .null, .null, .null, .null] rfl (Nat.le_of_ble_eq_true rfl) ?_
  intro pp ee ss mm aa bb me cde AA G hr hlk
  obtain ⟨hn8, hC1, hC4, hg3, hs20, hn, hC, hg, hs, hbw, hrt, hbb, hb0, hbd⟩ := id hP
  have hmv := hP.mv
  have hcmle : ∀ d b, d < 4 → b < 8 → cmA A (mvF hh ww) mo mi 8 g s d b ≤ 675540 := fun d b q1 q2 => cmA_le hmv (fun c _ => (hbd c).2.2.2) (fun c _ => (hbd c).1) hg3 hs20 q1 q2
  have htkle : ∀ d b, tkA (mvF hh ww) mo mi d b ≤ 25000 := fun d b => tkA_le (hmv b) (hbd d).2.2.2 (hbd d).1
  have henle : ∀ b, b < 8 → A b < 4 → enA A (mvF hh ww) mo mi g s b ≤ 700540 := fun b q1 q2 => by have := hcmle (A b) b q2 q1; have := htkle (A b) b; unfold enA; omega
  have hENle : ∀ c k, c < 4 → EN A (mvF hh ww) mo mi g s c k ≤ 700540 := fun c k hc => fiG_le (fun b hb hp => henle b hb (by have hp := of_decide_eq_true hp; omega))
  have loop : ∀ (j : Nat), j ≤ C → ∀ (z4 z5 z6 : Value) (σ1 : xSg), CM σ1 A (mvF hh ww) mo mi g s C j → EO σ σ1 → xJ pp l ee { frames := 2, cells := 0, slots := 0, locals := 40 * 2 } ss mm aa bb me cde 0 0 (MQ bb (va_Qi (fun r u => r = nI (EJ A (mvF hh ww) mo mi g s 0) ∧ CM u A (mvF hh ww) mo mi g s C 0 ∧ EO σ u) (fun u t => va_P D vCl (wM ad cI cZ cJ u) t.heap ∧ va_D AA (wM ad cI cZ cJ u)) AA) aa ss 0 0 AA) D vCl AA 7 (va_S AA ss.heap) (wM ad cI cZ cJ σ1) [.ref (ad 0), .int (nI (EJ A (mvF hh ww) mo mi g s j)), .int (oI (nxA A (4 - j))), .int (mIJ j), z4, z5, z6] 11 [] := by
    intro j
    induction j with
    | zero =>
      intro hj z4 z5 z6 σ1 hM hO
      refine x_iload_n G 3 dM_times_11 rfl rfl ?_
      refine x_if_lt G 189 dM_times_12 (by decide) (fun h12 => ?_) (fun h12 => (by exact absurd (by decide) h12))
      refine x_iload_n G 1 dM_times_189 rfl rfl ?_
      exact x_reti G hr hlk rfl dM_times_190 ⟨rfl, hM, hO⟩
    | succ j ih =>
      intro hj z4 z5 z6 σ1 hM hO
      have hj4 : j < 4 := by omega
      obtain ⟨hf, hl⟩ := hF j (by omega)
      have e9 : σ1 9 = σ 9 := hO 9 (by omega)
      have e34 : 3 - (3 - j) = j := by omega
      have e43 : 4 - j = 3 - j + 1 := by omega
      refine x_eq rfl (vs2 := [.ref (ad 0), .int (nI (EJ A (mvF hh ww) mo mi g s (j + 1))), .int (oI (nxA A (3 - j))), .int (nI j), z4, z5, z6]) (by rw [mIJ_s, show 4 - (j + 1) = 3 - j by omega]) rfl rfl ?_
      refine x_iload_n G 3 dM_times_11 rfl rfl ?_
      refine x_if_lt G 189 dM_times_12 (by decide) (fun h12 => (by exact absurd h12 (nI_pos (by omega)))) (fun h12 => ?_)
      refine x_aload_n G 0 dM_times_15 rfl rfl ?_
      refine x_get G 0 rfl rfl 14 (by decide) rfl (fun w h => .tail _ (iM_ok w h)) (.tail _ wd_609) rfl dM_times_16 ?_
      refine x_iload_n G 3 dM_times_19 rfl rfl ?_
      refine x_ialdN G 9 0 rfl rfl (by omega) (by decide) dM_times_20 ?_
      refine x_if_ge G 27 dM_times_21 (by decide) (fun h21 => ?_) (fun h21 => ?_)
      · obtain ⟨f, hfj⟩ : ∃ f, fstA A j 8 = some f := by
          cases hq : fstA A j 8 with
          | none => rw [e9, hf, hq] at h21; exact absurd h21 (by decide)
          | some f => exact ⟨f, rfl⟩
        obtain ⟨x, hlj, hfx, hx8, hAx⟩ := lst_of_fst hfj
        have hlx := hl x hlj
        have hff := hf
        rw [hfj] at hff
        have hff : σ 9 j = nI f := hff
        have hxn : x < n := by rcases Nat.lt_or_ge x n with z | z; (· exact z); (· exact absurd (by rw [hAx]; exact hj4) (hT.2.1 x z))
        have inner : ∀ (i b : Nat), b + i = x + 1 → ∀ (z6 : Value) (σ1 : xSg), CM σ1 A (mvF hh ww) mo mi g s C (j + 1) → (∀ b', b' < b → σ1 8 (8 * j + b') = nI (cmA A (mvF hh ww) mo mi 8 g s j b')) → EO σ σ1 → xJ pp l ee { frames := 2, cells := 0, slots := 0, locals := 40 * 2 } ss mm aa bb me cde 0 0 (MQ bb (va_Qi (fun r u => r = nI (EJ A (mvF hh ww) mo mi g s 0) ∧ CM u A (mvF hh ww) mo mi g s C 0 ∧ EO σ u) (fun u t => va_P D vCl (wM ad cI cZ cJ u) t.heap ∧ va_D AA (wM ad cI cZ cJ u)) AA) aa ss 0 0 AA) D vCl AA 7 (va_S AA ss.heap) (wM ad cI cZ cJ σ1) [.ref (ad 0), .int (nI (EN A (mvF hh ww) mo mi g s j b)), .int (oI (nxA A (3 - j))), .int (nI j), .int (nI (tbA A (mvF hh ww) mo mi g s j b)), .int (nI b), z6] 33 [] := by
          intro i
          induction i with
          | zero =>
            intro b hb z6 σ1 hM hR hO
            have hb : b = x + 1 := by omega
            subst hb
            have e10 : σ1 10 = σ 10 := hO 10 (by omega)
            refine x_iload G dM_times_33 rfl ?_
            refine x_aload_n G 0 dM_times_35 rfl rfl ?_
            refine x_get G 0 rfl rfl 15 (by decide) rfl (fun w h => .tail _ (iM_ok w h)) (.tail _ wd_610) rfl dM_times_36 ?_
            refine x_iload_n G 3 dM_times_39 rfl rfl ?_
            refine x_ialdN G 10 0 rfl rfl (by omega) (by decide) dM_times_40 ?_
            refine x_icmp_gt G 181 dM_times_41 (by decide) (fun h41 => ?_) (fun h41 => (by rw [e10, hlx] at h41; exact absurd (nI_lt (by omega) (by omega)) h41))
            refine x_iload_n G 3 dM_times_181 rfl rfl ?_
            refine x_istore_n G 2 dM_times_182 rfl (by decide) ?_
            refine x_iinc G (mIJ j) dM_times_183 rfl (mIJ_next (by omega)) (by decide) ?_
            refine x_goto G 11 dM_times_186 (by decide) ?_
            refine x_eq rfl ?_ rfl rfl (ih (by omega) (.int (nI (tbA A (mvF hh ww) mo mi g s j (x + 1)))) (.int (nI (x + 1))) z6 σ1 (fun c f' x' h1 h2 h3 h4 b h5 => ?_) hO)
            · rw [EN_end hj4 hlj, e43, nxA_here (j := 3 - j) (by rw [e34]; exact hfj), e34]; rfl
            · rcases (show j + 1 ≤ c ∨ c = j by omega) with z | z
              · exact hM c f' x' z h2 h3 h4 b h5
              · subst z; rw [hlj] at h4; cases h4; exact hR b (by omega)
          | succ i ihi =>
            intro b hb z6 σ1 hM hR hO
            have hb8 : b < 8 := by omega
            have e10 : σ1 10 = σ 10 := hO 10 (by omega)
            have e9 : σ1 9 = σ 9 := hO 9 (by omega)
            have hcb := hcmle j b hj4 hb8
            have tail : ∀ (z6 : Value) (σ1 : xSg), CM σ1 A (mvF hh ww) mo mi g s C (j + 1) → (∀ b', b' < b + 1 → σ1 8 (8 * j + b') = nI (cmA A (mvF hh ww) mo mi 8 g s j b')) → EO σ σ1 → xJ pp l ee { frames := 2, cells := 0, slots := 0, locals := 40 * 2 } ss mm aa bb me cde 0 0 (MQ bb (va_Qi (fun r u => r = nI (EJ A (mvF hh ww) mo mi g s 0) ∧ CM u A (mvF hh ww) mo mi g s C 0 ∧ EO σ u) (fun u t => va_P D vCl (wM ad cI cZ cJ u) t.heap ∧ va_D AA (wM ad cI cZ cJ u)) AA) aa ss 0 0 AA) D vCl AA 7 (va_S AA ss.heap) (wM ad cI cZ cJ σ1) [.ref (ad 0), .int (nI (EN A (mvF hh ww) mo mi g s j b)), .int (oI (nxA A (3 - j))), .int (nI j), .int (nI (cmA A (mvF hh ww) mo mi 8 g s j b)), .int (nI b), z6] 139 [] := by
              intro z6 σ1 hM hR hO
              have e6 : σ1 6 b = aI (A b) := by rw [hO 6 (by omega)]; exact hT.1 b (by omega)
              have hEb := hENle j b hj4
              refine x_aload_n G 0 dM_times_139 rfl rfl ?_
              refine x_get G 0 rfl rfl 11 (by decide) rfl (fun w h => .tail _ (iM_ok w h)) (.tail _ wd_606) rfl dM_times_140 ?_
              refine x_iload G dM_times_143 rfl ?_
              refine x_ialdN G 6 0 rfl rfl (by omega) (by decide) dM_times_145 ?_
              refine x_iload_n G 3 dM_times_146 rfl rfl ?_
              refine x_icmp_ne G 175 dM_times_147 (by decide) (fun h147 => ?_) (fun h147 => ?_)
              · have h147 : A b ≠ j := fun q => h147 (by rw [e6]; exact (aI_eq hj4).mpr q)
                have et : tbA A (mvF hh ww) mo mi g s j (b + 1) = cmA A (mvF hh ww) mo mi 8 g s j b := by simp [tbA, duA, h147]
                have en : EN A (mvF hh ww) mo mi g s j (b + 1) = EN A (mvF hh ww) mo mi g s j b := EN_no h147
                refine x_iinc G (nI (b + 1)) dM_times_175 rfl (nI_1 b) (by decide) ?_
                refine x_goto G 33 dM_times_178 (by decide) ?_
                exact x_eq rfl (by rw [en, et]; rfl) rfl rfl (ihi (b + 1) (by omega) z6 σ1 hM hR hO)
              · have h147 : A b = j := (aI_eq hj4).mp (by rw [← e6]; exact h147)
                have et : tbA A (mvF hh ww) mo mi g s j (b + 1) = cmA A (mvF hh ww) mo mi 8 g s j b + tkA (mvF hh ww) mo mi j b := by simp [tbA, duA, h147]
                have hen : enA A (mvF hh ww) mo mi g s b = cmA A (mvF hh ww) mo mi 8 g s j b + tkA (mvF hh ww) mo mi j b := by unfold enA; rw [h147]
                have en : EN A (mvF hh ww) mo mi g s j (b + 1) = max (EN A (mvF hh ww) mo mi g s j b) (cmA A (mvF hh ww) mo mi 8 g s j b + tkA (mvF hh ww) mo mi j b) := by rw [EN_yes h147 hb8, hen]
                have htk := htkle j b
                refine x_iload G dM_times_150 rfl ?_
                refine x_aload_n G 0 dM_times_152 rfl rfl ?_
                refine x_iload_n G 3 dM_times_153 rfl rfl ?_
                refine x_iload G dM_times_154 rfl ?_
                refine x_call0V2i G (cM_takes (hP.of ⟨by rw [hO 0 (by omega)], by rw [hO 0 (by omega)], by rw [hO 0 (by omega)], by rw [hO 0 (by omega)]⟩ (hO 1 (by omega)) (hO 2 (by omega)) (hO 3 (by omega)) (hO 4 (by omega)) (hO 5 (by omega))) hj4 (show b < n by omega)) 0 rfl rfl (cV G.2.2.2.2.1 wd_696 wd_698 wd_41 wd_55 wd_699 (by decide +kernel) ⟨(Nat.le_of_ble_eq_true rfl), (Nat.le_of_ble_eq_true rfl)⟩) dM_times_156 (Nat.le_of_ble_eq_true rfl) ⟨Nat.zero_le _, Nat.zero_le _⟩ (fun r156 e156 => ?_)
                subst e156
                refine x_iadd G dM_times_159 ?_
                refine x_top (nI_add _ _) ?_
                refine x_istore G dM_times_160 (by decide) ?_
                refine x_iload G dM_times_162 rfl ?_
                refine x_iload_n G 1 dM_times_164 rfl rfl ?_
                refine x_icmp_le G 173 dM_times_165 (by decide) (fun h165 => ?_) (fun h165 => ?_)
                · rw [nI_leI (by omega) (by omega)] at h165
                  rw [Nat.max_eq_left (by omega)] at en
                  refine x_iload_n G 1 dM_times_173 rfl rfl ?_
                  refine x_istore_n G 1 dM_times_174 rfl (by decide) ?_
                  refine x_iinc G (nI (b + 1)) dM_times_175 rfl (nI_1 b) (by decide) ?_
                  refine x_goto G 33 dM_times_178 (by decide) ?_
                  exact x_eq rfl (by rw [en, et]; rfl) rfl rfl (ihi (b + 1) (by omega) z6 σ1 hM hR hO)
                · rw [nI_leI (by omega) (by omega)] at h165
                  rw [Nat.max_eq_right (by omega)] at en
                  refine x_iload G dM_times_168 rfl ?_
                  refine x_goto G 174 dM_times_170 (by decide) ?_
                  refine x_istore_n G 1 dM_times_174 rfl (by decide) ?_
                  refine x_iinc G (nI (b + 1)) dM_times_175 rfl (nI_1 b) (by decide) ?_
                  refine x_goto G 33 dM_times_178 (by decide) ?_
                  exact x_eq rfl (by rw [en, et]; rfl) rfl rfl (ihi (b + 1) (by omega) z6 σ1 hM hR hO)
            have j98 : ∀ (σ1 : xSg), CM σ1 A (mvF hh ww) mo mi g s C (j + 1) → (∀ b', b' < b → σ1 8 (8 * j + b') = nI (cmA A (mvF hh ww) mo mi 8 g s j b')) → EO σ σ1 → ¬ b ≤ f → xJ pp l ee { frames := 2, cells := 0, slots := 0, locals := 40 * 2 } ss mm aa bb me cde 0 0 (MQ bb (va_Qi (fun r u => r = nI (EJ A (mvF hh ww) mo mi g s 0) ∧ CM u A (mvF hh ww) mo mi g s C 0 ∧ EO σ u) (fun u t => va_P D vCl (wM ad cI cZ cJ u) t.heap ∧ va_D AA (wM ad cI cZ cJ u)) AA) aa ss 0 0 AA) D vCl AA 7 (va_S AA ss.heap) (wM ad cI cZ cJ σ1) [.ref (ad 0), .int (nI (EN A (mvF hh ww) mo mi g s j b)), .int (oI (nxA A (3 - j))), .int (nI j), .int (nI (tbA A (mvF hh ww) mo mi g s j b)), .int (nI b), z6] 98 [.int (nI (wtA A (mvF hh ww) mo mi 8 g s (3 - j) (b + 1 + g)))] := by
              intro σ1 hM hR hO hbf
              have ecm := cm_tb (mv := mvF hh ww) (mo := mo) (mi := mi) (g := g) (s := s) hfj hbf
              have e0 : σ1 0 = σ 0 := hO 0 (by omega)
              have hwl : wtA A (mvF hh ww) mo mi 8 g s (3 - j) (b + 1 + g) ≤ 675540 := by rw [ecm] at hcb; omega
              have htl : tbA A (mvF hh ww) mo mi g s j b ≤ 675540 := by rw [ecm] at hcb; omega
              refine x_istore G dM_times_98 (by decide) ?_
              refine x_iload G dM_times_100 rfl ?_
              refine x_iload G dM_times_102 rfl ?_
              refine x_icmp_le G 112 dM_times_104 (by decide) (fun h104 => ?_) (fun h104 => ?_)
              · rw [nI_leI (by omega) (by omega)] at h104
                rw [Nat.max_eq_left (by omega)] at ecm
                refine x_iload G dM_times_112 rfl ?_
                refine x_istore G dM_times_114 (by decide) ?_
                refine x_iload G dM_times_116 rfl ?_
                refine x_aload_n G 0 dM_times_118 rfl rfl ?_
                refine x_get G 0 rfl rfl 9 (by decide) rfl (fun w h => .tail _ (iM_ok w h)) (.tail _ wd_604) rfl dM_times_119 ?_
                refine x_iadd G dM_times_122 ?_
                refine x_top (z := nI (cmA A (mvF hh ww) mo mi 8 g s j b)) (by rw [e0, hs, ecm]; exact nI_add _ _) ?_
                refine x_istore G dM_times_123 (by decide) ?_
                refine x_aload_n G 0 dM_times_125 rfl rfl ?_
                refine x_get G 0 rfl rfl 13 (by decide) rfl (fun w h => .tail _ (iM_ok w h)) (.tail _ wd_608) rfl dM_times_126 ?_
                refine x_bipush G (8) dM_times_129 (by decide) ?_
                refine x_iload_n G 3 dM_times_131 rfl rfl ?_
                refine x_imul G dM_times_132 ?_
                refine x_iload G dM_times_133 rfl ?_
                refine x_iadd G dM_times_135 ?_
                refine x_top (z := nI (8 * j + b)) (by show nI 8 * nI j + nI b = _; rw [pk_mul, nI_add]) ?_
                refine x_iload G dM_times_136 rfl ?_
                refine x_iastN G 8 0 rfl rfl marr_8 (by omega) (by decide) dM_times_138 ?_
                exact tail (.int (nI (wtA A (mvF hh ww) mo mi 8 g s (3 - j) (b + 1 + g)))) _ (fun c f' x' h1 h2 h3 h4 b' h5 => by have := lst_lt h4; rw [sst_i (by omega)]; exact hM c f' x' h1 h2 h3 h4 b' h5) (fun b' h1 => by rcases (show b' < b ∨ b' = b by omega) with z | z; (· rw [sst_i (by omega)]; exact hR b' z); (· rw [z, sst_same])) (hO.tr (fun q a => sst_ne a))
              · rw [nI_leI (by omega) (by omega)] at h104
                rw [Nat.max_eq_right (by omega)] at ecm
                refine x_iload G dM_times_107 rfl ?_
                refine x_goto G 114 dM_times_109 (by decide) ?_
                refine x_istore G dM_times_114 (by decide) ?_
                refine x_iload G dM_times_116 rfl ?_
                refine x_aload_n G 0 dM_times_118 rfl rfl ?_
                refine x_get G 0 rfl rfl 9 (by decide) rfl (fun w h => .tail _ (iM_ok w h)) (.tail _ wd_604) rfl dM_times_119 ?_
                refine x_iadd G dM_times_122 ?_
                refine x_top (z := nI (cmA A (mvF hh ww) mo mi 8 g s j b)) (by rw [e0, hs, ecm]; exact nI_add _ _) ?_
                refine x_istore G dM_times_123 (by decide) ?_
                refine x_aload_n G 0 dM_times_125 rfl rfl ?_
                refine x_get G 0 rfl rfl 13 (by decide) rfl (fun w h => .tail _ (iM_ok w h)) (.tail _ wd_608) rfl dM_times_126 ?_
                refine x_bipush G (8) dM_times_129 (by decide) ?_
                refine x_iload_n G 3 dM_times_131 rfl rfl ?_
                refine x_imul G dM_times_132 ?_
                refine x_iload G dM_times_133 rfl ?_
                refine x_iadd G dM_times_135 ?_
                refine x_top (z := nI (8 * j + b)) (by show nI 8 * nI j + nI b = _; rw [pk_mul, nI_add]) ?_
                refine x_iload G dM_times_136 rfl ?_
                refine x_iastN G 8 0 rfl rfl marr_8 (by omega) (by decide) dM_times_138 ?_
                exact tail (.int (nI (wtA A (mvF hh ww) mo mi 8 g s (3 - j) (b + 1 + g)))) _ (fun c f' x' h1 h2 h3 h4 b' h5 => by have := lst_lt h4; rw [sst_i (by omega)]; exact hM c f' x' h1 h2 h3 h4 b' h5) (fun b' h1 => by rcases (show b' < b ∨ b' = b by omega) with z | z; (· rw [sst_i (by omega)]; exact hR b' z); (· rw [z, sst_same])) (hO.tr (fun q a => sst_ne a))
            refine x_iload G dM_times_33 rfl ?_
            refine x_aload_n G 0 dM_times_35 rfl rfl ?_
            refine x_get G 0 rfl rfl 15 (by decide) rfl (fun w h => .tail _ (iM_ok w h)) (.tail _ wd_610) rfl dM_times_36 ?_
            refine x_iload_n G 3 dM_times_39 rfl rfl ?_
            refine x_ialdN G 10 0 rfl rfl (by omega) (by decide) dM_times_40 ?_
            refine x_icmp_gt G 181 dM_times_41 (by decide) (fun h41 => (by rw [e10, hlx, nI_ltI (by omega) (by omega)] at h41; omega)) (fun h41 => ?_)
            refine x_iload G dM_times_44 rfl ?_
            refine x_aload_n G 0 dM_times_46 rfl rfl ?_
            refine x_get G 0 rfl rfl 14 (by decide) rfl (fun w h => .tail _ (iM_ok w h)) (.tail _ wd_609) rfl dM_times_47 ?_
            refine x_iload_n G 3 dM_times_50 rfl rfl ?_
            refine x_ialdN G 9 0 rfl rfl (by omega) (by decide) dM_times_51 ?_
            refine x_icmp_gt G 71 dM_times_52 (by decide) (fun h52 => ?_) (fun h52 => ?_)
            · have h52 : ¬ b ≤ f := by rw [e9, hff, nI_ltI (by omega) (by omega)] at h52; omega
              refine x_iload_n G 2 dM_times_71 rfl rfl ?_
              refine x_if_ge G 79 dM_times_72 (by decide) (fun h72 => ?_) (fun h72 => ?_)
              · obtain ⟨d, hd⟩ : ∃ d, nxA A (3 - j) = some d := by
                  cases hq : nxA A (3 - j) with
                  | none => rw [hq] at h72; exact absurd h72 (by decide)
                  | some d => exact ⟨d, rfl⟩
                obtain ⟨d1, d2, ⟨fd, d3⟩, d4⟩ := nxA_some (by omega) hd
                obtain ⟨ld, d5, d6, d7, d8⟩ := lst_of_fst d3
                have hap := apart_next hok hj4 hfj hd
                rw [hlj, d5] at hap
                have hap : x + g < ld := hap
                have hdC : d < C := by have := hT.2.2 ld (by rw [d8]; exact d2); rw [d8] at this; exact this
                have e0 : σ1 0 = σ 0 := hO 0 (by omega)
                refine x_eq rfl (vs2 := [.ref (ad 0), .int (nI (EN A (mvF hh ww) mo mi g s j b)), .int (nI d), .int (nI j), .int (nI (tbA A (mvF hh ww) mo mi g s j b)), .int (nI b), z6]) (by rw [hd]; rfl) rfl rfl ?_
                refine x_aload_n G 0 dM_times_79 rfl rfl ?_
                refine x_get G 0 rfl rfl 13 (by decide) rfl (fun w h => .tail _ (iM_ok w h)) (.tail _ wd_608) rfl dM_times_80 ?_
                refine x_bipush G (8) dM_times_83 (by decide) ?_
                refine x_iload_n G 2 dM_times_85 rfl rfl ?_
                refine x_imul G dM_times_86 ?_
                refine x_iload G dM_times_87 rfl ?_
                refine x_iadd G dM_times_89 ?_
                refine x_iconst G (1) dM_times_90 (by decide) ?_
                refine x_iadd G dM_times_91 ?_
                refine x_aload_n G 0 dM_times_92 rfl rfl ?_
                refine x_get G 0 rfl rfl 2 (by decide) rfl (fun w h => .tail _ (iM_ok w h)) (.tail _ wd_597) rfl dM_times_93 ?_
                refine x_iadd G dM_times_96 ?_
                refine x_top (z := nI (8 * d + b + 1 + g)) (by rw [e0, hg]; show nI 8 * nI d + nI b + nI 1 + nI g = _; rw [pk_mul, nI_add, nI_add, nI_add]) ?_
                refine x_ialdN G 8 0 rfl rfl (by omega) (by decide) dM_times_97 ?_
                first
                | exact x_eq rfl rfl rfl (by rw [wtA_none hd]; rfl) (j98 σ1 hM hR hO h52)
                | exact x_eq rfl (by rw [hd]; rfl) rfl (by rw [show 8 * d + b + 1 + g = 8 * d + (b + 1 + g) by omega, hM d fd ld (by omega) hdC d3 d5 _ (by omega), wtA_some (by omega) hd]) (j98 σ1 hM hR hO h52)
              · have hd : nxA A (3 - j) = none := by
                  cases hq : nxA A (3 - j) with
                  | none => rfl
                  | some d => have := (nxA_some (by omega) hq).2.1; rw [hq] at h72; exact absurd (nI_pos' (by omega)) h72
                refine x_iconst G (0) dM_times_75 (by decide) ?_
                refine x_goto G 98 dM_times_76 (by decide) ?_
                first
                | exact x_eq rfl rfl rfl (by rw [wtA_none hd]; rfl) (j98 σ1 hM hR hO h52)
                | exact x_eq rfl (by rw [hd]; rfl) rfl (by rw [show 8 * d + b + 1 + g = 8 * d + (b + 1 + g) by omega, hM d fd ld (by omega) hdC d3 d5 _ (by omega), wtA_some (by omega) hd]) (j98 σ1 hM hR hO h52)
            · have h52 : b ≤ f := by rw [e9, hff, nI_ltI (by omega) (by omega)] at h52; omega
              have c0 := cm_low (mv := mvF hh ww) (mo := mo) (mi := mi) (g := g) (s := s) hfj h52
              have t0 := tb_low (mv := mvF hh ww) (mo := mo) (mi := mi) (g := g) (s := s) hfj h52
              refine x_aload_n G 0 dM_times_55 rfl rfl ?_
              refine x_get G 0 rfl rfl 13 (by decide) rfl (fun w h => .tail _ (iM_ok w h)) (.tail _ wd_608) rfl dM_times_56 ?_
              refine x_bipush G (8) dM_times_59 (by decide) ?_
              refine x_iload_n G 3 dM_times_61 rfl rfl ?_
              refine x_imul G dM_times_62 ?_
              refine x_iload G dM_times_63 rfl ?_
              refine x_iadd G dM_times_65 ?_
              refine x_top (z := nI (8 * j + b)) (by show nI 8 * nI j + nI b = _; rw [pk_mul, nI_add]) ?_
              refine x_iconst G (0) dM_times_66 (by decide) ?_
              refine x_iastN G 8 0 rfl rfl marr_8 (by omega) (by decide) dM_times_67 ?_
              refine x_goto G 139 dM_times_68 (by decide) ?_
              exact x_eq rfl (by rw [t0, c0]) rfl rfl (tail z6 _ (fun c f' x' h1 h2 h3 h4 b' h5 => by have := lst_lt h4; rw [sst_i (by omega)]; exact hM c f' x' h1 h2 h3 h4 b' h5) (fun b' h1 => by rcases (show b' < b ∨ b' = b by omega) with z | z; (· rw [sst_i (by omega)]; exact hR b' z); (· rw [z, sst_same, c0]; rfl)) (hO.tr (fun q a => sst_ne a)))
        refine x_iconst G (0) dM_times_27 (by decide) ?_
        refine x_istore G dM_times_28 (by decide) ?_
        refine x_iconst G (0) dM_times_30 (by decide) ?_
        refine x_istore G dM_times_31 (by decide) ?_
        exact x_eq rfl (by rw [← EN_0]; rfl) rfl rfl (inner (x + 1) 0 (by omega) z6 σ1 hM (fun b' h => by omega) hO)
      · have hf0 : fstA A j 8 = none := by
          cases hq : fstA A j 8 with
          | none => rfl
          | some f => have := fst_lt hq; rw [e9, hf, hq] at h21; exact absurd (nI_pos' (by omega)) h21
        refine x_goto G 183 dM_times_24 (by decide) ?_
        refine x_iinc G (mIJ j) dM_times_183 rfl (mIJ_next (by omega)) (by decide) ?_
        refine x_goto G 11 dM_times_186 (by decide) ?_
        exact x_eq rfl (by rw [EJ_skip hf0, e43, nxA_none (j := 3 - j) (by rw [e34]; exact hf0)]; rfl) rfl rfl (ih (by omega) z4 z5 z6 σ1 (fun c f' x' h1 h2 h3 h4 b h5 => by rcases (show j + 1 ≤ c ∨ c = j by omega) with z | z; (· exact hM c f' x' z h2 h3 h4 b h5); (· subst z; rw [hf0] at h3; cases h3)) hO)
  refine x_iconst G (0) dM_times_0 (by decide) ?_
  refine x_istore_n G 1 dM_times_1 rfl (by decide) ?_
  refine x_iconst G (-1) dM_times_2 (by decide) ?_
  refine x_istore_n G 2 dM_times_3 rfl (by decide) ?_
  refine x_aload_n G 0 dM_times_4 rfl rfl ?_
  refine x_get G 0 rfl rfl 1 (by decide) rfl (fun w h => .tail _ (iM_ok w h)) (.tail _ wd_596) rfl dM_times_5 ?_
  refine x_iconst G (1) dM_times_8 (by decide) ?_
  refine x_isub G dM_times_9 ?_
  refine x_top (z := mIJ C) (by rw [hC]; exact mIJ_sub (by omega)) ?_
  refine x_istore_n G 3 dM_times_10 rfl (by decide) ?_
  exact x_eq rfl (by rw [EJ_top hT.2.2, nx_top hC4 (fun c h1 h2 => hT.none h1 h2)]; rfl) rfl rfl (loop C (Nat.le_refl C) .null .null .null σ (fun c f x h1 h2 => by omega) (fun _ _ => rfl))
