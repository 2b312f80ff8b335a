/-! Timetable: the times -/
def PS (σ : xSg) (g s : Nat) : Prop := g ≤ 3 ∧ s ≤ 20 ∧ σ 2 1 = nI g ∧ σ 2 5 = nI s
theorem PB.of {σ τ : xSg} {n : Nat} {hh ww : Nat → Nat} (h : PB σ n hh ww) (h1 : τ 1 = σ 1) (h5 : τ 5 = σ 5) (h6 : τ 6 = σ 6) : PB τ n hh ww := by unfold PB; rw [h1, h5, h6]; exact h
theorem PK.of {σ τ : xSg} {C : Nat} {mo mi : Nat → Nat} {ou : Nat → Bool} (h : PK σ C mo mi ou) (h2 : τ 2 = σ 2) (h7 : τ 7 = σ 7) (h8 : τ 8 = σ 8) (h9 : τ 9 = σ 9) : PK τ C mo mi ou := by unfold PK; rw [h2, h7, h8, h9]; exact h
theorem PS.of {σ τ : xSg} {g s : Nat} (h : PS σ g s) (h2 : τ 2 = σ 2) : PS τ g s := by unfold PS; rw [h2]; exact h
def mvF (hh ww : Nat → Nat) (b : Nat) : Nat := hh b + ww b
theorem PB.mv {σ : xSg} {n : Nat} {hh ww : Nat → Nat} (h : PB σ n hh ww) (b : Nat) : mvF hh ww b ≤ 250 := by have := h.2.2.2.1 b; unfold mvF; omega
theorem PB.moves {σ : xSg} {n : Nat} {hh ww : Nat → Nat} (h : PB σ n hh ww) (b : Nat) : (if b < n then σ 5 b + σ 6 b else 0) = nI (mvF hh ww b) := by
  by_cases hb : b < n
  · rw [if_pos hb, (h.2.2.1 b hb).1, (h.2.2.1 b hb).2, nI_add]; rfl
  · rw [if_neg hb]; have := h.2.2.2.2 b (by omega); unfold mvF; rw [this.1, this.2]; rfl
/-- the next crane with bays among the j last ones of four -/
def nxA (A : Nat → Nat) : Nat → Option Nat
  | 0 => none
  | j + 1 => match fstA A (3 - j) 8 with
    | none => nxA A j
    | some _ => some (3 - j)
theorem nxA_none {A : Nat → Nat} {j : Nat} (h : fstA A (3 - j) 8 = none) : nxA A (j + 1) = nxA A j := by simp [nxA, h]
theorem nxA_here {A : Nat → Nat} {j f : Nat} (h : fstA A (3 - j) 8 = some f) : nxA A (j + 1) = some (3 - j) := by simp [nxA, h]
theorem nxA_some {A : Nat → Nat} : ∀ {j d : Nat}, j ≤ 4 → nxA A j = some d → 4 - j ≤ d ∧ d < 4 ∧ (∃ f, fstA A d 8 = some f) ∧ ∀ x, 4 - j ≤ x → x < d → fstA A x 8 = none
  | 0, d, _, h => by simp [nxA] at h
  | j + 1, d, hj, h => by
    cases hf : fstA A (3 - j) 8 with
    | none =>
      rw [nxA_none hf] at h
      obtain ⟨h1, h2, h3, h4⟩ := nxA_some (by omega) h
      refine ⟨by omega, h2, h3, fun x hx1 hx2 => ?_⟩
      rcases (show x = 3 - j ∨ 4 - j ≤ x by omega) with q | q
      · rw [q]; exact hf
      · exact h4 x q hx2
    | some f =>
      rw [nxA_here hf] at h
      cases h
      exact ⟨by omega, by omega, ⟨f, hf⟩, fun x h1 h2 => by omega⟩
theorem wtA_none {A mv mo mi : Nat → Nat} {g s : Nat} : ∀ {j : Nat}, nxA A j = none → wtA A mv mo mi 8 g s j = fun _ => 0
  | 0, _ => rfl
  | j + 1, h => by
    cases hf : fstA A (3 - j) 8 with
    | none =>
      rw [nxA_none hf] at h
      have := wtA_none (mv := mv) (mo := mo) (mi := mi) (g := g) (s := s) h
      unfold wtA
      simp only [hf]
      exact this
    | some f => rw [nxA_here hf] at h; cases h
theorem wtA_some {A mv mo mi : Nat → Nat} {g s : Nat} : ∀ {j d : Nat}, j ≤ 4 → nxA A j = some d → wtA A mv mo mi 8 g s j = cmA A mv mo mi 8 g s d
  | 0, d, _, h => by simp [nxA] at h
  | j + 1, d, hj, h => by
    cases hf : fstA A (3 - j) 8 with
    | none =>
      rw [nxA_none hf] at h
      have := wtA_some (mv := mv) (mo := mo) (mi := mi) (g := g) (s := s) (by omega) h
      unfold wtA
      simp only [hf]
      exact this
    | some f =>
      rw [nxA_here hf] at h
      cases h
      funext b
      unfold wtA cmA
      simp only [hf, Option.getD_some]
      rw [show 3 - (3 - j) = j by omega]
theorem apA_prev {A : Nat → Nat} {n g c f : Nat} (hc : fstA A c n = some f) : ∀ (j : Nat), (∀ x, c < x → x < c + 1 + j → fstA A x n = none) → (apA A n g (c + 1 + j)).1 = some c
  | 0, _ => by simp [apA, hc]
  | j + 1, h => by
    have ih := apA_prev (g := g) hc j (fun x h1 h2 => h x h1 (by omega))
    show (apA A n g (c + 1 + j + 1)).1 = some c
    rw [apA_none (h (c + 1 + j) (by omega) (by omega))]
    exact ih
theorem apA_ok {A : Nat → Nat} {n g : Nat} : ∀ {k : Nat} (j : Nat), (apA A n g (k + j)).2 = true → (apA A n g k).2 = true
  | k, j, h => by
    cases hk : (apA A n g k).2 with
    | true => rfl
    | false => rw [apA_mono hk j] at h; exact h
/-- of a crane and the next one with bays: the bounds that keep them apart -/
theorem apart_next {A : Nat → Nat} {g c d f : Nat} (hok : (apA A 8 g 4).2 = true) (hc : c < 4) (hf : fstA A c 8 = some f) (hd : nxA A (3 - c) = some d) : (lstA A c 8).getD 0 + g < (lstA A d 8).getD 0 := by
  obtain ⟨h1, h2, ⟨f2, h3⟩, h4⟩ := nxA_some (by omega) hd
  have hp : (apA A 8 g d).1 = some c := by
    have := apA_prev (g := g) hf (d - c - 1) (fun x q1 q2 => h4 x (by omega) (by omega))
    rw [show c + 1 + (d - c - 1) = d by omega] at this
    exact this
  have hk : (apA A 8 g (d + 1)).2 = true := apA_ok (3 - d) (by rw [show d + 1 + (3 - d) = 4 by omega]; exact hok)
  unfold apA at hk
  simp only [h3, hp, Bool.and_eq_true, decide_eq_true_eq] at hk
  exact hk.2.2
set_option maxHeartbeats 4000000 in
set_option maxRecDepth 100000 in
theorem cT_whenCame0 {l : Launch} {D : va_G} {cI cZ cJ : ClassId} {ad : Nat → Nat} {σ : xSg} {b : Int32} : xCi0 l D vCl (tyC cI cZ cJ) nwW (wC ad cI cZ cJ σ) yT_whenCame (.code yT_whenCame bT_whenCame 3 (some .int) :: bigW) 1 [.ref (ad 3), .int (-1), .int b] (fun r => r = 0) := by
  refine xCi0.of (cc := bT_whenCame) (nL := 3) (ret := (some .int)) rfl (by decide) [.ref (ad 3), .int (-1), .int b] rfl (Nat.le_of_ble_eq_true rfl) ?_
  intro pp ee ss mm aa bb me cde AA G hr hlk
  refine x_aload_n G 0 dT_whenCame_0 rfl rfl ?_
  refine x_get G 3 rfl rfl 1 (by decide) rfl (fun w h => .tail _ (iT_ok w h)) (.tail _ wd_142) rfl dT_whenCame_1 ?_
  refine x_iload_n G 1 dT_whenCame_4 rfl rfl ?_
  refine x_call0VN1i G cK_has 2 rfl rfl (cVN G.2.2.2.2.1 G.2.2.2.2.2.2.1 nd_285 wd_268 wd_5 wd_50 wd_269 (by decide +kernel) ⟨(Nat.le_of_ble_eq_true rfl), (Nat.le_of_ble_eq_true rfl)⟩) dT_whenCame_5 (Nat.le_of_ble_eq_true rfl) ⟨Nat.zero_le _, Nat.zero_le _⟩ (fun r5 e5 => ?_)
  subst e5
  refine x_if_eq G 37 dT_whenCame_8 (by decide) (fun h8 => ?_) (fun h8 => (by have h8 := bI_ne0.mp h8; exact absurd (by decide) h8.1))
  refine x_iconst G (0) dT_whenCame_37 (by decide) ?_
  exact x_ret0i G hr hlk rfl dT_whenCame_38 rfl
set_option maxHeartbeats 4000000 in
set_option maxRecDepth 100000 in
theorem cT_whenCame {l : Launch} {D : va_G} {cI cZ cJ : ClassId} {ad : Nat → Nat} {σ : xSg} {C d f l' b : Nat} (hC : σ 2 0 = nI C) (hC4 : C ≤ 4) (hd : d < C) (hf : σ 13 d = nI f) (hl : σ 14 d = nI l') (bf : f < 8) (bl : l' < 8) (hb : b < 2 ^ 30) : xCi0 l D vCl (tyC cI cZ cJ) nwW (wC ad cI cZ cJ σ) yT_whenCame (.code yT_whenCame bT_whenCame 3 (some .int) :: bigW) 1 [.ref (ad 3), .int (nI d), .int (nI b)] (fun r => r = if b ≤ f ∨ l' < b ∨ 8 ≤ b then 0 else σ (16 + d) b) := by
  refine xCi0.of (cc := bT_whenCame) (nL := 3) (ret := (some .int)) rfl (by decide) [.ref (ad 3), .int (nI d), .int (nI b)] rfl (Nat.le_of_ble_eq_true rfl) ?_
  intro pp ee ss mm aa bb me cde AA G hr hlk
  refine x_aload_n G 0 dT_whenCame_0 rfl rfl ?_
  refine x_get G 3 rfl rfl 1 (by decide) rfl (fun w h => .tail _ (iT_ok w h)) (.tail _ wd_142) rfl dT_whenCame_1 ?_
  refine x_iload_n G 1 dT_whenCame_4 rfl rfl ?_
  refine x_call0VN1i G (cK_hasN hC hC4 (by omega)) 2 rfl rfl (cVN G.2.2.2.2.1 G.2.2.2.2.2.2.1 nd_285 wd_268 wd_5 wd_50 wd_269 (by decide +kernel) ⟨(Nat.le_of_ble_eq_true rfl), (Nat.le_of_ble_eq_true rfl)⟩) dT_whenCame_5 (Nat.le_of_ble_eq_true rfl) ⟨Nat.zero_le _, Nat.zero_le _⟩ (fun r5 e5 => ?_)
  subst e5
  refine x_if_eq G 37 dT_whenCame_8 (by decide) (fun h8 => (by have h8 := bI_eq0.mp h8; omega)) (fun h8 => ?_)
  refine x_iload_n G 2 dT_whenCame_11 rfl rfl ?_
  refine x_aload_n G 0 dT_whenCame_12 rfl rfl ?_
  refine x_get G 3 rfl rfl 5 (by decide) rfl (fun w h => .tail _ (iT_ok w h)) (.tail _ wd_147) rfl dT_whenCame_13 ?_
  refine x_iload_n G 1 dT_whenCame_16 rfl rfl ?_
  refine x_ialdN G 13 0 rfl rfl (by omega) (by decide) dT_whenCame_17 ?_
  refine x_icmp_le G 37 dT_whenCame_18 (by decide) (fun h18 => ?_) (fun h18 => ?_)
  · rw [hf, nI_leI (by omega) (by omega)] at h18
    refine x_iconst G (0) dT_whenCame_37 (by decide) ?_
    exact x_ret0i G hr hlk rfl dT_whenCame_38 (by rw [if_pos (by omega)])
  · rw [hf, nI_leI (by omega) (by omega)] at h18
    refine x_iload_n G 2 dT_whenCame_21 rfl rfl ?_
    refine x_aload_n G 0 dT_whenCame_22 rfl rfl ?_
    refine x_get G 3 rfl rfl 6 (by decide) rfl (fun w h => .tail _ (iT_ok w h)) (.tail _ wd_148) rfl dT_whenCame_23 ?_
    refine x_iload_n G 1 dT_whenCame_26 rfl rfl ?_
    refine x_ialdN G 14 0 rfl rfl (by omega) (by decide) dT_whenCame_27 ?_
    refine x_icmp_gt G 37 dT_whenCame_28 (by decide) (fun h28 => ?_) (fun h28 => ?_)
    · rw [hl, nI_ltI (by omega) (by omega)] at h28
      refine x_iconst G (0) dT_whenCame_37 (by decide) ?_
      exact x_ret0i G hr hlk rfl dT_whenCame_38 (by rw [if_pos (by omega)])
    · rw [hl, nI_ltI (by omega) (by omega)] at h28
      refine x_iload_n G 2 dT_whenCame_31 rfl rfl ?_
      refine x_bipush G (8) dT_whenCame_32 (by decide) ?_
      refine x_icmp_lt G 39 dT_whenCame_34 (by decide) (fun h34 => ?_) (fun h34 => ?_)
      · rw [show (8 : Int32) = nI 8 from rfl, nI_ltI (by omega) (by omega)] at h34
        refine x_aload_n G 0 dT_whenCame_39 rfl rfl ?_
        refine x_get G 3 rfl rfl 7 (by decide) rfl (fun w h => .tail _ (iT_ok w h)) (.tail _ wd_149) rfl dT_whenCame_40 ?_
        refine x_iload_n G 1 dT_whenCame_43 rfl rfl ?_
        refine x_aald G 15 2 rfl rfl rfl (show d < 4 by omega) (by decide) (if_pos (by omega)) dT_whenCame_44 ?_
        refine x_iload_n G 2 dT_whenCame_45 rfl rfl ?_
        refine x_ialdN G (16 + d) 0 (wC_row (by omega)) rfl (by omega) (by decide) dT_whenCame_46 ?_
        exact x_ret0i G hr hlk rfl dT_whenCame_47 (by rw [if_neg (by omega)])
      · rw [show (8 : Int32) = nI 8 from rfl, nI_ltI (by omega) (by omega)] at h34
        refine x_iconst G (0) dT_whenCame_37 (by decide) ?_
        exact x_ret0i G hr hlk rfl dT_whenCame_38 (by rw [if_pos (by omega)])
/-- the end of a bay's work by the sharing -/
def enA (A mv mo mi : Nat → Nat) (g s b : Nat) : Nat := cmA A mv mo mi 8 g s (A b) b + tkA mv mo mi (A b) b
/-- the times of the cranes from c on stand: their rows, the bays' begins and ends, the finish -/
def TM (σ : xSg) (A mv mo mi : Nat → Nat) (g s c : Nat) : Prop :=
  (∀ d f l', c ≤ d → d < 4 → fstA A d 8 = some f → lstA A d 8 = some l' → ∀ b, f ≤ b → b ≤ l' → σ (16 + d) b = nI (cmA A mv mo mi 8 g s d b)) ∧
  (∀ b, b < 8 → c ≤ A b → A b < 4 → σ 11 b = nI (cmA A mv mo mi 8 g s (A b) b) ∧ σ 12 b = nI (enA A mv mo mi g s b)) ∧
  σ 3 10 = nI (fiG (fun b => decide (c ≤ A b ∧ A b < 4)) (enA A mv mo mi g s) 8)
/-- .. and of crane c the bays below k -/
def TMk (σ : xSg) (A mv mo mi : Nat → Nat) (g s c f k : Nat) : Prop :=
  (∀ b, f ≤ b → b < k → σ (16 + c) b = nI (cmA A mv mo mi 8 g s c b)) ∧
  (∀ d f l', c + 1 ≤ d → d < 4 → fstA A d 8 = some f → lstA A d 8 = some l' → ∀ b, f ≤ b → b ≤ l' → σ (16 + d) b = nI (cmA A mv mo mi 8 g s d b)) ∧
  (∀ b, b < 8 → ((c + 1 ≤ A b ∧ A b < 4) ∨ (A b = c ∧ b < k)) → σ 11 b = nI (cmA A mv mo mi 8 g s (A b) b) ∧ σ 12 b = nI (enA A mv mo mi g s b)) ∧
  σ 3 10 = nI (fiG (fun b => decide ((c + 1 ≤ A b ∧ A b < 4) ∨ (A b = c ∧ b < k))) (enA A mv mo mi g s) 8)
/-- what the times leave as it was -/
def TO (σ u : xSg) : Prop := u 3 9 = σ 3 9 ∧ u 3 11 = σ 3 11 ∧ ∀ q, q ≠ 3 → q ≠ 11 → q ≠ 12 → (∀ c, c < 4 → q ≠ 16 + c) → u q = σ q
theorem TO.rf {σ : xSg} : TO σ σ := ⟨rfl, rfl, fun _ _ _ _ _ => rfl⟩
theorem TO.tr {σ u v : xSg} (h1 : TO σ u) (h2 : TO u v) : TO σ v := ⟨h2.1.trans h1.1, h2.2.1.trans h1.2.1, fun q a b c d => (h2.2.2 q a b c d).trans (h1.2.2 q a b c d)⟩
theorem TO.o {σ u : xSg} (h : TO σ u) {q : Nat} (hq : q < 11 ∧ q ≠ 3 ∨ (12 < q ∧ q < 16) ∨ 20 ≤ q) : u q = σ q := h.2.2 q (by omega) (by omega) (by omega) (fun c hc => by omega)
theorem TO.TS {σ u : xSg} {A : Nat → Nat} (h : TO σ u) (hT : TS σ A) : TS u A := hT.of (h.o (by omega)) (h.o (by omega)) (h.o (by omega))
/-- one bay more, its work there or not -/
theorem TMk.step {σ u : xSg} {A mv mo mi : Nat → Nat} {g s c f k : Nat} (h : TMk σ A mv mo mi g s c f k) (hk : k < 8) (hc : c < 4)
    (hr : u (16 + c) = upd (σ (16 + c)) k (nI (cmA A mv mo mi 8 g s c k))) (hro : ∀ d, d < 4 → d ≠ c → u (16 + d) = σ (16 + d))
    (h1 : A k ≠ c → u 11 = σ 11 ∧ u 12 = σ 12 ∧ u 3 10 = σ 3 10)
    (h2 : A k = c → u 11 = upd (σ 11) k (nI (cmA A mv mo mi 8 g s c k)) ∧ u 12 = upd (σ 12) k (nI (enA A mv mo mi g s k)) ∧ u 3 10 = nI (max (fiG (fun b => decide ((c + 1 ≤ A b ∧ A b < 4) ∨ (A b = c ∧ b < k))) (enA A mv mo mi g s) 8) (enA A mv mo mi g s k))) : TMk u A mv mo mi g s c f (k + 1) := by
  obtain ⟨q1, q2, q3, q4⟩ := h
  refine ⟨fun b hb1 hb2 => ?_, fun d f' l' hd1 hd2 hf hl b hb1 hb2 => ?_, fun b hb hd => ?_, ?_⟩
  · rw [hr]
    by_cases e : b = k
    · subst e; simp [upd]
    · simp [upd, e]; exact q1 b hb1 (by omega)
  · rw [hro d hd2 (by omega)]; exact q2 d f' l' hd1 hd2 hf hl b hb1 hb2
  · by_cases hA : A k = c
    · obtain ⟨e1, e2, -⟩ := h2 hA
      rw [e1, e2]
      by_cases e : b = k
      · subst e; simp [upd, hA]
      · simp [upd, e]; exact q3 b hb (by omega)
    · obtain ⟨e1, e2, -⟩ := h1 hA
      rw [e1, e2]
      refine q3 b hb ?_
      rcases hd with q | ⟨q, r⟩
      · exact Or.inl q
      · refine Or.inr ⟨q, ?_⟩
        rcases (show b < k ∨ b = k by omega) with z | z
        · exact z
        · rw [z] at q; exact absurd q hA
  · by_cases hA : A k = c
    · rw [(h2 hA).2.2]
      have e : fiG (fun b => decide ((c + 1 ≤ A b ∧ A b < 4) ∨ (A b = c ∧ b < k + 1))) (enA A mv mo mi g s) 8 = fiG (fun b => decide ((c + 1 ≤ A b ∧ A b < 4) ∨ (A b = c ∧ b < k)) || b == k) (enA A mv mo mi g s) 8 := by
        refine fiG_congr (fun b hb => ?_) (fun _ _ _ => rfl)
        by_cases e : b = k
        · subst e; simp [hA]
        · have e2 : (b < k + 1) = (b < k) := by apply propext; omega
          simp [e, e2]
      rw [e, fiG_add, if_pos hk]
    · rw [(h1 hA).2.2, q4]
      congr 1
      refine fiG_congr (fun b hb => ?_) (fun _ _ _ => rfl)
      by_cases e : b = k
      · subst e; simp [hA]
      · have e2 : (b < k + 1) = (b < k) := by apply propext; omega
        simp [e2]
set_option maxHeartbeats 4000000 in
set_option maxRecDepth 100000 in
theorem cT_setTimesOf {l : Launch} {D : va_G} {cI cZ cJ : ClassId} {ad : Nat → Nat} {σ : xSg} {A : Nat → Nat} {n C g s : Nat} {hh ww mo mi : Nat → Nat} {ou : Nat → Bool} (hB : PB σ n hh ww) (hK : PK σ C mo mi ou) (hS : PS σ g s) (hTS : TS σ A) (hok : (apA A 8 g 4).2 = true) (hAC : ∀ b, A b < 4 → A b < C) {c f l' : Nat} (hc : c < 4) (hf : fstA A c 8 = some f) (hlc : lstA A c 8 = some l') (hM0 : TMk σ A (mvF hh ww) mo mi g s c f f) : xCv l D vCl (tyC cI cZ cJ) nwW (wC ad cI cZ cJ) yT_setTimesOf (.code yT_setTimesOf bT_setTimesOf 5 none :: bigW) 2 [.ref (ad 3), .int (nI c), .int (oI (nxA A (3 - c)))] σ (fun u => TMk u A (mvF hh ww) mo mi g s c f (l' + 1) ∧ TO σ u) := by
  refine xCv.of (cc := bT_setTimesOf) (nL := 5) (ret := none) rfl (by decide) [.ref (ad 3), .int (nI c), .int (oI (nxA A (3 - c))), .null, .null] rfl (Nat.le_of_ble_eq_true rfl) ?_
  intro pp ee ss mm aa bb me cde AA G hr hlk
  obtain ⟨hn8, hnt, hbw, hbb, hb0⟩ := id hB
  obtain ⟨hC1, hC4, hC, hrt, hbd⟩ := id hK
  obtain ⟨hg3, hs20, hg, hs⟩ := id hS
  have hmv := hB.mv
  obtain ⟨l0, hl1, hfl, hl8, hAl⟩ := lst_of_fst hf
  rw [hlc] at hl1; cases hl1
  have hf8 := fst_lt hf
  have hc4 : c < 4 := hc
  have hcC : c < C := by have := hAC l' (by rw [hAl]; exact hc); rw [hAl] at this; exact this
  have hcmle : ∀ d b, d < 4 → b < 8 → cmA A (mvF hh ww) mo mi 8 g s d b ≤ 675540 := fun d b q1 q2 => cmA_le hmv (fun c _ => (hbd c).2.2.2) (fun c _ => (hbd c).1) hg3 hs20 q1 q2
  have htkle : ∀ d b, tkA (mvF hh ww) mo mi d b ≤ 25000 := fun d b => tkA_le (hmv b) (hbd d).2.2.2 (hbd d).1
  have hfile : ∀ (P : Nat → Bool), (∀ b, P b = true → A b < 4) → fiG P (enA A (mvF hh ww) mo mi g s) 8 ≤ 700540 := fun P hP => fiG_le (fun b hb hp => by have q1 := hcmle (A b) b (hP b hp) hb; have q2 := htkle (A b) b; unfold enA; omega)
  have fin : ∀ (σ1 : xSg) (tz : Int32), TMk σ1 A (mvF hh ww) mo mi g s c f (l' + 1) → TO σ σ1 → xJ pp l ee { frames := 2, cells := 0, slots := 0, locals := 40 * 2 } ss mm aa bb me cde 0 0 (MQ bb (va_Qv (fun u => TMk u A (mvF hh ww) mo mi g s c f (l' + 1) ∧ TO σ u) (fun u t => va_P D vCl (wC ad cI cZ cJ u) t.heap ∧ va_D AA (wC ad cI cZ cJ u)) AA) aa ss 0 0 AA) D vCl AA 5 (va_S AA ss.heap) (wC ad cI cZ cJ σ1) [.ref (ad 3), .int (nI c), .int (oI (nxA A (3 - c))), .int tz, .int (nI (l' + 1))] 14 [] := by
    intro σ1 tz hM hO
    have hl14 : σ1 14 c = nI l' := by rw [hO.o (by omega), (hTS.2 c hc4).2, hlc]; rfl
    refine x_iload G dT_setTimesOf_14 rfl ?_
    refine x_aload_n G 0 dT_setTimesOf_16 rfl rfl ?_
    refine x_get G 3 rfl rfl 6 (by decide) rfl (fun w h => .tail _ (iT_ok w h)) (.tail _ wd_148) rfl dT_setTimesOf_17 ?_
    refine x_iload_n G 1 dT_setTimesOf_20 rfl rfl ?_
    refine x_ialdN G 14 0 rfl rfl (by omega) (by decide) dT_setTimesOf_21 ?_
    refine x_icmp_gt G 137 dT_setTimesOf_22 (by decide) (fun h22 => ?_) (fun h22 => (by rw [hl14] at h22; exact absurd (nI_lt (by omega) (by omega)) h22))
    exact x_retv G hr hlk dT_setTimesOf_137 ⟨hM, hO⟩
  have loop : ∀ (j k : Nat), k + j = l' → f ≤ k → ∀ (σ1 : xSg), TMk σ1 A (mvF hh ww) mo mi g s c f k → TO σ σ1 → xJ pp l ee { frames := 2, cells := 0, slots := 0, locals := 40 * 2 } ss mm aa bb me cde 0 0 (MQ bb (va_Qv (fun u => TMk u A (mvF hh ww) mo mi g s c f (l' + 1) ∧ TO σ u) (fun u t => va_P D vCl (wC ad cI cZ cJ u) t.heap ∧ va_D AA (wC ad cI cZ cJ u)) AA) aa ss 0 0 AA) D vCl AA 5 (va_S AA ss.heap) (wC ad cI cZ cJ σ1) [.ref (ad 3), .int (nI c), .int (oI (nxA A (3 - c))), .int (nI (cmA A (mvF hh ww) mo mi 8 g s c k)), .int (nI k)] 14 [] := by
    intro j
    induction j with
    | zero =>
      intro k hk hfk σ1 hM hO
      have hB1 := hB.of (hO.o (q := 1) (by omega)) (hO.o (q := 5) (by omega)) (hO.o (q := 6) (by omega))
      have hK1 := hK.of (hO.o (q := 2) (by omega)) (hO.o (q := 7) (by omega)) (hO.o (q := 8) (by omega)) (hO.o (q := 9) (by omega))
      have h210 : σ1 2 = σ 2 := hO.o (by omega)
      have hl14 : σ1 14 c = nI l' := by rw [hO.o (by omega), (hTS.2 c hc4).2, hlc]; rfl
      have h10 : σ1 10 k = aI (A k) := by rw [hO.o (by omega)]; exact hTS.1 k (by omega)
      have hcmk := hcmle c k hc4 (by omega)
      refine x_iload G dT_setTimesOf_14 rfl ?_
      refine x_aload_n G 0 dT_setTimesOf_16 rfl rfl ?_
      refine x_get G 3 rfl rfl 6 (by decide) rfl (fun w h => .tail _ (iT_ok w h)) (.tail _ wd_148) rfl dT_setTimesOf_17 ?_
      refine x_iload_n G 1 dT_setTimesOf_20 rfl rfl ?_
      refine x_ialdN G 14 0 rfl rfl (by omega) (by decide) dT_setTimesOf_21 ?_
      refine x_icmp_gt G 137 dT_setTimesOf_22 (by decide) (fun h22 => (by rw [hl14, nI_ltI (by omega) (by omega)] at h22; omega)) (fun h22 => ?_)
      refine x_iload G dT_setTimesOf_25 rfl ?_
      refine x_bipush G (8) dT_setTimesOf_27 (by decide) ?_
      refine x_icmp_ge G 137 dT_setTimesOf_29 (by decide) (fun h29 => (by exact absurd h29 (nI_ge (show k < 8 by omega) (by decide)))) (fun h29 => ?_)
      refine x_aload_n G 0 dT_setTimesOf_32 rfl rfl ?_
      refine x_get G 3 rfl rfl 7 (by decide) rfl (fun w h => .tail _ (iT_ok w h)) (.tail _ wd_149) rfl dT_setTimesOf_33 ?_
      refine x_iload_n G 1 dT_setTimesOf_36 rfl rfl ?_
      refine x_aald G 15 2 rfl rfl rfl hc4 (by decide) (if_pos hc4) dT_setTimesOf_37 ?_
      refine x_iload G dT_setTimesOf_38 rfl ?_
      refine x_iload_n G 3 dT_setTimesOf_40 rfl rfl ?_
      refine x_iastN G (16 + c) 0 (wC_row hc4) rfl (wC_rowSet hc4) (by omega) (by decide) dT_setTimesOf_41 ?_
      refine x_aload_n G 0 dT_setTimesOf_42 rfl rfl ?_
      refine x_get G 3 rfl rfl 2 (by decide) rfl (fun w h => .tail _ (iT_ok w h)) (.tail _ wd_143) rfl dT_setTimesOf_43 ?_
      refine x_iload G dT_setTimesOf_46 rfl ?_
      refine x_ialdN G 10 0 rfl rfl (by omega) (by decide) dT_setTimesOf_48 ?_
      refine x_iload_n G 1 dT_setTimesOf_49 rfl rfl ?_
      refine x_icmp_ne G 101 dT_setTimesOf_50 (by decide) (fun h50 => ?_) (fun h50 => ?_)
      · have hAk : A k ≠ c := fun q => h50 (by show sst σ1 (16 + c) k _ 10 k = nI c; rw [sst_q (by omega), h10]; exact (aI_eq hc4).mpr q)
        have hM2 : TMk (sst σ1 (16 + c) k (nI (cmA A (mvF hh ww) mo mi 8 g s c k))) A (mvF hh ww) mo mi g s c f (k + 1) := hM.step (by omega) hc4 sst_up (fun d hd1 hd2 => sst_ne (by omega)) (fun _ => ⟨sst_ne (by omega), sst_ne (by omega), sst_q (by omega)⟩) (fun q => absurd q hAk)
        have hO2 : TO σ (sst σ1 (16 + c) k (nI (cmA A (mvF hh ww) mo mi 8 g s c k))) := hO.tr ⟨sst_q (by omega), sst_q (by omega), fun q q3 q11 q12 q16 => sst_ne (q16 c hc4)⟩
        have hdu : duA A (mvF hh ww) mo mi c k = 0 := by simp [duA, hAk]
        have e2 : (sst σ1 (16 + c) k (nI (cmA A (mvF hh ww) mo mi 8 g s c k))) 2 = σ 2 := hO2.o (by omega)
        generalize sst σ1 (16 + c) k (nI (cmA A (mvF hh ww) mo mi 8 g s c k)) = σ2 at hM2 hO2 e2 ⊢
        have hcmd : cmA A (mvF hh ww) mo mi 8 g s c k = cmA A (mvF hh ww) mo mi 8 g s c k + duA A (mvF hh ww) mo mi c k := by rw [hdu]; rfl
        refine x_iload_n G 3 dT_setTimesOf_101 rfl rfl ?_
        refine x_aload_n G 0 dT_setTimesOf_102 rfl rfl ?_
        refine x_iload_n G 2 dT_setTimesOf_103 rfl rfl ?_
        refine x_iload G dT_setTimesOf_104 rfl ?_
        refine x_iconst G (2) dT_setTimesOf_106 (by decide) ?_
        refine x_iadd G dT_setTimesOf_107 ?_
        refine x_aload_n G 0 dT_setTimesOf_108 rfl rfl ?_
        refine x_get G 3 rfl rfl 1 (by decide) rfl (fun w h => .tail _ (iT_ok w h)) (.tail _ wd_142) rfl dT_setTimesOf_109 ?_
        refine x_getN G 2 rfl rfl 1 (by decide) rfl (fun w h => .tail _ (iK_ok w h)) nd_112 rfl dT_setTimesOf_112 ?_
        refine x_iadd G dT_setTimesOf_115 ?_
        refine x_top (z := nI (k + 2 + g)) (by rw [e2, hg]; show nI k + nI 2 + nI g = _; rw [nI_add, nI_add]) ?_
        have hwc : xCi0 l D vCl (tyC cI cZ cJ) nwW (wC ad cI cZ cJ σ2) yT_whenCame (.code yT_whenCame bT_whenCame 3 (some .int) :: bigW) 1 [.ref (ad 3), .int (oI (nxA A (3 - c))), .int (nI (k + 2 + g))] (fun r => k < l' → r = nI (wtA A (mvF hh ww) mo mi 8 g s (3 - c) (k + 2 + g))) := by
          cases hnx : nxA A (3 - c) with
          | none => exact cT_whenCame0.mono (fun r hr _ => by rw [hr, wtA_none hnx]; rfl)
          | some d =>
            obtain ⟨d1, d2, ⟨fd, d3⟩, d4⟩ := nxA_some (by omega) hnx
            obtain ⟨ld, d5, d6, d7, d8⟩ := lst_of_fst d3
            have hap := apart_next hok hc4 hf hnx
            rw [hlc, d5] at hap
            have hap : l' + g < ld := hap
            have hdC : d < C := by have := hAC ld (by rw [d8]; exact d2); rw [d8] at this; exact this
            refine (cT_whenCame (C := C) (f := fd) (l' := ld) (by rw [e2]; exact hC) hC4 hdC (by rw [hO2.o (by omega), (hTS.2 d d2).1, d3]; rfl) (by rw [hO2.o (by omega), (hTS.2 d d2).2, d5]; rfl) (fst_lt d3) d7 (by omega)).mono (fun r hr hkl => ?_)
            rw [hr, wtA_some (by omega) hnx]
            by_cases hq : k + 2 + g ≤ fd
            · rw [if_pos (Or.inl hq)]; unfold cmA; rw [d3, Option.getD_some, tim_low hq]; rfl
            · rw [if_neg (by omega)]; exact hM2.2.1 d fd ld (by omega) d2 d3 d5 _ (by omega) (by omega)
        refine x_call0V2i G hwc 3 rfl rfl (cV G.2.2.2.2.1 wd_311 wd_313 wd_14 wd_53 wd_314 (by decide +kernel) ⟨(Nat.le_of_ble_eq_true rfl), (Nat.le_of_ble_eq_true rfl)⟩) dT_setTimesOf_116 (Nat.le_of_ble_eq_true rfl) ⟨Nat.zero_le _, Nat.zero_le _⟩ (fun r116 e116 => ?_)
        refine x_mmax G (.tail _ wd_302) (.tail _ wd_101) (.tail _ wd_51) (.tail _ wd_102) ⟨(Nat.le_of_ble_eq_true rfl), (Nat.le_of_ble_eq_true rfl), Nat.zero_le _, Nat.zero_le _⟩ dT_setTimesOf_119 ?_
        refine x_aload_n G 0 dT_setTimesOf_122 rfl rfl ?_
        refine x_get G 3 rfl rfl 1 (by decide) rfl (fun w h => .tail _ (iT_ok w h)) (.tail _ wd_142) rfl dT_setTimesOf_123 ?_
        refine x_getN G 2 rfl rfl 5 (by decide) rfl (fun w h => .tail _ (iK_ok w h)) nd_118 rfl dT_setTimesOf_126 ?_
        rw [e2, hs]
        refine x_iadd G dT_setTimesOf_129 ?_
        refine x_istore_n G 3 dT_setTimesOf_130 rfl (by decide) ?_
        refine x_iinc G (nI (k + 1)) dT_setTimesOf_131 rfl (nI_1 k) (by decide) ?_
        refine x_goto G 14 dT_setTimesOf_134 (by decide) ?_
        exact x_eq rfl (by rw [show l' = k by omega]; rfl) rfl rfl (fin σ2 _ (by rw [show l' + 1 = k + 1 by omega]; exact hM2) hO2)
      · have hAk : A k = c := by rw [show sst σ1 (16 + c) k (nI (cmA A (mvF hh ww) mo mi 8 g s c k)) 10 k = σ1 10 k from sst_q (by omega), h10] at h50; exact (aI_eq hc4).mp h50
        have htk := htkle c k
        have hdu : duA A (mvF hh ww) mo mi c k = tkA (mvF hh ww) mo mi c k := by simp [duA, hAk]
        have hen : enA A (mvF hh ww) mo mi g s k = cmA A (mvF hh ww) mo mi 8 g s c k + tkA (mvF hh ww) mo mi c k := by unfold enA; rw [hAk]
        have hfl2 := hfile (fun b => decide ((c + 1 ≤ A b ∧ A b < 4) ∨ (A b = c ∧ b < k))) (fun b q => by simp at q; omega)
        refine x_aload_n G 0 dT_setTimesOf_53 rfl rfl ?_
        refine x_get G 3 rfl rfl 3 (by decide) rfl (fun w h => .tail _ (iT_ok w h)) (.tail _ wd_145) rfl dT_setTimesOf_54 ?_
        refine x_iload G dT_setTimesOf_57 rfl ?_
        refine x_iload_n G 3 dT_setTimesOf_59 rfl rfl ?_
        refine x_iastN G 11 0 rfl rfl warr_11 (by omega) (by decide) dT_setTimesOf_60 ?_
        refine x_iload_n G 3 dT_setTimesOf_61 rfl rfl ?_
        refine x_aload_n G 0 dT_setTimesOf_62 rfl rfl ?_
        refine x_get G 3 rfl rfl 1 (by decide) rfl (fun w h => .tail _ (iT_ok w h)) (.tail _ wd_142) rfl dT_setTimesOf_63 ?_
        refine x_iload_n G 1 dT_setTimesOf_66 rfl rfl ?_
        refine x_aload_n G 0 dT_setTimesOf_67 rfl rfl ?_
        refine x_get G 3 rfl rfl 0 (by decide) rfl (fun w h => .tail _ (iT_ok w h)) (.tail _ wd_141) rfl dT_setTimesOf_68 ?_
        refine x_iload G dT_setTimesOf_71 rfl ?_
        refine x_call0VN1i G (cB_movesOf (σ := sst (sst σ1 (16 + c) k (nI (cmA A (mvF hh ww) mo mi 8 g s c k))) 11 k (nI (cmA A (mvF hh ww) mo mi 8 g s c k))) (n := n) (by rw [sst_q (by omega), sst_q (by omega)]; exact hB1.2.1) hn8 (by omega)) 1 rfl rfl (cVN G.2.2.2.2.1 G.2.2.2.2.2.2.1 nd_303 wd_256 wd_2 wd_49 wd_257 (by decide +kernel) ⟨(Nat.le_of_ble_eq_true rfl), (Nat.le_of_ble_eq_true rfl)⟩) dT_setTimesOf_73 (Nat.le_of_ble_eq_true rfl) ⟨Nat.zero_le _, Nat.zero_le _⟩ (fun r73 e73 => ?_)
        refine x_top (z := nI (mvF hh ww k)) (by rw [e73, ← hB1.moves k, sst_q (by omega), sst_q (by omega), sst_q (by omega), sst_q (by omega)]) ?_
        refine x_call0VN2i G (cK_timeFor (hK1.of (by rw [sst_ne (by omega), sst_ne (by omega)]) (by rw [sst_ne (by omega), sst_ne (by omega)]) (by rw [sst_ne (by omega), sst_ne (by omega)]) (by rw [sst_ne (by omega), sst_ne (by omega)])) hcC (by have := hmv k; omega)) 2 rfl rfl (cVN G.2.2.2.2.1 G.2.2.2.2.2.2.1 nd_304 wd_306 wd_13 wd_50 wd_307 (by decide +kernel) ⟨(Nat.le_of_ble_eq_true rfl), (Nat.le_of_ble_eq_true rfl)⟩) dT_setTimesOf_76 (Nat.le_of_ble_eq_true rfl) ⟨Nat.zero_le _, Nat.zero_le _⟩ (fun r76 e76 => ?_)
        subst e76
        refine x_iadd G dT_setTimesOf_79 ?_
        refine x_top (z := nI (enA A (mvF hh ww) mo mi g s k)) (by rw [hen]; exact nI_add _ _) ?_
        refine x_istore_n G 3 dT_setTimesOf_80 rfl (by decide) ?_
        refine x_aload_n G 0 dT_setTimesOf_81 rfl rfl ?_
        refine x_get G 3 rfl rfl 4 (by decide) rfl (fun w h => .tail _ (iT_ok w h)) (.tail _ wd_146) rfl dT_setTimesOf_82 ?_
        refine x_iload G dT_setTimesOf_85 rfl ?_
        refine x_iload_n G 3 dT_setTimesOf_87 rfl rfl ?_
        refine x_iastN G 12 0 rfl rfl warr_12 (by omega) (by decide) dT_setTimesOf_88 ?_
        refine x_aload_n G 0 dT_setTimesOf_89 rfl rfl ?_
        refine x_aload_n G 0 dT_setTimesOf_90 rfl rfl ?_
        refine x_get G 3 rfl rfl 10 (by decide) rfl (fun w h => .tail _ (iT_ok w h)) (.tail _ wd_153) rfl dT_setTimesOf_91 ?_
        refine x_iload_n G 3 dT_setTimesOf_94 rfl rfl ?_
        refine x_mmax G (.tail _ wd_302) (.tail _ wd_101) (.tail _ wd_51) (.tail _ wd_102) ⟨(Nat.le_of_ble_eq_true rfl), (Nat.le_of_ble_eq_true rfl), Nat.zero_le _, Nat.zero_le _⟩ dT_setTimesOf_95 ?_
        refine x_top (z := nI (max (fiG (fun b => decide ((c + 1 ≤ A b ∧ A b < 4) ∨ (A b = c ∧ b < k))) (enA A (mvF hh ww) mo mi g s) 8) (enA A (mvF hh ww) mo mi g s k))) (by rw [← nI_max (by omega) (by omega)]; rw [show sst (sst (sst σ1 (16 + c) k (nI (cmA A (mvF hh ww) mo mi 8 g s c k))) 11 k (nI (cmA A (mvF hh ww) mo mi 8 g s c k))) 12 k (nI (enA A (mvF hh ww) mo mi g s k)) 3 10 = σ1 3 10 by rw [sst_q (by omega), sst_q (by omega), sst_q (by omega)], hM.2.2.2]) ?_
        refine x_put G 3 rfl rfl 10 (by decide) (Nat.le_of_ble_eq_true rfl) wput_3_10 (fun w h => .tail _ (iT_ok w h)) tT_ok nT_ok (.tail _ wd_153) rfl rfl (tT_ok 10 (by decide)) rfl rfl dT_setTimesOf_98 ?_
        have hM2 : TMk (sst (sst (sst (sst σ1 (16 + c) k (nI (cmA A (mvF hh ww) mo mi 8 g s c k))) 11 k (nI (cmA A (mvF hh ww) mo mi 8 g s c k))) 12 k (nI (enA A (mvF hh ww) mo mi g s k))) 3 10 (nI (max (fiG (fun b => decide ((c + 1 ≤ A b ∧ A b < 4) ∨ (A b = c ∧ b < k))) (enA A (mvF hh ww) mo mi g s) 8) (enA A (mvF hh ww) mo mi g s k)))) A (mvF hh ww) mo mi g s c f (k + 1) := hM.step (by omega) hc4 (by rw [sst_ne (by omega), sst_ne (by omega), sst_ne (by omega), sst_up]) (fun d hd1 hd2 => by rw [sst_ne (by omega), sst_ne (by omega), sst_ne (by omega), sst_ne (by omega)]) (fun q => absurd hAk q) (fun _ => ⟨by rw [sst_ne (by omega), sst_ne (by omega), sst_up, sst_ne (by omega)], by rw [sst_ne (by omega), sst_up, sst_ne (by omega), sst_ne (by omega)], sst_same⟩)
        have hO2 : TO σ (sst (sst (sst (sst σ1 (16 + c) k (nI (cmA A (mvF hh ww) mo mi 8 g s c k))) 11 k (nI (cmA A (mvF hh ww) mo mi 8 g s c k))) 12 k (nI (enA A (mvF hh ww) mo mi g s k))) 3 10 (nI (max (fiG (fun b => decide ((c + 1 ≤ A b ∧ A b < 4) ∨ (A b = c ∧ b < k))) (enA A (mvF hh ww) mo mi g s) 8) (enA A (mvF hh ww) mo mi g s k)))) := hO.tr ⟨by rw [sst_i (by omega), sst_q (by omega), sst_q (by omega), sst_q (by omega)], by rw [sst_i (by omega), sst_q (by omega), sst_q (by omega), sst_q (by omega)], fun q q3 q11 q12 q16 => by rw [sst_ne q3, sst_ne q12, sst_ne q11, sst_ne (q16 c hc4)]⟩
        have e2 : (sst (sst (sst (sst σ1 (16 + c) k (nI (cmA A (mvF hh ww) mo mi 8 g s c k))) 11 k (nI (cmA A (mvF hh ww) mo mi 8 g s c k))) 12 k (nI (enA A (mvF hh ww) mo mi g s k))) 3 10 (nI (max (fiG (fun b => decide ((c + 1 ≤ A b ∧ A b < 4) ∨ (A b = c ∧ b < k))) (enA A (mvF hh ww) mo mi g s) 8) (enA A (mvF hh ww) mo mi g s k)))) 2 = σ 2 := hO2.o (by omega)
        generalize sst (sst (sst (sst σ1 (16 + c) k (nI (cmA A (mvF hh ww) mo mi 8 g s c k))) 11 k (nI (cmA A (mvF hh ww) mo mi 8 g s c k))) 12 k (nI (enA A (mvF hh ww) mo mi g s k))) 3 10 (nI (max (fiG (fun b => decide ((c + 1 ≤ A b ∧ A b < 4) ∨ (A b = c ∧ b < k))) (enA A (mvF hh ww) mo mi g s) 8) (enA A (mvF hh ww) mo mi g s k))) = σ2 at hM2 hO2 e2 ⊢
        have hcmd : enA A (mvF hh ww) mo mi g s k = cmA A (mvF hh ww) mo mi 8 g s c k + duA A (mvF hh ww) mo mi c k := by rw [hdu]; exact hen
        refine x_iload_n G 3 dT_setTimesOf_101 rfl rfl ?_
        refine x_aload_n G 0 dT_setTimesOf_102 rfl rfl ?_
        refine x_iload_n G 2 dT_setTimesOf_103 rfl rfl ?_
        refine x_iload G dT_setTimesOf_104 rfl ?_
        refine x_iconst G (2) dT_setTimesOf_106 (by decide) ?_
        refine x_iadd G dT_setTimesOf_107 ?_
        refine x_aload_n G 0 dT_setTimesOf_108 rfl rfl ?_
        refine x_get G 3 rfl rfl 1 (by decide) rfl (fun w h => .tail _ (iT_ok w h)) (.tail _ wd_142) rfl dT_setTimesOf_109 ?_
        refine x_getN G 2 rfl rfl 1 (by decide) rfl (fun w h => .tail _ (iK_ok w h)) nd_112 rfl dT_setTimesOf_112 ?_
        refine x_iadd G dT_setTimesOf_115 ?_
        refine x_top (z := nI (k + 2 + g)) (by rw [e2, hg]; show nI k + nI 2 + nI g = _; rw [nI_add, nI_add]) ?_
        have hwc : xCi0 l D vCl (tyC cI cZ cJ) nwW (wC ad cI cZ cJ σ2) yT_whenCame (.code yT_whenCame bT_whenCame 3 (some .int) :: bigW) 1 [.ref (ad 3), .int (oI (nxA A (3 - c))), .int (nI (k + 2 + g))] (fun r => k < l' → r = nI (wtA A (mvF hh ww) mo mi 8 g s (3 - c) (k + 2 + g))) := by
          cases hnx : nxA A (3 - c) with
          | none => exact cT_whenCame0.mono (fun r hr _ => by rw [hr, wtA_none hnx]; rfl)
          | some d =>
            obtain ⟨d1, d2, ⟨fd, d3⟩, d4⟩ := nxA_some (by omega) hnx
            obtain ⟨ld, d5, d6, d7, d8⟩ := lst_of_fst d3
            have hap := apart_next hok hc4 hf hnx
            rw [hlc, d5] at hap
            have hap : l' + g < ld := hap
            have hdC : d < C := by have := hAC ld (by rw [d8]; exact d2); rw [d8] at this; exact this
            refine (cT_whenCame (C := C) (f := fd) (l' := ld) (by rw [e2]; exact hC) hC4 hdC (by rw [hO2.o (by omega), (hTS.2 d d2).1, d3]; rfl) (by rw [hO2.o (by omega), (hTS.2 d d2).2, d5]; rfl) (fst_lt d3) d7 (by omega)).mono (fun r hr hkl => ?_)
            rw [hr, wtA_some (by omega) hnx]
            by_cases hq : k + 2 + g ≤ fd
            · rw [if_pos (Or.inl hq)]; unfold cmA; rw [d3, Option.getD_some, tim_low hq]; rfl
            · rw [if_neg (by omega)]; exact hM2.2.1 d fd ld (by omega) d2 d3 d5 _ (by omega) (by omega)
        refine x_call0V2i G hwc 3 rfl rfl (cV G.2.2.2.2.1 wd_311 wd_313 wd_14 wd_53 wd_314 (by decide +kernel) ⟨(Nat.le_of_ble_eq_true rfl), (Nat.le_of_ble_eq_true rfl)⟩) dT_setTimesOf_116 (Nat.le_of_ble_eq_true rfl) ⟨Nat.zero_le _, Nat.zero_le _⟩ (fun r116 e116 => ?_)
        refine x_mmax G (.tail _ wd_302) (.tail _ wd_101) (.tail _ wd_51) (.tail _ wd_102) ⟨(Nat.le_of_ble_eq_true rfl), (Nat.le_of_ble_eq_true rfl), Nat.zero_le _, Nat.zero_le _⟩ dT_setTimesOf_119 ?_
        refine x_aload_n G 0 dT_setTimesOf_122 rfl rfl ?_
        refine x_get G 3 rfl rfl 1 (by decide) rfl (fun w h => .tail _ (iT_ok w h)) (.tail _ wd_142) rfl dT_setTimesOf_123 ?_
        refine x_getN G 2 rfl rfl 5 (by decide) rfl (fun w h => .tail _ (iK_ok w h)) nd_118 rfl dT_setTimesOf_126 ?_
        rw [e2, hs]
        refine x_iadd G dT_setTimesOf_129 ?_
        refine x_istore_n G 3 dT_setTimesOf_130 rfl (by decide) ?_
        refine x_iinc G (nI (k + 1)) dT_setTimesOf_131 rfl (nI_1 k) (by decide) ?_
        refine x_goto G 14 dT_setTimesOf_134 (by decide) ?_
        exact x_eq rfl (by rw [show l' = k by omega]; rfl) rfl rfl (fin σ2 _ (by rw [show l' + 1 = k + 1 by omega]; exact hM2) hO2)
    | succ j ih =>
      intro k hk hfk σ1 hM hO
      have hB1 := hB.of (hO.o (q := 1) (by omega)) (hO.o (q := 5) (by omega)) (hO.o (q := 6) (by omega))
      have hK1 := hK.of (hO.o (q := 2) (by omega)) (hO.o (q := 7) (by omega)) (hO.o (q := 8) (by omega)) (hO.o (q := 9) (by omega))
      have h210 : σ1 2 = σ 2 := hO.o (by omega)
      have hl14 : σ1 14 c = nI l' := by rw [hO.o (by omega), (hTS.2 c hc4).2, hlc]; rfl
      have h10 : σ1 10 k = aI (A k) := by rw [hO.o (by omega)]; exact hTS.1 k (by omega)
      have hcmk := hcmle c k hc4 (by omega)
      refine x_iload G dT_setTimesOf_14 rfl ?_
      refine x_aload_n G 0 dT_setTimesOf_16 rfl rfl ?_
      refine x_get G 3 rfl rfl 6 (by decide) rfl (fun w h => .tail _ (iT_ok w h)) (.tail _ wd_148) rfl dT_setTimesOf_17 ?_
      refine x_iload_n G 1 dT_setTimesOf_20 rfl rfl ?_
      refine x_ialdN G 14 0 rfl rfl (by omega) (by decide) dT_setTimesOf_21 ?_
      refine x_icmp_gt G 137 dT_setTimesOf_22 (by decide) (fun h22 => (by rw [hl14, nI_ltI (by omega) (by omega)] at h22; omega)) (fun h22 => ?_)
      refine x_iload G dT_setTimesOf_25 rfl ?_
      refine x_bipush G (8) dT_setTimesOf_27 (by decide) ?_
      refine x_icmp_ge G 137 dT_setTimesOf_29 (by decide) (fun h29 => (by exact absurd h29 (nI_ge (show k < 8 by omega) (by decide)))) (fun h29 => ?_)
      refine x_aload_n G 0 dT_setTimesOf_32 rfl rfl ?_
      refine x_get G 3 rfl rfl 7 (by decide) rfl (fun w h => .tail _ (iT_ok w h)) (.tail _ wd_149) rfl dT_setTimesOf_33 ?_
      refine x_iload_n G 1 dT_setTimesOf_36 rfl rfl ?_
      refine x_aald G 15 2 rfl rfl rfl hc4 (by decide) (if_pos hc4) dT_setTimesOf_37 ?_
      refine x_iload G dT_setTimesOf_38 rfl ?_
      refine x_iload_n G 3 dT_setTimesOf_40 rfl rfl ?_
      refine x_iastN G (16 + c) 0 (wC_row hc4) rfl (wC_rowSet hc4) (by omega) (by decide) dT_setTimesOf_41 ?_
      refine x_aload_n G 0 dT_setTimesOf_42 rfl rfl ?_
      refine x_get G 3 rfl rfl 2 (by decide) rfl (fun w h => .tail _ (iT_ok w h)) (.tail _ wd_143) rfl dT_setTimesOf_43 ?_
      refine x_iload G dT_setTimesOf_46 rfl ?_
      refine x_ialdN G 10 0 rfl rfl (by omega) (by decide) dT_setTimesOf_48 ?_
      refine x_iload_n G 1 dT_setTimesOf_49 rfl rfl ?_
      refine x_icmp_ne G 101 dT_setTimesOf_50 (by decide) (fun h50 => ?_) (fun h50 => ?_)
      · have hAk : A k ≠ c := fun q => h50 (by show sst σ1 (16 + c) k _ 10 k = nI c; rw [sst_q (by omega), h10]; exact (aI_eq hc4).mpr q)
        have hM2 : TMk (sst σ1 (16 + c) k (nI (cmA A (mvF hh ww) mo mi 8 g s c k))) A (mvF hh ww) mo mi g s c f (k + 1) := hM.step (by omega) hc4 sst_up (fun d hd1 hd2 => sst_ne (by omega)) (fun _ => ⟨sst_ne (by omega), sst_ne (by omega), sst_q (by omega)⟩) (fun q => absurd q hAk)
        have hO2 : TO σ (sst σ1 (16 + c) k (nI (cmA A (mvF hh ww) mo mi 8 g s c k))) := hO.tr ⟨sst_q (by omega), sst_q (by omega), fun q q3 q11 q12 q16 => sst_ne (q16 c hc4)⟩
        have hdu : duA A (mvF hh ww) mo mi c k = 0 := by simp [duA, hAk]
        have e2 : (sst σ1 (16 + c) k (nI (cmA A (mvF hh ww) mo mi 8 g s c k))) 2 = σ 2 := hO2.o (by omega)
        generalize sst σ1 (16 + c) k (nI (cmA A (mvF hh ww) mo mi 8 g s c k)) = σ2 at hM2 hO2 e2 ⊢
        have hcmd : cmA A (mvF hh ww) mo mi 8 g s c k = cmA A (mvF hh ww) mo mi 8 g s c k + duA A (mvF hh ww) mo mi c k := by rw [hdu]; rfl
        refine x_iload_n G 3 dT_setTimesOf_101 rfl rfl ?_
        refine x_aload_n G 0 dT_setTimesOf_102 rfl rfl ?_
        refine x_iload_n G 2 dT_setTimesOf_103 rfl rfl ?_
        refine x_iload G dT_setTimesOf_104 rfl ?_
        refine x_iconst G (2) dT_setTimesOf_106 (by decide) ?_
        refine x_iadd G dT_setTimesOf_107 ?_
        refine x_aload_n G 0 dT_setTimesOf_108 rfl rfl ?_
        refine x_get G 3 rfl rfl 1 (by decide) rfl (fun w h => .tail _ (iT_ok w h)) (.tail _ wd_142) rfl dT_setTimesOf_109 ?_
        refine x_getN G 2 rfl rfl 1 (by decide) rfl (fun w h => .tail _ (iK_ok w h)) nd_112 rfl dT_setTimesOf_112 ?_
        refine x_iadd G dT_setTimesOf_115 ?_
        refine x_top (z := nI (k + 2 + g)) (by rw [e2, hg]; show nI k + nI 2 + nI g = _; rw [nI_add, nI_add]) ?_
        have hwc : xCi0 l D vCl (tyC cI cZ cJ) nwW (wC ad cI cZ cJ σ2) yT_whenCame (.code yT_whenCame bT_whenCame 3 (some .int) :: bigW) 1 [.ref (ad 3), .int (oI (nxA A (3 - c))), .int (nI (k + 2 + g))] (fun r => k < l' → r = nI (wtA A (mvF hh ww) mo mi 8 g s (3 - c) (k + 2 + g))) := by
          cases hnx : nxA A (3 - c) with
          | none => exact cT_whenCame0.mono (fun r hr _ => by rw [hr, wtA_none hnx]; rfl)
          | some d =>
            obtain ⟨d1, d2, ⟨fd, d3⟩, d4⟩ := nxA_some (by omega) hnx
            obtain ⟨ld, d5, d6, d7, d8⟩ := lst_of_fst d3
            have hap := apart_next hok hc4 hf hnx
            rw [hlc, d5] at hap
            have hap : l' + g < ld := hap
            have hdC : d < C := by have := hAC ld (by rw [d8]; exact d2); rw [d8] at this; exact this
            refine (cT_whenCame (C := C) (f := fd) (l' := ld) (by rw [e2]; exact hC) hC4 hdC (by rw [hO2.o (by omega), (hTS.2 d d2).1, d3]; rfl) (by rw [hO2.o (by omega), (hTS.2 d d2).2, d5]; rfl) (fst_lt d3) d7 (by omega)).mono (fun r hr hkl => ?_)
            rw [hr, wtA_some (by omega) hnx]
            by_cases hq : k + 2 + g ≤ fd
            · rw [if_pos (Or.inl hq)]; unfold cmA; rw [d3, Option.getD_some, tim_low hq]; rfl
            · rw [if_neg (by omega)]; exact hM2.2.1 d fd ld (by omega) d2 d3 d5 _ (by omega) (by omega)
        refine x_call0V2i G hwc 3 rfl rfl (cV G.2.2.2.2.1 wd_311 wd_313 wd_14 wd_53 wd_314 (by decide +kernel) ⟨(Nat.le_of_ble_eq_true rfl), (Nat.le_of_ble_eq_true rfl)⟩) dT_setTimesOf_116 (Nat.le_of_ble_eq_true rfl) ⟨Nat.zero_le _, Nat.zero_le _⟩ (fun r116 e116 => ?_)
        rw [e116 (by omega)]
        have hwle := wtA_le (A := A) (mv := mvF hh ww) (n := 8) hmv (fun c _ => (hbd c).2.2.2) (fun c _ => (hbd c).1) hg3 hs20 (3 - c) (by omega) (k + 2 + g)
        refine x_mmax G (.tail _ wd_302) (.tail _ wd_101) (.tail _ wd_51) (.tail _ wd_102) ⟨(Nat.le_of_ble_eq_true rfl), (Nat.le_of_ble_eq_true rfl), Nat.zero_le _, Nat.zero_le _⟩ dT_setTimesOf_119 ?_
        refine x_aload_n G 0 dT_setTimesOf_122 rfl rfl ?_
        refine x_get G 3 rfl rfl 1 (by decide) rfl (fun w h => .tail _ (iT_ok w h)) (.tail _ wd_142) rfl dT_setTimesOf_123 ?_
        refine x_getN G 2 rfl rfl 5 (by decide) rfl (fun w h => .tail _ (iK_ok w h)) nd_118 rfl dT_setTimesOf_126 ?_
        rw [e2, hs]
        refine x_iadd G dT_setTimesOf_129 ?_
        refine x_top (z := nI (cmA A (mvF hh ww) mo mi 8 g s c (k + 1))) ?_ ?_
        · rw [show cmA A (mvF hh ww) mo mi 8 g s c (k + 1) = max (cmA A (mvF hh ww) mo mi 8 g s c k) (wtA A (mvF hh ww) mo mi 8 g s (3 - c) (k + 2 + g)) + s from by rw [hcmd]; unfold cmA; rw [hf]; exact tim_up hfk, ← nI_add, ← nI_max (by first | omega | (have := hfile; have := htkle c k; omega)) (by omega)]
        refine x_istore_n G 3 dT_setTimesOf_130 rfl (by decide) ?_
        refine x_iinc G (nI (k + 1)) dT_setTimesOf_131 rfl (nI_1 k) (by decide) ?_
        refine x_goto G 14 dT_setTimesOf_134 (by decide) ?_
        exact ih (k + 1) (by omega) (by omega) σ2 hM2 hO2
      · have hAk : A k = c := by rw [show sst σ1 (16 + c) k (nI (cmA A (mvF hh ww) mo mi 8 g s c k)) 10 k = σ1 10 k from sst_q (by omega), h10] at h50; exact (aI_eq hc4).mp h50
        have htk := htkle c k
        have hdu : duA A (mvF hh ww) mo mi c k = tkA (mvF hh ww) mo mi c k := by simp [duA, hAk]
        have hen : enA A (mvF hh ww) mo mi g s k = cmA A (mvF hh ww) mo mi 8 g s c k + tkA (mvF hh ww) mo mi c k := by unfold enA; rw [hAk]
        have hfl2 := hfile (fun b => decide ((c + 1 ≤ A b ∧ A b < 4) ∨ (A b = c ∧ b < k))) (fun b q => by simp at q; omega)
        refine x_aload_n G 0 dT_setTimesOf_53 rfl rfl ?_
        refine x_get G 3 rfl rfl 3 (by decide) rfl (fun w h => .tail _ (iT_ok w h)) (.tail _ wd_145) rfl dT_setTimesOf_54 ?_
        refine x_iload G dT_setTimesOf_57 rfl ?_
        refine x_iload_n G 3 dT_setTimesOf_59 rfl rfl ?_
        refine x_iastN G 11 0 rfl rfl warr_11 (by omega) (by decide) dT_setTimesOf_60 ?_
        refine x_iload_n G 3 dT_setTimesOf_61 rfl rfl ?_
        refine x_aload_n G 0 dT_setTimesOf_62 rfl rfl ?_
        refine x_get G 3 rfl rfl 1 (by decide) rfl (fun w h => .tail _ (iT_ok w h)) (.tail _ wd_142) rfl dT_setTimesOf_63 ?_
        refine x_iload_n G 1 dT_setTimesOf_66 rfl rfl ?_
        refine x_aload_n G 0 dT_setTimesOf_67 rfl rfl ?_
        refine x_get G 3 rfl rfl 0 (by decide) rfl (fun w h => .tail _ (iT_ok w h)) (.tail _ wd_141) rfl dT_setTimesOf_68 ?_
        refine x_iload G dT_setTimesOf_71 rfl ?_
        refine x_call0VN1i G (cB_movesOf (σ := sst (sst σ1 (16 + c) k (nI (cmA A (mvF hh ww) mo mi 8 g s c k))) 11 k (nI (cmA A (mvF hh ww) mo mi 8 g s c k))) (n := n) (by rw [sst_q (by omega), sst_q (by omega)]; exact hB1.2.1) hn8 (by omega)) 1 rfl rfl (cVN G.2.2.2.2.1 G.2.2.2.2.2.2.1 nd_303 wd_256 wd_2 wd_49 wd_257 (by decide +kernel) ⟨(Nat.le_of_ble_eq_true rfl), (Nat.le_of_ble_eq_true rfl)⟩) dT_setTimesOf_73 (Nat.le_of_ble_eq_true rfl) ⟨Nat.zero_le _, Nat.zero_le _⟩ (fun r73 e73 => ?_)
        refine x_top (z := nI (mvF hh ww k)) (by rw [e73, ← hB1.moves k, sst_q (by omega), sst_q (by omega), sst_q (by omega), sst_q (by omega)]) ?_
        refine x_call0VN2i G (cK_timeFor (hK1.of (by rw [sst_ne (by omega), sst_ne (by omega)]) (by rw [sst_ne (by omega), sst_ne (by omega)]) (by rw [sst_ne (by omega), sst_ne (by omega)]) (by rw [sst_ne (by omega), sst_ne (by omega)])) hcC (by have := hmv k; omega)) 2 rfl rfl (cVN G.2.2.2.2.1 G.2.2.2.2.2.2.1 nd_304 wd_306 wd_13 wd_50 wd_307 (by decide +kernel) ⟨(Nat.le_of_ble_eq_true rfl), (Nat.le_of_ble_eq_true rfl)⟩) dT_setTimesOf_76 (Nat.le_of_ble_eq_true rfl) ⟨Nat.zero_le _, Nat.zero_le _⟩ (fun r76 e76 => ?_)
        subst e76
        refine x_iadd G dT_setTimesOf_79 ?_
        refine x_top (z := nI (enA A (mvF hh ww) mo mi g s k)) (by rw [hen]; exact nI_add _ _) ?_
        refine x_istore_n G 3 dT_setTimesOf_80 rfl (by decide) ?_
        refine x_aload_n G 0 dT_setTimesOf_81 rfl rfl ?_
        refine x_get G 3 rfl rfl 4 (by decide) rfl (fun w h => .tail _ (iT_ok w h)) (.tail _ wd_146) rfl dT_setTimesOf_82 ?_
        refine x_iload G dT_setTimesOf_85 rfl ?_
        refine x_iload_n G 3 dT_setTimesOf_87 rfl rfl ?_
        refine x_iastN G 12 0 rfl rfl warr_12 (by omega) (by decide) dT_setTimesOf_88 ?_
        refine x_aload_n G 0 dT_setTimesOf_89 rfl rfl ?_
        refine x_aload_n G 0 dT_setTimesOf_90 rfl rfl ?_
        refine x_get G 3 rfl rfl 10 (by decide) rfl (fun w h => .tail _ (iT_ok w h)) (.tail _ wd_153) rfl dT_setTimesOf_91 ?_
        refine x_iload_n G 3 dT_setTimesOf_94 rfl rfl ?_
        refine x_mmax G (.tail _ wd_302) (.tail _ wd_101) (.tail _ wd_51) (.tail _ wd_102) ⟨(Nat.le_of_ble_eq_true rfl), (Nat.le_of_ble_eq_true rfl), Nat.zero_le _, Nat.zero_le _⟩ dT_setTimesOf_95 ?_
        refine x_top (z := nI (max (fiG (fun b => decide ((c + 1 ≤ A b ∧ A b < 4) ∨ (A b = c ∧ b < k))) (enA A (mvF hh ww) mo mi g s) 8) (enA A (mvF hh ww) mo mi g s k))) (by rw [← nI_max (by omega) (by omega)]; rw [show sst (sst (sst σ1 (16 + c) k (nI (cmA A (mvF hh ww) mo mi 8 g s c k))) 11 k (nI (cmA A (mvF hh ww) mo mi 8 g s c k))) 12 k (nI (enA A (mvF hh ww) mo mi g s k)) 3 10 = σ1 3 10 by rw [sst_q (by omega), sst_q (by omega), sst_q (by omega)], hM.2.2.2]) ?_
        refine x_put G 3 rfl rfl 10 (by decide) (Nat.le_of_ble_eq_true rfl) wput_3_10 (fun w h => .tail _ (iT_ok w h)) tT_ok nT_ok (.tail _ wd_153) rfl rfl (tT_ok 10 (by decide)) rfl rfl dT_setTimesOf_98 ?_
        have hM2 : TMk (sst (sst (sst (sst σ1 (16 + c) k (nI (cmA A (mvF hh ww) mo mi 8 g s c k))) 11 k (nI (cmA A (mvF hh ww) mo mi 8 g s c k))) 12 k (nI (enA A (mvF hh ww) mo mi g s k))) 3 10 (nI (max (fiG (fun b => decide ((c + 1 ≤ A b ∧ A b < 4) ∨ (A b = c ∧ b < k))) (enA A (mvF hh ww) mo mi g s) 8) (enA A (mvF hh ww) mo mi g s k)))) A (mvF hh ww) mo mi g s c f (k + 1) := hM.step (by omega) hc4 (by rw [sst_ne (by omega), sst_ne (by omega), sst_ne (by omega), sst_up]) (fun d hd1 hd2 => by rw [sst_ne (by omega), sst_ne (by omega), sst_ne (by omega), sst_ne (by omega)]) (fun q => absurd hAk q) (fun _ => ⟨by rw [sst_ne (by omega), sst_ne (by omega), sst_up, sst_ne (by omega)], by rw [sst_ne (by omega), sst_up, sst_ne (by omega), sst_ne (by omega)], sst_same⟩)
        have hO2 : TO σ (sst (sst (sst (sst σ1 (16 + c) k (nI (cmA A (mvF hh ww) mo mi 8 g s c k))) 11 k (nI (cmA A (mvF hh ww) mo mi 8 g s c k))) 12 k (nI (enA A (mvF hh ww) mo mi g s k))) 3 10 (nI (max (fiG (fun b => decide ((c + 1 ≤ A b ∧ A b < 4) ∨ (A b = c ∧ b < k))) (enA A (mvF hh ww) mo mi g s) 8) (enA A (mvF hh ww) mo mi g s k)))) := hO.tr ⟨by rw [sst_i (by omega), sst_q (by omega), sst_q (by omega), sst_q (by omega)], by rw [sst_i (by omega), sst_q (by omega), sst_q (by omega), sst_q (by omega)], fun q q3 q11 q12 q16 => by rw [sst_ne q3, sst_ne q12, sst_ne q11, sst_ne (q16 c hc4)]⟩
        have e2 : (sst (sst (sst (sst σ1 (16 + c) k (nI (cmA A (mvF hh ww) mo mi 8 g s c k))) 11 k (nI (cmA A (mvF hh ww) mo mi 8 g s c k))) 12 k (nI (enA A (mvF hh ww) mo mi g s k))) 3 10 (nI (max (fiG (fun b => decide ((c + 1 ≤ A b ∧ A b < 4) ∨ (A b = c ∧ b < k))) (enA A (mvF hh ww) mo mi g s) 8) (enA A (mvF hh ww) mo mi g s k)))) 2 = σ 2 := hO2.o (by omega)
        generalize sst (sst (sst (sst σ1 (16 + c) k (nI (cmA A (mvF hh ww) mo mi 8 g s c k))) 11 k (nI (cmA A (mvF hh ww) mo mi 8 g s c k))) 12 k (nI (enA A (mvF hh ww) mo mi g s k))) 3 10 (nI (max (fiG (fun b => decide ((c + 1 ≤ A b ∧ A b < 4) ∨ (A b = c ∧ b < k))) (enA A (mvF hh ww) mo mi g s) 8) (enA A (mvF hh ww) mo mi g s k))) = σ2 at hM2 hO2 e2 ⊢
        have hcmd : enA A (mvF hh ww) mo mi g s k = cmA A (mvF hh ww) mo mi 8 g s c k + duA A (mvF hh ww) mo mi c k := by rw [hdu]; exact hen
        refine x_iload_n G 3 dT_setTimesOf_101 rfl rfl ?_
        refine x_aload_n G 0 dT_setTimesOf_102 rfl rfl ?_
        refine x_iload_n G 2 dT_setTimesOf_103 rfl rfl ?_
        refine x_iload G dT_setTimesOf_104 rfl ?_
        refine x_iconst G (2) dT_setTimesOf_106 (by decide) ?_
        refine x_iadd G dT_setTimesOf_107 ?_
        refine x_aload_n G 0 dT_setTimesOf_108 rfl rfl ?_
        refine x_get G 3 rfl rfl 1 (by decide) rfl (fun w h => .tail _ (iT_ok w h)) (.tail _ wd_142) rfl dT_setTimesOf_109 ?_
        refine x_getN G 2 rfl rfl 1 (by decide) rfl (fun w h => .tail _ (iK_ok w h)) nd_112 rfl dT_setTimesOf_112 ?_
        refine x_iadd G dT_setTimesOf_115 ?_
        refine x_top (z := nI (k + 2 + g)) (by rw [e2, hg]; show nI k + nI 2 + nI g = _; rw [nI_add, nI_add]) ?_
        have hwc : xCi0 l D vCl (tyC cI cZ cJ) nwW (wC ad cI cZ cJ σ2) yT_whenCame (.code yT_whenCame bT_whenCame 3 (some .int) :: bigW) 1 [.ref (ad 3), .int (oI (nxA A (3 - c))), .int (nI (k + 2 + g))] (fun r => k < l' → r = nI (wtA A (mvF hh ww) mo mi 8 g s (3 - c) (k + 2 + g))) := by
          cases hnx : nxA A (3 - c) with
          | none => exact cT_whenCame0.mono (fun r hr _ => by rw [hr, wtA_none hnx]; rfl)
          | some d =>
            obtain ⟨d1, d2, ⟨fd, d3⟩, d4⟩ := nxA_some (by omega) hnx
            obtain ⟨ld, d5, d6, d7, d8⟩ := lst_of_fst d3
            have hap := apart_next hok hc4 hf hnx
            rw [hlc, d5] at hap
            have hap : l' + g < ld := hap
            have hdC : d < C := by have := hAC ld (by rw [d8]; exact d2); rw [d8] at this; exact this
            refine (cT_whenCame (C := C) (f := fd) (l' := ld) (by rw [e2]; exact hC) hC4 hdC (by rw [hO2.o (by omega), (hTS.2 d d2).1, d3]; rfl) (by rw [hO2.o (by omega), (hTS.2 d d2).2, d5]; rfl) (fst_lt d3) d7 (by omega)).mono (fun r hr hkl => ?_)
            rw [hr, wtA_some (by omega) hnx]
            by_cases hq : k + 2 + g ≤ fd
            · rw [if_pos (Or.inl hq)]; unfold cmA; rw [d3, Option.getD_some, tim_low hq]; rfl
            · rw [if_neg (by omega)]; exact hM2.2.1 d fd ld (by omega) d2 d3 d5 _ (by omega) (by omega)
        refine x_call0V2i G hwc 3 rfl rfl (cV G.2.2.2.2.1 wd_311 wd_313 wd_14 wd_53 wd_314 (by decide +kernel) ⟨(Nat.le_of_ble_eq_true rfl), (Nat.le_of_ble_eq_true rfl)⟩) dT_setTimesOf_116 (Nat.le_of_ble_eq_true rfl) ⟨Nat.zero_le _, Nat.zero_le _⟩ (fun r116 e116 => ?_)
        rw [e116 (by omega)]
        have hwle := wtA_le (A := A) (mv := mvF hh ww) (n := 8) hmv (fun c _ => (hbd c).2.2.2) (fun c _ => (hbd c).1) hg3 hs20 (3 - c) (by omega) (k + 2 + g)
        refine x_mmax G (.tail _ wd_302) (.tail _ wd_101) (.tail _ wd_51) (.tail _ wd_102) ⟨(Nat.le_of_ble_eq_true rfl), (Nat.le_of_ble_eq_true rfl), Nat.zero_le _, Nat.zero_le _⟩ dT_setTimesOf_119 ?_
        refine x_aload_n G 0 dT_setTimesOf_122 rfl rfl ?_
        refine x_get G 3 rfl rfl 1 (by decide) rfl (fun w h => .tail _ (iT_ok w h)) (.tail _ wd_142) rfl dT_setTimesOf_123 ?_
        refine x_getN G 2 rfl rfl 5 (by decide) rfl (fun w h => .tail _ (iK_ok w h)) nd_118 rfl dT_setTimesOf_126 ?_
        rw [e2, hs]
        refine x_iadd G dT_setTimesOf_129 ?_
        refine x_top (z := nI (cmA A (mvF hh ww) mo mi 8 g s c (k + 1))) ?_ ?_
        · rw [show cmA A (mvF hh ww) mo mi 8 g s c (k + 1) = max (enA A (mvF hh ww) mo mi g s k) (wtA A (mvF hh ww) mo mi 8 g s (3 - c) (k + 2 + g)) + s from by rw [hcmd]; unfold cmA; rw [hf]; exact tim_up hfk, ← nI_add, ← nI_max (by first | omega | (have := hfile; have := htkle c k; omega)) (by omega)]
        refine x_istore_n G 3 dT_setTimesOf_130 rfl (by decide) ?_
        refine x_iinc G (nI (k + 1)) dT_setTimesOf_131 rfl (nI_1 k) (by decide) ?_
        refine x_goto G 14 dT_setTimesOf_134 (by decide) ?_
        exact ih (k + 1) (by omega) (by omega) σ2 hM2 hO2
  refine x_iconst G (0) dT_setTimesOf_0 (by decide) ?_
  refine x_istore_n G 3 dT_setTimesOf_1 rfl (by decide) ?_
  refine x_iconst G (0) dT_setTimesOf_2 (by decide) ?_
  refine x_aload_n G 0 dT_setTimesOf_3 rfl rfl ?_
  refine x_get G 3 rfl rfl 5 (by decide) rfl (fun w h => .tail _ (iT_ok w h)) (.tail _ wd_147) rfl dT_setTimesOf_4 ?_
  refine x_iload_n G 1 dT_setTimesOf_7 rfl rfl ?_
  refine x_ialdN G 13 0 rfl rfl (by omega) (by decide) dT_setTimesOf_8 ?_
  refine x_mmax G (.tail _ wd_302) (.tail _ wd_101) (.tail _ wd_51) (.tail _ wd_102) ⟨(Nat.le_of_ble_eq_true rfl), (Nat.le_of_ble_eq_true rfl), Nat.zero_le _, Nat.zero_le _⟩ dT_setTimesOf_9 ?_
  refine x_top (z := nI f) (by rw [(hTS.2 c hc4).1, hf]; show (if nI 0 < nI f then nI f else nI 0) = _; rw [nI_max (by omega) (by omega), Nat.zero_max]) ?_
  refine x_istore G dT_setTimesOf_12 (by decide) ?_
  exact x_eq rfl (by rw [show cmA A (mvF hh ww) mo mi 8 g s c f = 0 from by unfold cmA; rw [hf]; exact tim_low (Nat.le_refl f)]; rfl) rfl rfl (loop (l' - f) f (by omega) (Nat.le_refl f) σ hM0 TO.rf)
