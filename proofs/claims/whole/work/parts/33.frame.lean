/-! WORLDS SIDE BY SIDE: a contract over one holds beside others -/
theorem wP_iff {D : va_G} {cl : List vw_C} {ws : va_W} {H : Heap} : va_P D cl ws H ↔ ∀ q ∈ ws, va_at D cl q H := by
  constructor
  · intro h q hq
    obtain ⟨k, hk⟩ := List.mem_iff_getElem?.mp hq
    exact h k q hk
  · intro h k q hq
    exact h q (List.mem_of_getElem? hq)
theorem wD_iff {A : Nat → Prop} {ws : va_W} : va_D A ws ↔ (ws.map (fun q => q.1)).Nodup ∧ ∀ q ∈ ws, A q.1 := by
  constructor
  · rintro ⟨h1, h2⟩
    refine ⟨?_, fun q hq => ?_⟩
    · unfold List.Nodup
      rw [List.pairwise_iff_getElem]
      intro i j hi hj hij
      rw [List.length_map] at hi hj
      rw [List.getElem_map, List.getElem_map]
      intro he
      have := h1 i j _ _ (List.getElem?_eq_getElem hi) (List.getElem?_eq_getElem hj) he
      omega
    · obtain ⟨k, hk⟩ := List.mem_iff_getElem?.mp hq
      exact h2 k q hk
  · rintro ⟨h1, h2⟩
    refine ⟨fun i j p q hi hj he => ?_, fun k q hq => h2 q (List.mem_of_getElem? hq)⟩
    unfold List.Nodup at h1
    rw [List.pairwise_iff_getElem] at h1
    obtain ⟨hi', ei⟩ := List.getElem?_eq_some_iff.mp hi
    obtain ⟨hj', ej⟩ := List.getElem?_eq_some_iff.mp hj
    rcases Nat.lt_trichotomy i j with z | z | z
    · exact absurd (by rw [List.getElem_map, List.getElem_map, ei, ej]; exact he) (h1 i j (by rw [List.length_map]; exact hi') (by rw [List.length_map]; exact hj') z)
    · exact z
    · exact absurd (by rw [List.getElem_map, List.getElem_map, ei, ej]; exact he.symm) (h1 j i (by rw [List.length_map]; exact hj') (by rw [List.length_map]; exact hi') z)
theorem va_at.keep {D : va_G} {cl : List vw_C} {q : Nat × va_E} {H H1 : Heap} (h : va_at D cl q H) (e : H1[q.1]? = H[q.1]?) : va_at D cl q H1 := by
  have hP : va_P D cl [q] H := wP_iff.mpr (fun x hx => by rw [List.mem_singleton.mp hx]; exact h)
  have := hP.kept (H1 := H1) (fun k x hx => by
    have hm := List.mem_of_getElem? hx
    rw [List.mem_singleton.mp hm]; exact e)
  exact wP_iff.mp this q (List.mem_singleton.mpr rfl)
theorem fr_sub {L w0 R : va_W} {D : va_G} {cl : List vw_C} {A : Nat → Prop} {H : Heap} (hP : va_P D cl (L ++ (w0 ++ R)) H) (hD : va_D A (L ++ (w0 ++ R))) : va_P D cl w0 H ∧ va_D A w0 := by
  rw [wP_iff] at hP
  rw [wD_iff] at hD ⊢
  refine ⟨wP_iff.mpr (fun q hq => hP q (by simp [hq])), ?_, fun q hq => hD.2 q (by simp [hq])⟩
  have h := hD.1
  rw [List.map_append, List.map_append, List.nodup_append, List.nodup_append] at h
  exact h.2.1.1
theorem fr_put {L w0 w1 R : va_W} {D : va_G} {cl : List vw_C} {A : Nat → Prop} {H H1 : Heap} (hP : va_P D cl (L ++ (w0 ++ R)) H) (hD : va_D A (L ++ (w0 ++ R))) (hk : ∀ q : Nat, q < H.size → ¬ va_A w0 H.size q → H1[q]? = H[q]?) (hP1 : va_P D cl w1 H1) (hD1 : va_D (va_A w0 H.size) w1) (hF : ∀ q, va_A w0 H.size q → A q) : va_P D cl (L ++ (w1 ++ R)) H1 ∧ va_D A (L ++ (w1 ++ R)) := by
  rw [wP_iff] at hP hP1 ⊢
  rw [wD_iff] at hD hD1 ⊢
  have hn := hD.1
  rw [List.map_append, List.map_append, List.nodup_append, List.nodup_append] at hn
  obtain ⟨n1, ⟨n2, n3, n4⟩, n5⟩ := hn
  have inA : ∀ x, va_A w0 H.size x → x < H.size → x ∈ w0.map (fun q => q.1) := by
    rintro x (⟨k, e, hk'⟩ | hx) hlt
    · exact List.mem_map.mpr ⟨(x, e), List.mem_of_getElem? hk', rfl⟩
    · omega
  have nL : ∀ q ∈ L, ¬ va_A w0 H.size q.1 := fun q hq h => by
    have hm := inA q.1 h ((hP q (by simp [hq])).lt)
    exact n5 q.1 (List.mem_map.mpr ⟨q, hq, rfl⟩) q.1 (List.mem_append_left _ hm) rfl
  have nR : ∀ q ∈ R, ¬ va_A w0 H.size q.1 := fun q hq h => by
    have hm := inA q.1 h ((hP q (by simp [hq])).lt)
    exact n4 q.1 hm q.1 (List.mem_map.mpr ⟨q, hq, rfl⟩) rfl
  refine ⟨fun q hq => ?_, ?_, fun q hq => ?_⟩
  · rcases List.mem_append.mp hq with h | h
    · exact (hP q (by simp [h])).keep (hk q.1 ((hP q (by simp [h])).lt) (nL q h))
    · rcases List.mem_append.mp h with h | h
      · exact hP1 q h
      · exact (hP q (by simp [h])).keep (hk q.1 ((hP q (by simp [h])).lt) (nR q h))
  · rw [List.map_append, List.map_append, List.nodup_append, List.nodup_append]
    refine ⟨n1, ⟨hD1.1, n3, ?_⟩, ?_⟩
    · intro a ha b hb he
      obtain ⟨x, hx, rfl⟩ := List.mem_map.mp ha
      obtain ⟨y, hy, rfl⟩ := List.mem_map.mp hb
      exact nR y hy (he ▸ hD1.2 x hx)
    · intro a ha b hb he
      obtain ⟨x, hx, rfl⟩ := List.mem_map.mp ha
      rcases List.mem_append.mp hb with h | h
      · obtain ⟨y, hy, rfl⟩ := List.mem_map.mp h
        exact nL x hx (he ▸ hD1.2 y hy)
      · exact n5 x.1 ha b (List.mem_append_right _ h) he
  · rcases List.mem_append.mp hq with h | h
    · exact hD.2 q (by simp [h])
    · rcases List.mem_append.mp h with h | h
      · exact hF _ (hD1.2 q h)
      · exact hD.2 q (by simp [h])
theorem fr_A {L w0 R : va_W} {sz q : Nat} (h : va_A w0 sz q) : va_A (L ++ (w0 ++ R)) sz q := by
  rcases h with ⟨k, e, hk⟩ | h
  · have hm : (q, e) ∈ L ++ (w0 ++ R) := by simp [List.mem_of_getElem? hk]
    obtain ⟨j, hj⟩ := List.mem_iff_getElem?.mp hm
    exact Or.inl ⟨j, e, hj⟩
  · exact Or.inr h
theorem Met.map {l : Launch} {y : MethodName} {ws : List Cond} {rm : Room} {Pc Pc' : Array Value → State → Prop} {Qc Qc' : Array Value → State → Outcome → State → Prop} {mc ms : Nat} {free free' : Addr → Prop} (h : Met l y ws rm Pc Qc mc ms free) (hp : ∀ a U, Pc' a U → Pc a U) (hq : ∀ a st o t, Pc' a st → Qc a st o t → Qc' a st o t) (hf : ∀ q, free q → free' q) : Met l y ws rm Pc' Qc' mc ms free' := by
  intro p e ha hc hk s m args below hfr happ hP _
  obtain ⟨n, o, h1, h2, h3, h4, L, h5, h6⟩ := h p e ha hc hk s m args below hfr happ (hp _ _ hP) trivial
  exact ⟨n, o, h1, h2, h3, hq _ _ _ _ hP h4, L, h5, fun q hq' => hf _ (h6 q hq')⟩
theorem va_K.pre {D : va_G} {cl : List vw_C} {t1 t2 : List (ClassId × FieldType)} {U : State} (h : va_K D cl (t1 ++ t2) U) : va_K D cl t1 U := ⟨h.1, fun k q hq => h.2 k q (by rw [List.getElem?_append_left (List.getElem?_eq_some_iff.mp hq).1]; exact hq)⟩
theorem va_F.wide {A B : Nat → Prop} {st t : State} (h : va_F A st t) (hAB : ∀ q, A q → B q) : va_F B st t := ⟨h.1, fun q h1 h2 => h.2 q h1 (fun z => h2 (hAB q z))⟩
section FR
variable {l : Launch} {D : va_G} {cl : List vw_C} {tys ty2 : List (ClassId × FieldType)} {NW : List Cond} {w : xSg → va_W} {L R : va_W} {y : MethodName} {Ts : List Cond} {d : Nat} {as : List Value} {σ : xSg}
theorem xCi.frame {post : Int32 → xSg → Prop} (h : xCi l D cl tys NW w y Ts d as σ post) : xCi l D cl (tys ++ ty2) NW (fun u => L ++ (w u ++ R)) y Ts d as σ post := by
  intro sz
  refine (h sz).map (fun a U q => ?_) (fun a st o t q hq => ?_) (fun q hq => fr_A hq)
  · obtain ⟨q0, q1, qP, qK, qN, qD⟩ := q
    obtain ⟨h1, h2⟩ := fr_sub qP qD
    exact ⟨q0, q1, h1, qK.pre, qN, h2⟩
  · obtain ⟨q0, q1, qP, qK, qN, qD⟩ := q
    obtain ⟨⟨r, u, e1, e2, e3, e4⟩, e5⟩ := hq
    subst q1
    obtain ⟨f1, f2⟩ := fr_put (A := va_A (L ++ (w σ ++ R)) st.heap.size) qP (qD.self (sz := st.heap.size)) e5.2 e3 e4 (fun q h => fr_A h)
    exact ⟨⟨r, u, e1, e2, f1, f2⟩, e5.wide (fun q h => fr_A h)⟩
theorem xCi0.frame {ws : va_W} {post : Int32 → Prop} (h : xCi0 l D cl tys NW ws y Ts d as post) : xCi0 l D cl (tys ++ ty2) NW (L ++ (ws ++ R)) y Ts d as post := by
  refine Met.map h (fun a U q => ?_) (fun a st o t q hq => hq) (fun q hq => hq)
  obtain ⟨q0, qP, qK, qN, qD⟩ := q
  obtain ⟨h1, h2⟩ := fr_sub qP qD
  exact ⟨q0, h1, qK.pre, qN, h2⟩
theorem xCT.frame {ws : va_W} {X : String} (h : xCT l D cl tys NW ws y Ts d as X) : xCT l D cl (tys ++ ty2) NW (L ++ (ws ++ R)) y Ts d as X := by
  intro sz p e ha hc hk s m args below hfr happ hP hK
  obtain ⟨q0, q1, qP, qK, qN, qD, qT⟩ := hP
  obtain ⟨h1, h2⟩ := fr_sub qP qD
  exact h sz p e ha hc hk s m args below hfr happ ⟨q0, q1, h1, qK.pre, qN, h2, ⟨qT.1, qT.2.1.narrow (fun q h => fr_A h), qT.2.2.1.narrow (fun q h => fr_A h), qT.2.2.2⟩⟩ hK
end FR

