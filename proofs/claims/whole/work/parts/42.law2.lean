/-! THE LAW'S START: both are made alike, and the cell for an answer -/
theorem rel0 {v1 v2 : Int32} : REL (s0C (hldI v1 1 4) (hldI v2 0 3)) (s0M (hldI v1 1 4) (hldI v2 0 3)) := by
  obtain ⟨C, eC, hC1, hC4⟩ := hld_ex (v := v1) (a := 1) (b := 4) (by decide) (by decide)
  obtain ⟨g, eg, hg0, hg3⟩ := hld_ex (v := v2) (a := 0) (b := 3) (by decide) (by decide)
  have eC' : hldI v1 1 4 = nI C := eC
  have eg' : hldI v2 0 3 = nI g := eg
  rw [eC', eg']
  refine ⟨0, C, g, 1, fun _ => 0, fun _ => 0, fun _ => 1, fun _ => 1, fun _ => false, false, fun _ => 9, ⟨by omega, ?_, fun b hb => absurd hb (by omega), fun b => ⟨Nat.zero_le _, Nat.zero_le _⟩, fun b _ => ⟨rfl, rfl⟩⟩, ⟨hC1, hC4, rfl, fun c hc => ⟨?_, ?_, ?_⟩, fun c => ⟨Nat.le_of_ble_eq_true rfl, Nat.le_of_ble_eq_true rfl, Nat.le_of_ble_eq_true rfl, Nat.le_of_ble_eq_true rfl⟩⟩, ⟨hg3, by omega, rfl, ?_⟩, ?_, ⟨by omega, hC1, hC4, hg3, by omega, ?_, rfl, rfl, ?_, fun b hb => absurd hb (by omega), fun c hc => ?_, fun b => ⟨Nat.zero_le _, Nat.zero_le _⟩, fun b _ => ⟨rfl, rfl⟩, fun c => ⟨Nat.le_of_ble_eq_true rfl, Nat.le_of_ble_eq_true rfl, Nat.le_of_ble_eq_true rfl, Nat.le_of_ble_eq_true rfl⟩⟩, ?_, fun h => (by cases h), fun _ => rfl⟩
  · show (0 : Int32) = nI 0; decide
  · show (if c < 4 then (1 : Int32) else 0) = nI 1; rw [if_pos hc]; decide
  · show (if c < 4 then (1 : Int32) else 0) = nI 1; rw [if_pos hc]; decide
  · exact (bI_f Bool.false_ne_true).symm
  · show (1 : Int32) = nI 1; decide
  · exact (bI_f Bool.false_ne_true).symm
  · show (0 : Int32) = nI 0; decide
  · show (1 : Int32) = nI 1; decide
  · refine ⟨?_, ?_, (bI_f Bool.false_ne_true).symm⟩
    · show upd (upd (upd (upd (fun _ => (0 : Int32)) 0 1) 1 1) 2 1) 3 1 c = nI 1
      rcases (show c = 0 ∨ c = 1 ∨ c = 2 ∨ c = 3 by omega) with rfl | rfl | rfl | rfl <;> decide
    · show upd (upd (upd (upd (fun _ => (0 : Int32)) 0 1) 1 1) 2 1) 3 1 c = nI 1
      rcases (show c = 0 ∨ c = 1 ∨ c = 2 ∨ c = 3 by omega) with rfl | rfl | rfl | rfl <;> decide
  · exact (bI_f Bool.false_ne_true).symm
theorem oE0 {oa : Nat} {cL : ClassId} {x g : Int32} : ((oa, .inl (cL, 1, .inr (.inl (fun _ => 0)))) : Nat × va_E) = oE oa cL (s0C x g) := by
  have h : (fun j : Nat => if j = 0 then (s0C x g 25 0).toInt64 else 0) = fun _ => 0 := by
    funext j
    by_cases hj : j = 0
    · rw [if_pos hj]; show (0 : Int32).toInt64 = 0; decide
    · rw [if_neg hj]
  unfold oE
  rw [h]
section LS
variable {p : Program} {l : Launch} {e : Env} {s : State} {m : MethodId} {args : Array Value} {below : List Frame} {meth : Method} {c : Code} {cells slots : Nat} {Q : State → Prop} {D : va_G} {A : Nat → Prop} {c0 : Cond} {cI cZ cJ cL : ClassId} {ad am : Nat → Nat} {oa b L : Nat} {xs : Nat → Int32}
set_option maxHeartbeats 4000000 in
set_option maxRecDepth 100000 in
theorem law_start (G : xG p s m args c code 7 "CranePlanLaw" (c0 :: bigW) nwW D vCl (tyL cI cZ cJ cL) A) (hTH : xTH s s.heap A) (htr : l.stackTraces = false) (hX : va_X b L xs s s.heap) (hbl : b < s.heap.size) (hbA : ¬ A b) (hL : L ≤ 2050) (hend : ∀ (cells slots : Nat) (ws : va_W) (vs : List Value), cells ≤ 670315 → slots ≤ 7085125 → xJ p l e room_1 s m args below meth c (cells) (slots) Q D vCl A 7 (va_S A s.heap) (ws) (vs) 694 ([.int 1])) (hao : (Cond.arrayOver (.array .int)).before #[] s = true) : xJ p l e room_1 s m args below meth c (0) (0) Q D vCl A 7 (va_S A s.heap) ([]) ([.ref b, .null, .null, .null, .null, .null, .null]) 0 ([]) := by
  have hL' : L < 2 ^ 31 := by omega
  refine x_new G (ci := 4) (fun w h => .tail _ (iP_ok w h)) tP_ok (.tail _ wd_64) (.tail _ wd_65) (.tail _ wd_48) rfl (fs := [.null, .null, .null, .null, .int 0]) (fun j hj => by match j, hj with | 0, _ => rfl | 1, _ => rfl | 2, _ => rfl | 3, _ => rfl | 4, _ => rfl | k + 5, h => exact absurd (show k + 5 < 5 from h) (by omega)) (Nat.le_of_ble_eq_true rfl) (Nat.le_of_ble_eq_true rfl) dL_law_0 (fun o1 => ?_)
  refine x_eq (ws2 := [(o1, .inr (4, [.null, .null, .null, .null, .int 0]))]) rfl rfl rfl rfl ?_
  refine x_dup G dL_law_3 rfl ?_
  refine x_aload_n G 0 dL_law_4 rfl rfl ?_
  refine x_iconst G (nI 0) dL_law_5 (by decide) ?_
  refine x_cell G hX hbl hbA hL' (by decide) (cS G.2.2.2.2.1 wd_364 wd_365 wd_47 wd_366 (by decide +kernel) ⟨(Nat.le_of_ble_eq_true rfl), (Nat.le_of_ble_eq_true rfl)⟩) dL_law_6 (Nat.le_of_ble_eq_true rfl) ⟨(Nat.le_of_ble_eq_true rfl), (Nat.le_of_ble_eq_true rfl)⟩ ?_
  refine x_aload_n G 0 dL_law_9 rfl rfl ?_
  refine x_iconst G (nI 1) dL_law_10 (by decide) ?_
  refine x_cell G hX hbl hbA hL' (by decide) (cS G.2.2.2.2.1 wd_364 wd_365 wd_47 wd_366 (by decide +kernel) ⟨(Nat.le_of_ble_eq_true rfl), (Nat.le_of_ble_eq_true rfl)⟩) dL_law_11 (Nat.le_of_ble_eq_true rfl) ⟨(Nat.le_of_ble_eq_true rfl), (Nat.le_of_ble_eq_true rfl)⟩ ?_
  refine x_callI2 G hao [] [] (xCc.tys (ty2 := [(cL, .long)]) (cP_init (o0 := o1))) rfl (cIo G.2.2.2.2.1 wd_66 wd_67 wd_48 wd_68 rfl (by decide +kernel) ⟨(Nat.le_of_ble_eq_true rfl), (Nat.le_of_ble_eq_true rfl)⟩) dL_law_14 (Nat.le_of_ble_eq_true rfl) ⟨(Nat.le_of_ble_eq_true rfl), (Nat.le_of_ble_eq_true rfl)⟩ (fun ad hAd => ?_)
  subst hAd
  refine x_eq (ws2 := wC ad cI cZ cJ (s0C (hldI (if 0 < L then xs 0 else 0) 1 4) (hldI (if 1 < L then xs 1 else 0) 0 3))) rfl rfl rfl rfl ?_
  refine x_astore_n G 1 dL_law_17 rfl (by decide) ?_
  refine x_eq (vs2 := [.ref b, .ref (ad 0), .null, .null, .null, .null, .null]) rfl rfl rfl rfl ?_
  refine x_new G (ci := 5) (fun w h => .tail _ (iM_ok w h)) tM_ok (.tail _ wd_589) (.tail _ wd_590) (.tail _ wd_55) rfl (fs := [.int 0, .int 0, .int 0, .int 0, .null, .null, .null, .null, .null, .int 0, .int 0, .null, .null, .null, .null, .null]) (fun j hj => by match j, hj with | 0, _ => rfl | 1, _ => rfl | 2, _ => rfl | 3, _ => rfl | 4, _ => rfl | 5, _ => rfl | 6, _ => rfl | 7, _ => rfl | 8, _ => rfl | 9, _ => rfl | 10, _ => rfl | 11, _ => rfl | 12, _ => rfl | 13, _ => rfl | 14, _ => rfl | 15, _ => rfl | k + 16, h => exact absurd (show k + 16 < 16 from h) (by omega)) (Nat.le_of_ble_eq_true rfl) (Nat.le_of_ble_eq_true rfl) dL_law_18 (fun o2 => ?_)
  refine x_dup G dL_law_21 rfl ?_
  refine x_aload_n G 0 dL_law_22 rfl rfl ?_
  refine x_iconst G (nI 0) dL_law_23 (by decide) ?_
  refine x_cell G hX hbl hbA hL' (by decide) (cS G.2.2.2.2.1 wd_364 wd_365 wd_47 wd_366 (by decide +kernel) ⟨(Nat.le_of_ble_eq_true rfl), (Nat.le_of_ble_eq_true rfl)⟩) dL_law_24 (Nat.le_of_ble_eq_true rfl) ⟨(Nat.le_of_ble_eq_true rfl), (Nat.le_of_ble_eq_true rfl)⟩ ?_
  refine x_aload_n G 0 dL_law_27 rfl rfl ?_
  refine x_iconst G (nI 1) dL_law_28 (by decide) ?_
  refine x_cell G hX hbl hbA hL' (by decide) (cS G.2.2.2.2.1 wd_364 wd_365 wd_47 wd_366 (by decide +kernel) ⟨(Nat.le_of_ble_eq_true rfl), (Nat.le_of_ble_eq_true rfl)⟩) dL_law_29 (Nat.le_of_ble_eq_true rfl) ⟨(Nat.le_of_ble_eq_true rfl), (Nat.le_of_ble_eq_true rfl)⟩ ?_
  refine x_callI2 G hao (wC ad cI cZ cJ (s0C (hldI (if 0 < L then xs 0 else 0) 1 4) (hldI (if 1 < L then xs 1 else 0) 0 3))) [] (xCc.tys (ty2 := [(cL, .long)]) (cM_init (o0 := o2))) rfl (cIo G.2.2.2.2.1 wd_591 wd_592 wd_55 wd_593 rfl (by decide +kernel) ⟨(Nat.le_of_ble_eq_true rfl), (Nat.le_of_ble_eq_true rfl)⟩) dL_law_32 (Nat.le_of_ble_eq_true rfl) ⟨(Nat.le_of_ble_eq_true rfl), (Nat.le_of_ble_eq_true rfl)⟩ (fun am hAm => ?_)
  subst hAm
  refine x_astore_n G 2 dL_law_35 rfl (by decide) ?_
  refine x_iconst G 1 dL_law_36 (by decide) ?_
  refine x_newa G (atype := .long) 3 rfl (by intro C h; cases h) (.tail _ wd_748) rfl 1 (a0 := (1, .inr (.inl (fun _ => 0)))) (fun _ => rfl) (by decide) (by decide) (by decide) (Nat.le_of_ble_eq_true rfl) (Nat.le_of_ble_eq_true rfl) dL_law_37 (fun oa => ?_)
  refine x_eq (ws2 := wC ad cI cZ cJ (s0C (hldI (if 0 < L then xs 0 else 0) 1 4) (hldI (if 1 < L then xs 1 else 0) 0 3)) ++ (wM am cI cZ cJ (s0M (hldI (if 0 < L then xs 0 else 0) 1 4) (hldI (if 1 < L then xs 1 else 0) 0 3)) ++ [oE oa cL (s0C (hldI (if 0 < L then xs 0 else 0) 1 4) (hldI (if 1 < L then xs 1 else 0) 0 3))])) (by rw [← oE0]; rfl) rfl rfl rfl ?_
  refine x_perm (ws2 := wL ad am oa cI cZ cJ cL (s0C (hldI (if 0 < L then xs 0 else 0) 1 4) (hldI (if 1 < L then xs 1 else 0) 0 3)) (s0M (hldI (if 0 < L then xs 0 else 0) 1 4) (hldI (if 1 < L then xs 1 else 0) 0 3))) (by unfold wL wH; rw [List.append_assoc]; exact List.Perm.append_left _ List.perm_append_comm) ?_
  refine x_astore_n G 3 dL_law_39 rfl (by decide) ?_
  refine x_iconst G (nI 2) dL_law_40 (by decide) ?_
  refine x_istore G dL_law_41 (by decide) ?_
  refine x_eq (vs2 := [.ref b, .ref (ad 0), .ref (am 0), .ref oa, .int (nI 2), .null, .null]) rfl rfl rfl rfl ?_
  exact law_loop G hTH htr hX hbl hbA hL hend (L + 4) 2 (by omega) _ _ _ _ .null .null rel0 (by omega) (Nat.le_of_ble_eq_true rfl) (Nat.le_of_ble_eq_true rfl)
end LS
