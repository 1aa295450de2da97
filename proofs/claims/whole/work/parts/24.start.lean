/-- the numbers at the beginning -/
def sp_0 : sp_S := fun r j => if r = (0, 0, 0) then (if j = 1 then -1 else if j = 5 then -1 else if j = 6 then -1 else if j = 7 then -1 else 0) else 0
theorem sp_I_0 : sp_I 0 (fun _ => 0) sp_0 := by
  refine ⟨by decide, rfl, Or.inl rfl, fun t _ => ?_, fun i hi => absurd hi (Nat.not_lt_zero i), ⟨by decide, by decide⟩, fun i t j => ?_, fun i t j _ => rfl, fun i _ => ⟨rfl, fun t => rfl⟩⟩
  · show sp_t 0
    decide
  · show sp_as t 0 = 0
    unfold sp_as
    split
    · rfl
    · split
      · rfl
      · split <;> rfl
set_option maxHeartbeats 4000000 in
set_option maxRecDepth 100000 in
/-- THE LAW, from its entry -/
theorem whole_start {p : Program} {e : Env} {s : State} {m : MethodId} {below : List Frame} {meth : Method} {c : Code} (l : Launch) {b L : Nat} {xs : Nat → Int32} (hL : L ≤ 3584) (C0 : lw_At p s m meth c b L xs) : W p l e room_1 s m #[Value.ref b] below meth c s.heap [] 0 0 (lw_Z below #[Value.ref b] s) (entryFrame m ([Value.ref b] : List Value).toArray 4) := by
  obtain ⟨hx, hb, hr, hml, hown, hts0, hX, hbl, hlocks, hgv⟩ := id C0
  have hts : ∀ w ∈ wsL_law, w.before #[Value.ref b] s = true := fun w h => hts0 w (wsL_law_in w h)
  have hA : ∀ q : Nat, s.heap.size ≤ q → (fun q : Nat => s.heap.size ≤ q) q := fun _ h => h
  obtain ⟨c0, iS0, hKn0⟩ := u_known (C := RX0) (T := TX0) (N := 1) (n := 1) hts0 inX0 (hts0 (.instantiable RX0 1) (by decide +kernel))
  obtain ⟨c1, iS1, hKn1⟩ := u_known (C := RX1) (T := TX1) (N := 3) (n := 3) hts0 inX1 (hts0 (.instantiable RX1 3) (by decide +kernel))
  obtain ⟨c2, iS2, hKn2⟩ := u_known (C := RX2) (T := TX2) (N := 15) (n := 15) hts0 inX2 (hts0 (.instantiable RX2 15) (by decide +kernel))
  obtain ⟨c3, iS3, hKn3⟩ := u_known (C := RX3) (T := TX3) (N := 17) (n := 17) hts0 inX3 (hts0 (.instantiable RX3 17) (by decide +kernel))
  obtain ⟨dC, dI, hKc⟩ : ∃ (dC : Nat → ClassId) (dI : Nat → Nat → Nat), ∀ (k : Nat) (q : vw_C), vwCl[k]? = some q → u_Kn s q.1 q.2.1 q.2.2 (dC k) (dI k) := by
    refine ⟨fun k => if k = 0 then c0 else if k = 1 then c1 else if k = 2 then c2 else c3, fun k => if k = 0 then iS0 else if k = 1 then iS1 else if k = 2 then iS2 else iS3, ?_⟩
    intro k q hq
    match k, hq with
    | 0, hq => cases hq; exact hKn0
    | 1, hq => cases hq; exact hKn1
    | 2, hq => cases hq; exact hKn2
    | 3, hq => cases hq; exact hKn3
    | k + 4, hq => simp [vwCl] at hq
  have hAO0 : va_AO "FourTrackDeck$Reel" s := va_AO.of (hts0 (.arrayOver (.object "FourTrackDeck$Reel")) (by decide +kernel))
  have hAO1 : va_AO "FourTrackDeck$Track" s := va_AO.of (hts0 (.arrayOver (.object "FourTrackDeck$Track")) (by decide +kernel))
  obtain ⟨cA0, kA0, comp0, f1, f2, f3⟩ := Cond.arrayClass_spec (hts0 (.arrayClass .int) (by decide +kernel))
  obtain ⟨comp1, cA1, kA1, g1, g2, g3, g4, g5⟩ := Cond.arrayOver_spec hAO0
  obtain ⟨comp2, cA2, kA2, k1, k2, k3, k4, k5⟩ := Cond.arrayOver_spec hAO1
  obtain ⟨cA, eA0, eA1, eA2⟩ : ∃ cA : Nat → ClassId, cA 0 = cA0 ∧ cA 1 = cA1 ∧ cA 2 = cA2 := ⟨fun k => if k = 0 then cA0 else if k = 1 then cA1 else cA2, rfl, rfl, rfl⟩
  have hK : va_K (ze_E dC dI cA).1 (ze_E dC dI cA).2.1 (ze_E dC dI cA).2.2 s := by
    refine ⟨hKc, fun k q h => ?_⟩
    match k, h with
    | 0, h =>
      cases h
      rw [eA0]
      exact ⟨fun n z => ⟨fun k h => (by cases h), kA0, f2, comp0, f3⟩, f1⟩
    | 1, h =>
      cases h
      rw [eA1]
      exact ⟨fun n z => ⟨fun k h => (by cases h), kA1, g3, comp1, g4⟩, kA1, comp1, g3, g4, g1, g5⟩
    | 2, h =>
      cases h
      rw [eA2]
      exact ⟨fun n z => ⟨fun k h => (by cases h), kA2, k3, comp2, k4⟩, kA2, comp2, k3, k4, k1, k5⟩
    | k + 3, h => simp at h
  have hnF : ∀ q ∈ zn_F, Cond.fieldLinkNest q.1 q.2.1 q.2.2.1 q.2.2.2.1 q.2.2.2.2.1 q.2.2.2.2.2 ∈ lw_tbl := by decide +kernel
  have hnM : ∀ q ∈ zn_M, Cond.methodLinkNest q.1 q.2.1 q.2.2.1 q.2.2.2 ∈ lw_tbl := by decide +kernel
  have hN : zw_N s := ⟨fun q hq => va_Nw.of rfl (hts0 _ (hnF q hq)), fun q hq => va_Nw.of rfl (hts0 _ (hnM q hq)), fun q hq => by
    simp only [zn_A, List.mem_cons, List.not_mem_nil, or_false] at hq
    rcases hq with rfl | rfl
    · exact hAO0
    · exact hAO1⟩
  have C : lw_Cx p s m c b L xs dC dI cA := ⟨hx, hb, hml, hown, hts, hX, hbl, hK, hN, hL⟩
  have hS : va_S (fun q : Nat => s.heap.size ≤ q) s.heap s.heap [] := va_S.rf
  have hP : va_P (ze_E dC dI cA).1 (ze_E dC dI cA).2.1 (zw_l (fun _ : zw_R => 0) [] (fun _ : zw_R => (.inr (0, []) : va_E))) s.heap := fun k q h => by simp [zw_l] at h
  have hD : va_D (fun q : Nat => s.heap.size ≤ q) (zw_l (fun _ : zw_R => 0) [] (fun _ : zw_R => (.inr (0, []) : va_E))) := ⟨fun i j p q h => by simp [zw_l] at h, fun k q h => by simp [zw_l] at h⟩
  have hl := lv_entry ([.ref b]) (n := 4) (Nat.le_of_ble_eq_true rfl)
  rw [lg_entry_eq]
  generalize (lg_sl ([.ref b]) ++ List.replicate (4 - (lg_sl ([.ref b])).length) Slot.unset).toArray = ls at hl ⊢
  have hl : lv_has ls 4 [(0, .ref b)] := hl
  refine zw_new (ad := (fun _ : zw_R => 0)) (r := (0, 0, 0)) (ci := 2) (fs := [.null, .int 0, .int 0, .int 0, .null, .null, .null, .int 0, .int 0, .null, .int 0, .int 0, .int 0, .int 0, .int 0]) (C := RX2) (T := TX2) (N := 15) hx hb hts inlX2 tyX2 tyX2_ok hown (hts (.classLink RL 7 RX2) (by decide +kernel)) (hts (.instantiable RX2 15) (by decide +kernel)) (hts (.initialized RX2) (by decide +kernel)) hK hP hD hS hA List.not_mem_nil rfl (fun j hj => match j, hj with | 0, _ => rfl | 1, _ => rfl | 2, _ => rfl | 3, _ => rfl | 4, _ => rfl | 5, _ => rfl | 6, _ => rfl | 7, _ => rfl | 8, _ => rfl | 9, _ => rfl | 10, _ => rfl | 11, _ => rfl | 12, _ => rfl | 13, _ => rfl | 14, _ => rfl | k + 15, h => absurd h (by omega)) (Nat.le_of_ble_eq_true rfl) (Nat.le_of_ble_eq_true rfl) dL_law_0 (fun q0 H hP hD hS => ?_)
  refine W.widen (k := 1) (n := 15) (by omega) (by omega) ?_
  refine lv_dup hx hb dL_law_3 rfl ?_
  refine zw_cI (ad := (zw_u (fun _ : zw_R => 0) (0, 0, 0) q0)) (r := (0, 0, 0)) (As := []) (rest := [.ref q0]) (st1 := [.ref q0]) ⟨hx, hb, hml, hown, hts⟩ (cd_init (ad := (zw_u (fun _ : zw_R => 0) (0, 0, 0) q0)) (List.mem_append_right _ (List.mem_singleton.mpr rfl)) (zw_ltp (n := 0) (R := []) (fun q h => absurd h List.not_mem_nil) (by decide)) rfl) (cwI 0 hts gL_law_X2_init rfl rfl rfl (hts (.initialized RX2) (by decide +kernel)) (hts (.methodLink RL 9 yX2_init) (by decide +kernel)) (hts (.instanceMethod yX2_init) (by decide +kernel)) rfl (by decide +kernel) ⟨Nat.le_of_ble_eq_true rfl, Nat.le_of_ble_eq_true rfl⟩) hK hP hD hS hA hN rfl hl.1 rfl (Nat.le_of_ble_eq_true rfl) rfl dL_law_4 ⟨Nat.le_of_ble_eq_true rfl, Nat.le_of_ble_eq_true rfl⟩ (fun ad' R' cu' H locs hB hP hD hS => ?_)
  obtain ⟨q_1, q_2, q_3, q_4, q_5, rfl, rfl, rfl⟩ := hB
  refine W.widen (k := 6) (n := 291) (by omega) (by omega) ?_
  refine lv_astore_n (lv' := [(1, .ref q0), (0, .ref b)]) hx hb dL_law_7 rfl hl (by decide) rfl (fun ls hl => ?_)
  refine zw_new (ad := (zw_u (zw_u (zw_u (zw_u (zw_u (zw_u (fun _ : zw_R => 0) (0, 0, 0) q0) (1, 0, 0) q_1) (2, 0, 0) q_2) (3, 0, 0) q_3) (4, 0, 0) q_4) (5, 0, 0) q_5)) (r := (20, 0, 0)) (ci := 3) (fs := [.int 0, .null, .null, .null, .int 0, .int 0, .null, .null, .null, .int 0, .int 0, .int 0, .int 0, .int 0, .int 0, .null, .int 0]) (C := RX3) (T := TX3) (N := 17) hx hb hts inlX3 tyX3 tyX3_ok hown (hts (.classLink RL 10 RX3) (by decide +kernel)) (hts (.instantiable RX3 17) (by decide +kernel)) (hts (.initialized RX3) (by decide +kernel)) hK hP hD hS hA (zw_nm (zw_ltp (zw_ltp (zw_ltp (zw_ltp (zw_ltp (zw_ltp (n := 0) (R := []) (fun q h => absurd h List.not_mem_nil) (by decide)) (by decide)) (by decide)) (by decide)) (by decide)) (by decide)) (by decide)) rfl (fun j hj => match j, hj with | 0, _ => rfl | 1, _ => rfl | 2, _ => rfl | 3, _ => rfl | 4, _ => rfl | 5, _ => rfl | 6, _ => rfl | 7, _ => rfl | 8, _ => rfl | 9, _ => rfl | 10, _ => rfl | 11, _ => rfl | 12, _ => rfl | 13, _ => rfl | 14, _ => rfl | 15, _ => rfl | 16, _ => rfl | k + 17, h => absurd h (by omega)) (Nat.le_of_ble_eq_true rfl) (Nat.le_of_ble_eq_true rfl) dL_law_8 (fun m0 H hP hD hS => ?_)
  refine W.widen (k := 7) (n := 308) (by omega) (by omega) ?_
  refine lv_dup hx hb dL_law_11 rfl ?_
  refine zw_cI (ad := (zw_u (zw_u (zw_u (zw_u (zw_u (zw_u (zw_u (fun _ : zw_R => 0) (0, 0, 0) q0) (1, 0, 0) q_1) (2, 0, 0) q_2) (3, 0, 0) q_3) (4, 0, 0) q_4) (5, 0, 0) q_5) (20, 0, 0) m0)) (r := (20, 0, 0)) (As := []) (rest := [.ref m0]) (st1 := [.ref m0]) ⟨hx, hb, hml, hown, hts⟩ (cm_init (ad := (zw_u (zw_u (zw_u (zw_u (zw_u (zw_u (zw_u (fun _ : zw_R => 0) (0, 0, 0) q0) (1, 0, 0) q_1) (2, 0, 0) q_2) (3, 0, 0) q_3) (4, 0, 0) q_4) (5, 0, 0) q_5) (20, 0, 0) m0)) (List.mem_append_right _ (List.mem_singleton.mpr rfl)) (zw_ltp (zw_ltp (zw_ltp (zw_ltp (zw_ltp (zw_ltp (zw_ltp (n := 0) (R := []) (fun q h => absurd h List.not_mem_nil) (by decide)) (by decide)) (by decide)) (by decide)) (by decide)) (by decide)) (by decide)) rfl) (cwI 0 hts gL_law_X3_init rfl rfl rfl (hts (.initialized RX3) (by decide +kernel)) (hts (.methodLink RL 12 yX3_init) (by decide +kernel)) (hts (.instanceMethod yX3_init) (by decide +kernel)) rfl (by decide +kernel) ⟨Nat.le_of_ble_eq_true rfl, Nat.le_of_ble_eq_true rfl⟩) hK hP hD hS hA hN rfl hl.1 rfl (Nat.le_of_ble_eq_true rfl) rfl dL_law_12 ⟨Nat.le_of_ble_eq_true rfl, Nat.le_of_ble_eq_true rfl⟩ (fun ad' R' cu' H locs hB hP hD hS => ?_)
  obtain ⟨m_1, m_2, m_3, m_4, m_5, m_6, m_7, rfl, rfl, rfl⟩ := hB
  refine W.widen (k := 20 + 10 * 0) (n := 4000 + 273 * 0) (by omega) (by omega) ?_
  refine lv_astore_n (lv' := [(2, .ref m0), (1, .ref q0), (0, .ref b)]) hx hb dL_law_15 rfl hl (by decide) rfl (fun ls hl => ?_)
  refine lv_iconst (v := 0) hx hb dL_law_16 (by decide) ?_
  refine lv_istore_n (lv' := [(3, .int 0), (2, .ref m0), (1, .ref q0), (0, .ref b)]) hx hb dL_law_17 rfl hl (by decide) rfl (fun ls hl => ?_)
  have eW : zw_l (zw_u (zw_u (zw_u (zw_u (zw_u (zw_u (zw_u (zw_u (zw_u (zw_u (zw_u (zw_u (zw_u (zw_u (fun _ : zw_R => 0) (0, 0, 0) q0) (1, 0, 0) q_1) (2, 0, 0) q_2) (3, 0, 0) q_3) (4, 0, 0) q_4) (5, 0, 0) q_5) (20, 0, 0) m0) (21, 0, 0) m_1) (22, 0, 0) m_2) (23, 0, 0) m_3) (24, 0, 0) m_4) (25, 0, 0) m_5) (26, 0, 0) m_6) (27, 0, 0) m_7) (((((((((((((([] ++ [(0, 0, 0)]) ++ [(1, 0, 0)]) ++ [(2, 0, 0)]) ++ [(3, 0, 0)]) ++ [(4, 0, 0)]) ++ [(5, 0, 0)]) ++ [(20, 0, 0)]) ++ [(21, 0, 0)]) ++ [(22, 0, 0)]) ++ [(23, 0, 0)]) ++ [(24, 0, 0)]) ++ [(25, 0, 0)]) ++ [(26, 0, 0)]) ++ [(27, 0, 0)]) (zw_u (zw_u (zw_u (zw_u (zw_u (zw_u (zw_u (zw_u (zw_u (zw_u (zw_u (zw_u (zw_u (zw_u (zw_u (zw_u (zw_u (zw_u (zw_u (zw_u (zw_u (zw_u (zw_u (zw_u (zw_u (zw_u (zw_u (zw_u (zw_u (zw_u (zw_u (zw_u (zw_u (zw_u (zw_u (zw_u (zw_u (zw_u (zw_u (zw_u (fun _ : zw_R => (.inr (0, []) : va_E)) (0, 0, 0) (.inr (2, [.null, .int 0, .int 0, .int 0, .null, .null, .null, .int 0, .int 0, .null, .int 0, .int 0, .int 0, .int 0, .int 0]))) (1, 0, 0) (.inl (cA 1, 8, .inr (.inr (.inr (.inr (fun _ => none))))))) (0, 0, 0) (.inr (2, [.ref q_1, .int 0, .int 0, .int 0, .null, .null, .null, .int 0, .int 0, .null, .int 0, .int 0, .int 0, .int 0, .int 0]))) (0, 0, 0) (.inr (2, [.ref q_1, .int 0, .int 0, .int 0, .null, .null, .null, .int 0, .int 0, .null, .int 0, .int 0, .int 0, .int 0, .int 0]))) (0, 0, 0) (.inr (2, [.ref q_1, .int 0, .int (-1), .int 0, .null, .null, .null, .int 0, .int 0, .null, .int 0, .int 0, .int 0, .int 0, .int 0]))) (0, 0, 0) (.inr (2, [.ref q_1, .int 0, .int (-1), .int 0, .null, .null, .null, .int 0, .int 0, .null, .int 0, .int 0, .int 0, .int 0, .int 0]))) (2, 0, 0) (.inl (cA 0, 4, .inl (fun _ => 0)))) (0, 0, 0) (.inr (2, [.ref q_1, .int 0, .int (-1), .int 0, .ref q_2, .null, .null, .int 0, .int 0, .null, .int 0, .int 0, .int 0, .int 0, .int 0]))) (3, 0, 0) (.inl (cA 0, 4, .inl (fun _ => 0)))) (0, 0, 0) (.inr (2, [.ref q_1, .int 0, .int (-1), .int 0, .ref q_2, .ref q_3, .null, .int 0, .int 0, .null, .int 0, .int 0, .int 0, .int 0, .int 0]))) (4, 0, 0) (.inl (cA 0, 4, .inl (fun _ => 0)))) (0, 0, 0) (.inr (2, [.ref q_1, .int 0, .int (-1), .int 0, .ref q_2, .ref q_3, .ref q_4, .int 0, .int 0, .null, .int 0, .int 0, .int 0, .int 0, .int 0]))) (0, 0, 0) (.inr (2, [.ref q_1, .int 0, .int (-1), .int 0, .ref q_2, .ref q_3, .ref q_4, .int 0, .int 0, .null, .int 0, .int 0, .int 0, .int 0, .int 0]))) (0, 0, 0) (.inr (2, [.ref q_1, .int 0, .int (-1), .int 0, .ref q_2, .ref q_3, .ref q_4, .int 0, .int 0, .null, .int 0, .int 0, .int 0, .int 0, .int 0]))) (5, 0, 0) (.inl (cA 0, 256, .inl (fun _ => 0)))) (0, 0, 0) (.inr (2, [.ref q_1, .int 0, .int (-1), .int 0, .ref q_2, .ref q_3, .ref q_4, .int 0, .int 0, .ref q_5, .int 0, .int 0, .int 0, .int 0, .int 0]))) (0, 0, 0) (.inr (2, [.ref q_1, .int 0, .int (-1), .int 0, .ref q_2, .ref q_3, .ref q_4, .int 0, .int 0, .ref q_5, .int (-1), .int 0, .int 0, .int 0, .int 0]))) (0, 0, 0) (.inr (2, [.ref q_1, .int 0, .int (-1), .int 0, .ref q_2, .ref q_3, .ref q_4, .int 0, .int 0, .ref q_5, .int (-1), .int (-1), .int 0, .int 0, .int 0]))) (0, 0, 0) (.inr (2, [.ref q_1, .int 0, .int (-1), .int 0, .ref q_2, .ref q_3, .ref q_4, .int 0, .int 0, .ref q_5, .int (-1), .int (-1), .int (-1), .int 0, .int 0]))) (0, 0, 0) (.inr (2, [.ref q_1, .int 0, .int (-1), .int 0, .ref q_2, .ref q_3, .ref q_4, .int 0, .int 0, .ref q_5, .int (-1), .int (-1), .int (-1), .int 0, .int 0]))) (0, 0, 0) (.inr (2, [.ref q_1, .int 0, .int (-1), .int 0, .ref q_2, .ref q_3, .ref q_4, .int 0, .int 0, .ref q_5, .int (-1), .int (-1), .int (-1), .int 0, .int 0]))) (20, 0, 0) (.inr (3, [.int 0, .null, .null, .null, .int 0, .int 0, .null, .null, .null, .int 0, .int 0, .int 0, .int 0, .int 0, .int 0, .null, .int 0]))) (21, 0, 0) (.inl (cA 0, 8, .inl (fun _ => 0)))) (20, 0, 0) (.inr (3, [.int 0, .ref m_1, .null, .null, .int 0, .int 0, .null, .null, .null, .int 0, .int 0, .int 0, .int 0, .int 0, .int 0, .null, .int 0]))) (22, 0, 0) (.inl (cA 0, 8, .inl (fun _ => 0)))) (20, 0, 0) (.inr (3, [.int 0, .ref m_1, .ref m_2, .null, .int 0, .int 0, .null, .null, .null, .int 0, .int 0, .int 0, .int 0, .int 0, .int 0, .null, .int 0]))) (23, 0, 0) (.inl (cA 0, 2048, .inl (fun _ => 0)))) (20, 0, 0) (.inr (3, [.int 0, .ref m_1, .ref m_2, .ref m_3, .int 0, .int 0, .null, .null, .null, .int 0, .int 0, .int 0, .int 0, .int 0, .int 0, .null, .int 0]))) (20, 0, 0) (.inr (3, [.int 0, .ref m_1, .ref m_2, .ref m_3, .int (-1), .int 0, .null, .null, .null, .int 0, .int 0, .int 0, .int 0, .int 0, .int 0, .null, .int 0]))) (24, 0, 0) (.inl (cA 0, 4, .inl (fun _ => 0)))) (20, 0, 0) (.inr (3, [.int 0, .ref m_1, .ref m_2, .ref m_3, .int (-1), .int 0, .ref m_4, .null, .null, .int 0, .int 0, .int 0, .int 0, .int 0, .int 0, .null, .int 0]))) (25, 0, 0) (.inl (cA 0, 4, .inl (fun _ => 0)))) (20, 0, 0) (.inr (3, [.int 0, .ref m_1, .ref m_2, .ref m_3, .int (-1), .int 0, .ref m_4, .ref m_5, .null, .int 0, .int 0, .int 0, .int 0, .int 0, .int 0, .null, .int 0]))) (26, 0, 0) (.inl (cA 0, 4, .inl (fun _ => 0)))) (20, 0, 0) (.inr (3, [.int 0, .ref m_1, .ref m_2, .ref m_3, .int (-1), .int 0, .ref m_4, .ref m_5, .ref m_6, .int 0, .int 0, .int 0, .int 0, .int 0, .int 0, .null, .int 0]))) (20, 0, 0) (.inr (3, [.int 0, .ref m_1, .ref m_2, .ref m_3, .int (-1), .int 0, .ref m_4, .ref m_5, .ref m_6, .int 0, .int 0, .int (-1), .int 0, .int 0, .int 0, .null, .int 0]))) (20, 0, 0) (.inr (3, [.int 0, .ref m_1, .ref m_2, .ref m_3, .int (-1), .int 0, .ref m_4, .ref m_5, .ref m_6, .int 0, .int 0, .int (-1), .int 0, .int (-1), .int 0, .null, .int 0]))) (20, 0, 0) (.inr (3, [.int 0, .ref m_1, .ref m_2, .ref m_3, .int (-1), .int 0, .ref m_4, .ref m_5, .ref m_6, .int 0, .int 0, .int (-1), .int 0, .int (-1), .int (-1), .null, .int 0]))) (27, 0, 0) (.inl (cA 0, 256, .inl (fun _ => 0)))) (20, 0, 0) (.inr (3, [.int 0, .ref m_1, .ref m_2, .ref m_3, .int (-1), .int 0, .ref m_4, .ref m_5, .ref m_6, .int 0, .int 0, .int (-1), .int 0, .int (-1), .int (-1), .ref m_7, .int 0]))) = zw_l (zw_u (zw_u (zw_u (zw_u (zw_u (zw_u (zw_u (zw_u (zw_u (zw_u (zw_u (zw_u (zw_u (zw_u (fun _ : zw_R => 0) (0, 0, 0) q0) (1, 0, 0) q_1) (2, 0, 0) q_2) (3, 0, 0) q_3) (4, 0, 0) q_4) (5, 0, 0) q_5) (20, 0, 0) m0) (21, 0, 0) m_1) (22, 0, 0) m_2) (23, 0, 0) m_3) (24, 0, 0) m_4) (25, 0, 0) m_5) (26, 0, 0) m_6) (27, 0, 0) m_7) (((((((((((((([] ++ [(0, 0, 0)]) ++ [(1, 0, 0)]) ++ [(2, 0, 0)]) ++ [(3, 0, 0)]) ++ [(4, 0, 0)]) ++ [(5, 0, 0)]) ++ [(20, 0, 0)]) ++ [(21, 0, 0)]) ++ [(22, 0, 0)]) ++ [(23, 0, 0)]) ++ [(24, 0, 0)]) ++ [(25, 0, 0)]) ++ [(26, 0, 0)]) ++ [(27, 0, 0)]) (ze_X (ze_D cA (zw_u (zw_u (zw_u (zw_u (zw_u (zw_u (zw_u (zw_u (zw_u (zw_u (zw_u (zw_u (zw_u (zw_u (fun _ : zw_R => 0) (0, 0, 0) q0) (1, 0, 0) q_1) (2, 0, 0) q_2) (3, 0, 0) q_3) (4, 0, 0) q_4) (5, 0, 0) q_5) (20, 0, 0) m0) (21, 0, 0) m_1) (22, 0, 0) m_2) (23, 0, 0) m_3) (24, 0, 0) m_4) (25, 0, 0) m_5) (26, 0, 0) m_6) (27, 0, 0) m_7) 0 (fun _ => 0) sp_0) (ze_M cA (zw_u (zw_u (zw_u (zw_u (zw_u (zw_u (zw_u (zw_u (zw_u (zw_u (zw_u (zw_u (zw_u (zw_u (fun _ : zw_R => 0) (0, 0, 0) q0) (1, 0, 0) q_1) (2, 0, 0) q_2) (3, 0, 0) q_3) (4, 0, 0) q_4) (5, 0, 0) q_5) (20, 0, 0) m0) (21, 0, 0) m_1) (22, 0, 0) m_2) (23, 0, 0) m_3) (24, 0, 0) m_4) (25, 0, 0) m_5) (26, 0, 0) m_6) (27, 0, 0) m_7) (fun _ => 0) sp_0)) := by
    refine zw_congr (fun _ _ => rfl) (fun r hr => ?_)
    simp only [List.mem_append, List.mem_singleton, List.not_mem_nil, false_or, or_assoc] at hr
    rcases hr with rfl | rfl | rfl | rfl | rfl | rfl | rfl | rfl | rfl | rfl | rfl | rfl | rfl | rfl <;> rfl
  rw [eW] at hP hD
  refine lw_loop C hr hlocks (L + 1) 0 0 _ _ ls rfl (Nat.zero_le L) (by omega) ⟨(zw_u (zw_u (zw_u (zw_u (zw_u (zw_u (zw_u (zw_u (zw_u (zw_u (zw_u (zw_u (zw_u (zw_u (fun _ : zw_R => 0) (0, 0, 0) q0) (1, 0, 0) q_1) (2, 0, 0) q_2) (3, 0, 0) q_3) (4, 0, 0) q_4) (5, 0, 0) q_5) (20, 0, 0) m0) (21, 0, 0) m_1) (22, 0, 0) m_2) (23, 0, 0) m_3) (24, 0, 0) m_4) (25, 0, 0) m_5) (26, 0, 0) m_6) (27, 0, 0) m_7), (((((((((((((([] ++ [(0, 0, 0)]) ++ [(1, 0, 0)]) ++ [(2, 0, 0)]) ++ [(3, 0, 0)]) ++ [(4, 0, 0)]) ++ [(5, 0, 0)]) ++ [(20, 0, 0)]) ++ [(21, 0, 0)]) ++ [(22, 0, 0)]) ++ [(23, 0, 0)]) ++ [(24, 0, 0)]) ++ [(25, 0, 0)]) ++ [(26, 0, 0)]) ++ [(27, 0, 0)]), 0, (fun _ => 0), sp_0, ⟨fun k hk => ?_, fun i hi => absurd hi (Nat.not_lt_zero i)⟩, fun r hr => ?_, fun k hk => ?_, sp_I_0, hP, hD, hS, lv_sub hl [3, 2, 1, 0] rfl⟩
  · match k, hk with
    | 0, _ => simp
    | 1, _ => simp
    | 2, _ => simp
    | 3, _ => simp
    | 4, _ => simp
    | 5, _ => simp
    | k + 6, h => exact absurd h (by omega)
  · simp only [List.mem_append, List.mem_singleton, List.not_mem_nil, false_or, or_assoc] at hr
    rcases hr with rfl | rfl | rfl | rfl | rfl | rfl | rfl | rfl | rfl | rfl | rfl | rfl | rfl | rfl
    all_goals first | exact Or.inl ⟨by decide, rfl⟩ | exact Or.inr (Or.inr ⟨by decide, by decide⟩)
  · match k, hk with
    | 0, _ => simp
    | 1, _ => simp
    | 2, _ => simp
    | 3, _ => simp
    | 4, _ => simp
    | 5, _ => simp
    | 6, _ => simp
    | 7, _ => simp
    | k + 8, h => exact absurd h (by omega)
