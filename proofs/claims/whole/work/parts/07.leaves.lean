set_option maxHeartbeats 4000000 in
set_option maxRecDepth 100000 in
/-- end: the status, the answer -/
theorem cd_end {l : Launch} {dC : Nat → ClassId} {dI : Nat → Nat → Nat} {cA : Nat → ClassId} {ad : zw_R → Nat} {R : List zw_R} {nr : Nat} {len : Nat → Nat} {σ : sp_S} {cM : zw_R → va_E} (hR : ze_R nr R) (p0 p1 : Int32) : zw_M l yX2_end wsX2_end { frames := 0, cells := 0, slots := 0, locals := 0 } (ze_E dC dI cA) [.ref (ad (0, 0, 0)), .int p0, .int p1] ad R (ze_X (ze_D cA ad nr len σ) cM) (some (.int p1)) (ze_X (ze_D cA ad nr len (sp_e σ p0)) cM) := by
  refine zw_body (cc := cX2_end) (maxL := 3) (ret := (some .int)) (by decide) rfl (Nat.le_of_ble_eq_true rfl) ?_
  intro p e s m below meth c A ls hx hb hr hlk hml hts hown hnm hA hK hP hD hS hN hl
  have hl : lv_has ls 3 [(0, .ref (ad (0, 0, 0))), (1, .int p0), (2, .int p1)] := hl
  have hwX2 : ∀ w ∈ u_ws RX2 TX2 15, w ∈ wsX2_end := by decide +kernel
  refine lv_aload_n hx hb dX2_end_0 rfl (lv_at hl 0 rfl) ?_
  refine lv_iload_n hx hb dX2_end_1 rfl (lv_at hl 1 rfl) ?_
  refine zw_putf (r := (0, 0, 0)) (v := .int p0) (C := RX2) (T := TX2) (N := 15) (ci := 2) hx hb hts hwX2 tyX2 tyX2_ok nmX2 hown hK hP hD hS (hR.1 0 (by decide)) rfl rfl 14 (by decide) (hts (.fieldLink RX2 56 "FourTrackDeck" "latestStatus" "I") (by decide +kernel)) (fun _ h9 => h9) rfl (ty := .int) (by decide +kernel) rfl rfl (Nat.le_of_ble_eq_true rfl) dX2_end_2 (cu1 := ze_X (ze_D cA ad nr len (sp_s σ (0, 0, 0) 9 p0)) cM) (ze_up rfl rfl) (fun H locs hP hD hS => ?_)
  refine lv_iload_n hx hb dX2_end_5 rfl (lv_at hl 2 rfl) ?_
  exact zw_iret hx hb hr hlk hK hP hD hS dX2_end_6 rfl rfl
set_option maxHeartbeats 4000000 in
set_option maxRecDepth 100000 in
theorem cd_isWithin_1 {l : Launch} {E : zw_E} {ad : zw_R → Nat} {R : List zw_R} {cu : zw_R → va_E} (p0 p1 p2 : Int32) (h : sp_w p0 p1 p2) : zw_M l yX2_isWithin wsX2_isWithin { frames := 0, cells := 0, slots := 0, locals := 0 } (E) [.int p0, .int p1, .int p2] ad R (cu) (some (.int 1)) (cu) := by
  refine zw_body (cc := cX2_isWithin) (maxL := 3) (ret := (some .boolean)) (by decide) rfl (Nat.le_of_ble_eq_true rfl) ?_
  intro p e s m below meth c A ls hx hb hr hlk hml hts hown hnm hA hK hP hD hS hN hl
  have hl : lv_has ls 3 [(0, .int p0), (1, .int p1), (2, .int p2)] := hl
  refine lv_iload_n hx hb dX2_isWithin_0 rfl (lv_at hl 0 rfl) ?_
  refine lv_iload_n hx hb dX2_isWithin_1 rfl (lv_at hl 1 rfl) ?_
  refine lv_icmp_lt (tgt := 14) hx hb dX2_isWithin_2 (by decide) (fun c_1 => absurd c_1 (Int32.not_lt.mpr h.1)) (fun c_1 => ?_)
  refine lv_iload_n hx hb dX2_isWithin_5 rfl (lv_at hl 0 rfl) ?_
  refine lv_iload_n hx hb dX2_isWithin_6 rfl (lv_at hl 2 rfl) ?_
  refine lv_icmp_gt (tgt := 14) hx hb dX2_isWithin_7 (by decide) (fun c_2 => absurd c_2 (Int32.not_lt.mpr h.2)) (fun c_2 => ?_)
  refine lv_iconst (v := 1) hx hb dX2_isWithin_10 (by decide) ?_
  refine lv_goto (tgt := 15) hx hb dX2_isWithin_11 (by decide) ?_
  exact zw_zret hx hb hr rfl hlk hK hP hD hS dX2_isWithin_15 rfl rfl
set_option maxHeartbeats 4000000 in
set_option maxRecDepth 100000 in
theorem cd_isWithin_0 {l : Launch} {E : zw_E} {ad : zw_R → Nat} {R : List zw_R} {cu : zw_R → va_E} (p0 p1 p2 : Int32) (h : ¬ sp_w p0 p1 p2) : zw_M l yX2_isWithin wsX2_isWithin { frames := 0, cells := 0, slots := 0, locals := 0 } (E) [.int p0, .int p1, .int p2] ad R (cu) (some (.int 0)) (cu) := by
  refine zw_body (cc := cX2_isWithin) (maxL := 3) (ret := (some .boolean)) (by decide) rfl (Nat.le_of_ble_eq_true rfl) ?_
  intro p e s m below meth c A ls hx hb hr hlk hml hts hown hnm hA hK hP hD hS hN hl
  have hl : lv_has ls 3 [(0, .int p0), (1, .int p1), (2, .int p2)] := hl
  refine lv_iload_n hx hb dX2_isWithin_0 rfl (lv_at hl 0 rfl) ?_
  refine lv_iload_n hx hb dX2_isWithin_1 rfl (lv_at hl 1 rfl) ?_
  refine lv_icmp_lt (tgt := 14) hx hb dX2_isWithin_2 (by decide) (fun c_1 => ?_) (fun c_1 => ?_)
  · refine lv_iconst (v := 0) hx hb dX2_isWithin_14 (by decide) ?_
    exact zw_zret hx hb hr rfl hlk hK hP hD hS dX2_isWithin_15 rfl rfl
  · refine lv_iload_n hx hb dX2_isWithin_5 rfl (lv_at hl 0 rfl) ?_
    refine lv_iload_n hx hb dX2_isWithin_6 rfl (lv_at hl 2 rfl) ?_
    refine lv_icmp_gt (tgt := 14) hx hb dX2_isWithin_7 (by decide) (fun c_2 => ?_) (fun c_2 => ?_)
    · refine lv_iconst (v := 0) hx hb dX2_isWithin_14 (by decide) ?_
      exact zw_zret hx hb hr rfl hlk hK hP hD hS dX2_isWithin_15 rfl rfl
    · exact absurd ⟨Int32.not_lt.mp c_1, Int32.not_lt.mp c_2⟩ h
set_option maxHeartbeats 4000000 in
set_option maxRecDepth 100000 in
theorem cd_isTrack_1 {l : Launch} {E : zw_E} {ad : zw_R → Nat} {R : List zw_R} {cu : zw_R → va_E} (p0 : Int32) (h : sp_t p0) : zw_M l yX2_isTrack wsX2_isTrack { frames := 1, cells := 0, slots := 0, locals := 22 } (E) [.int p0] ad R (cu) (some (.int 1)) (cu) := by
  refine zw_body (cc := cX2_isTrack) (maxL := 1) (ret := (some .boolean)) (by decide) rfl (Nat.le_of_ble_eq_true rfl) ?_
  intro p e s m below meth c A ls hx hb hr hlk hml hts hown hnm hA hK hP hD hS hN hl
  have hl : lv_has ls 1 [(0, .int p0)] := hl
  refine lv_iload_n hx hb dX2_isTrack_0 rfl (lv_at hl 0 rfl) ?_
  refine lv_iconst (v := 0) hx hb dX2_isTrack_1 (by decide) ?_
  refine lv_iconst (v := 3) hx hb dX2_isTrack_2 (by decide) ?_
  refine zw_cS (As := [.int p0, .int 0, .int 3]) (rest := []) (st1 := [.int 1]) ⟨hx, hb, hml, hown, hts⟩ (cd_isWithin_1 p0 0 3 h) (va_cwS 3 hts gX2_isTrack_X2_isWithin rfl rfl rfl (by decide +kernel) ⟨Nat.le_of_ble_eq_true rfl, Nat.le_of_ble_eq_true rfl⟩) hK hP hD hS hA hN rfl hl.1 rfl (Nat.le_of_ble_eq_true rfl) rfl dX2_isTrack_3 ⟨Nat.zero_le _, Nat.zero_le _⟩ (fun H locs hP hD hS => ?_)
  exact zw_zret hx hb hr rfl hlk hK hP hD hS dX2_isTrack_6 rfl rfl
set_option maxHeartbeats 4000000 in
set_option maxRecDepth 100000 in
theorem cd_isTrack_0 {l : Launch} {E : zw_E} {ad : zw_R → Nat} {R : List zw_R} {cu : zw_R → va_E} (p0 : Int32) (h : ¬ sp_t p0) : zw_M l yX2_isTrack wsX2_isTrack { frames := 1, cells := 0, slots := 0, locals := 22 } (E) [.int p0] ad R (cu) (some (.int 0)) (cu) := by
  refine zw_body (cc := cX2_isTrack) (maxL := 1) (ret := (some .boolean)) (by decide) rfl (Nat.le_of_ble_eq_true rfl) ?_
  intro p e s m below meth c A ls hx hb hr hlk hml hts hown hnm hA hK hP hD hS hN hl
  have hl : lv_has ls 1 [(0, .int p0)] := hl
  refine lv_iload_n hx hb dX2_isTrack_0 rfl (lv_at hl 0 rfl) ?_
  refine lv_iconst (v := 0) hx hb dX2_isTrack_1 (by decide) ?_
  refine lv_iconst (v := 3) hx hb dX2_isTrack_2 (by decide) ?_
  refine zw_cS (As := [.int p0, .int 0, .int 3]) (rest := []) (st1 := [.int 0]) ⟨hx, hb, hml, hown, hts⟩ (cd_isWithin_0 p0 0 3 h) (va_cwS 3 hts gX2_isTrack_X2_isWithin rfl rfl rfl (by decide +kernel) ⟨Nat.le_of_ble_eq_true rfl, Nat.le_of_ble_eq_true rfl⟩) hK hP hD hS hA hN rfl hl.1 rfl (Nat.le_of_ble_eq_true rfl) rfl dX2_isTrack_3 ⟨Nat.zero_le _, Nat.zero_le _⟩ (fun H locs hP hD hS => ?_)
  exact zw_zret hx hb hr rfl hlk hK hP hD hS dX2_isTrack_6 rfl rfl
set_option maxHeartbeats 4000000 in
set_option maxRecDepth 100000 in
theorem cd_firstFault {l : Launch} {E : zw_E} {ad : zw_R → Nat} {R : List zw_R} {cu : zw_R → va_E} (p0 p1 : Int32) : zw_M l yX2_firstFault wsX2_firstFault { frames := 0, cells := 0, slots := 0, locals := 0 } (E) [.int p0, .int p1] ad R (cu) (some (.int (if p0 = 0 then p1 else p0))) (cu) := by
  refine zw_body (cc := cX2_firstFault) (maxL := 2) (ret := (some .int)) (by decide) rfl (Nat.le_of_ble_eq_true rfl) ?_
  intro p e s m below meth c A ls hx hb hr hlk hml hts hown hnm hA hK hP hD hS hN hl
  have hl : lv_has ls 2 [(0, .int p0), (1, .int p1)] := hl
  refine lv_iload_n hx hb dX2_firstFault_0 rfl (lv_at hl 0 rfl) ?_
  refine lv_if_eq (tgt := 8) hx hb dX2_firstFault_1 (by decide) (fun c_1 => ?_) (fun c_1 => ?_)
  · refine lv_iload_n hx hb dX2_firstFault_8 rfl (lv_at hl 1 rfl) ?_
    exact zw_iret hx hb hr hlk hK hP hD hS dX2_firstFault_9 (by simp only [if_pos c_1] <;> rfl) rfl
  · refine lv_iload_n hx hb dX2_firstFault_4 rfl (lv_at hl 0 rfl) ?_
    refine lv_goto (tgt := 9) hx hb dX2_firstFault_5 (by decide) ?_
    exact zw_iret hx hb hr hlk hK hP hD hS dX2_firstFault_9 (by simp only [if_neg c_1] <;> rfl) rfl
set_option maxHeartbeats 4000000 in
set_option maxRecDepth 100000 in
theorem cd_indexOfCell {l : Launch} {E : zw_E} {ad : zw_R → Nat} {R : List zw_R} {cu : zw_R → va_E} (p0 p1 : Int32) : zw_M l yX2_indexOfCell wsX2_indexOfCell { frames := 0, cells := 0, slots := 0, locals := 0 } (E) [.int p0, .int p1] ad R (cu) (some (.int (p0 * 16 + p1))) (cu) := by
  refine zw_body (cc := cX2_indexOfCell) (maxL := 2) (ret := (some .int)) (by decide) rfl (Nat.le_of_ble_eq_true rfl) ?_
  intro p e s m below meth c A ls hx hb hr hlk hml hts hown hnm hA hK hP hD hS hN hl
  have hl : lv_has ls 2 [(0, .int p0), (1, .int p1)] := hl
  refine lv_iload_n hx hb dX2_indexOfCell_0 rfl (lv_at hl 0 rfl) ?_
  refine lv_bipush (v := 16) hx hb dX2_indexOfCell_1 (by decide) ?_
  refine lv_imul hx hb dX2_indexOfCell_3 ?_
  refine lv_iload_n hx hb dX2_indexOfCell_4 rfl (lv_at hl 1 rfl) ?_
  refine lv_iadd hx hb dX2_indexOfCell_5 ?_
  exact zw_iret hx hb hr hlk hK hP hD hS dX2_indexOfCell_6 rfl rfl
set_option maxHeartbeats 4000000 in
set_option maxRecDepth 100000 in
/-- Track.faultAt -/
theorem cd_faultAt {l : Launch} {dC : Nat → ClassId} {dI : Nat → Nat → Nat} {cA : Nat → ClassId} {ad : zw_R → Nat} {R : List zw_R} {nr : Nat} {len : Nat → Nat} {σ : sp_S} {cM : zw_R → va_E} (hR : ze_R nr R) (i t : Nat) (hi : i < nr) (ht : t < 4) (p0 : Int32) : zw_M l yX1_faultAt wsX1_faultAt { frames := 0, cells := 0, slots := 0, locals := 0 } (ze_E dC dI cA) [.ref (ad (8, i, t)), .int p0] ad R (ze_X (ze_D cA ad nr len σ) cM) (some (.int (sp_f len σ i t p0))) (ze_X (ze_D cA ad nr len σ) cM) := by
  refine zw_body (cc := cX1_faultAt) (maxL := 2) (ret := (some .int)) (by decide) rfl (Nat.le_of_ble_eq_true rfl) ?_
  intro p e s m below meth c A ls hx hb hr hlk hml hts hown hnm hA hK hP hD hS hN hl
  have hl : lv_has ls 2 [(0, .ref (ad (8, i, t))), (1, .int p0)] := hl
  have hwX1 : ∀ w ∈ u_ws RX1 TX1 3, w ∈ wsX1_faultAt := by decide +kernel
  refine lv_aload_n hx hb dX1_faultAt_0 rfl (lv_at hl 0 rfl) ?_
  refine zw_getf (r := (8, i, t)) (v := .int (σ (8, i, t) 1)) (C := RX1) (T := TX1) (N := 3) (ci := 1) hx hb hts hwX1 hown hK hP ((hR.2 i hi).2.2 t ht).1 rfl rfl 2 (by decide) (hts (.fieldLink RX1 19 "FourTrackDeck$Track" "isThere" "Z") (by decide +kernel)) (fun _ h9 => h9) rfl dX1_faultAt_1 ?_
  refine lv_if_ne (tgt := 9) hx hb dX1_faultAt_4 (by decide) (fun c_1 => ?_) (fun c_1 => ?_)
  · refine lv_iload_n hx hb dX1_faultAt_9 rfl (lv_at hl 1 rfl) ?_
    refine lv_if_lt (tgt := 26) hx hb dX1_faultAt_10 (by decide) (fun c_2 => ?_) (fun c_2 => ?_)
    · refine lv_iconst (v := 3) hx hb dX1_faultAt_26 (by decide) ?_
      exact zw_iret hx hb hr hlk hK hP hD hS dX1_faultAt_27 (by unfold sp_f; rw [if_neg c_1, if_neg (fun q => Int32.not_lt.mpr q.1 c_2)]) rfl
    · refine lv_iload_n hx hb dX1_faultAt_13 rfl (lv_at hl 1 rfl) ?_
      refine lv_aload_n hx hb dX1_faultAt_14 rfl (lv_at hl 0 rfl) ?_
      refine zw_getf (r := (8, i, t)) (v := .ref (ad (9, i, t))) (C := RX1) (T := TX1) (N := 3) (ci := 1) hx hb hts hwX1 hown hK hP ((hR.2 i hi).2.2 t ht).1 rfl rfl 1 (by decide) (hts (.fieldLink RX1 15 "FourTrackDeck$Track" "numbers" "[I") (by decide +kernel)) (fun _ h9 => h9) rfl dX1_faultAt_15 ?_
      refine zw_alen (r := (9, i, t)) (v := (nI (len i))) hx hb hK hP ((hR.2 i hi).2.2 t ht).2 0 rfl rfl rfl dX1_faultAt_18 ?_
      refine lv_icmp_ge (tgt := 26) hx hb dX1_faultAt_19 (by decide) (fun c_3 => ?_) (fun c_3 => ?_)
      · refine lv_iconst (v := 3) hx hb dX1_faultAt_26 (by decide) ?_
        exact zw_iret hx hb hr hlk hK hP hD hS dX1_faultAt_27 (by unfold sp_f; rw [if_neg c_1, if_neg (fun q => Int32.not_lt.mpr c_3 q.2)]) rfl
      · refine lv_iconst (v := 0) hx hb dX1_faultAt_22 (by decide) ?_
        refine lv_goto (tgt := 27) hx hb dX1_faultAt_23 (by decide) ?_
        exact zw_iret hx hb hr hlk hK hP hD hS dX1_faultAt_27 (by unfold sp_f; rw [if_neg c_1, if_pos ⟨Int32.not_lt.mp c_2, Int32.not_le.mp c_3⟩]) rfl
  · refine lv_iconst (v := 2) hx hb dX1_faultAt_7 (by decide) ?_
    exact zw_iret hx hb hr hlk hK hP hD hS dX1_faultAt_8 (by unfold sp_f; rw [if_pos c_1]) rfl
set_option maxHeartbeats 4000000 in
set_option maxRecDepth 100000 in
/-- Track.numberAt -/
theorem cd_numberAt {l : Launch} {dC : Nat → ClassId} {dI : Nat → Nat → Nat} {cA : Nat → ClassId} {ad : zw_R → Nat} {R : List zw_R} {nr : Nat} {len : Nat → Nat} {σ : sp_S} {cM : zw_R → va_E} (hR : ze_R nr R) (i t : Nat) (hi : i < nr) (ht : t < 4) (hlen : len i ≤ 64) (p0 : Int32) : zw_M l yX1_numberAt wsX1_numberAt { frames := 1, cells := 0, slots := 0, locals := 21 } (ze_E dC dI cA) [.ref (ad (8, i, t)), .int p0] ad R (ze_X (ze_D cA ad nr len σ) cM) (some (.int (sp_n len σ i t p0))) (ze_X (ze_D cA ad nr len σ) cM) := by
  refine zw_body (cc := cX1_numberAt) (maxL := 2) (ret := (some .int)) (by decide) rfl (Nat.le_of_ble_eq_true rfl) ?_
  intro p e s m below meth c A ls hx hb hr hlk hml hts hown hnm hA hK hP hD hS hN hl
  have hl : lv_has ls 2 [(0, .ref (ad (8, i, t))), (1, .int p0)] := hl
  have hwX1 : ∀ w ∈ u_ws RX1 TX1 3, w ∈ wsX1_numberAt := by decide +kernel
  refine lv_aload_n hx hb dX1_numberAt_0 rfl (lv_at hl 0 rfl) ?_
  refine lv_iload_n hx hb dX1_numberAt_1 rfl (lv_at hl 1 rfl) ?_
  refine zw_cV (r := (8, i, t)) (As := [.int p0]) (rest := []) (st1 := [.int (sp_f len σ i t p0)]) ⟨hx, hb, hml, hown, hts⟩ (cd_faultAt (σ := σ) hR i t hi ht p0) (cwV 1 hts gX1_numberAt_X1_faultAt rfl rfl rfl (by decide +kernel) ⟨Nat.le_of_ble_eq_true rfl, Nat.le_of_ble_eq_true rfl⟩) ((hR.2 i hi).2.2 t ht).1 rfl rfl rfl hK hP hD hS hA hN rfl hl.1 rfl (Nat.le_of_ble_eq_true rfl) rfl dX1_numberAt_2 ⟨Nat.zero_le _, Nat.zero_le _⟩ (fun H locs hP hD hS => ?_)
  refine lv_if_ne (tgt := 17) hx hb dX1_numberAt_5 (by decide) (fun c_1 => ?_) (fun c_1 => ?_)
  · refine lv_iconst (v := 0) hx hb dX1_numberAt_17 (by decide) ?_
    exact zw_iret hx hb hr hlk hK hP hD hS dX1_numberAt_18 (by simp only [sp_n, if_neg c_1] <;> rfl) rfl
  · refine lv_aload_n hx hb dX1_numberAt_8 rfl (lv_at hl 0 rfl) ?_
    refine zw_getf (r := (8, i, t)) (v := .ref (ad (9, i, t))) (C := RX1) (T := TX1) (N := 3) (ci := 1) hx hb hts hwX1 hown hK hP ((hR.2 i hi).2.2 t ht).1 rfl rfl 1 (by decide) (hts (.fieldLink RX1 15 "FourTrackDeck$Track" "numbers" "[I") (by decide +kernel)) (fun _ h9 => h9) rfl dX1_numberAt_9 ?_
    refine lv_iload_n hx hb dX1_numberAt_12 rfl (lv_at hl 1 rfl) ?_
    refine zw_iald (r := (9, i, t)) hx hb hK hP ((hR.2 i hi).2.2 t ht).2 0 rfl rfl (ze_fi hlen c_1) dX1_numberAt_13 ?_
    refine lv_goto (tgt := 18) hx hb dX1_numberAt_14 (by decide) ?_
    exact zw_iret hx hb hr hlk hK hP hD hS dX1_numberAt_18 (by simp only [sp_n, if_pos c_1] <;> rfl) rfl
set_option maxHeartbeats 4000000 in
set_option maxRecDepth 100000 in
theorem cd_as_0 {l : Launch} {dC : Nat → ClassId} {dI : Nat → Nat → Nat} {cA : Nat → ClassId} {ad : zw_R → Nat} {R : List zw_R} {nr : Nat} {len : Nat → Nat} {σ : sp_S} {cM : zw_R → va_E} (hR : ze_R nr R) (i : Nat) (hi : i < nr) (ht : 0 < 4) (p0 : Int32) : zw_M l yX1_asTrackHasIt wsX1_asTrackHasIt { frames := 1, cells := 0, slots := 0, locals := 16 } (ze_E dC dI cA) [.ref (ad (8, i, 0)), .int p0] ad R (ze_X (ze_D cA ad nr len σ) cM) (some (.int (sp_as 0 p0))) (ze_X (ze_D cA ad nr len σ) cM) := by
  refine zw_body (cc := cX1_asTrackHasIt) (maxL := 2) (ret := (some .int)) (by decide) rfl (Nat.le_of_ble_eq_true rfl) ?_
  intro p e s m below meth c A ls hx hb hr hlk hml hts hown hnm hA hK hP hD hS hN hl
  have hl : lv_has ls 2 [(0, .ref (ad (8, i, 0))), (1, .int p0)] := hl
  have hwX1 : ∀ w ∈ u_ws RX1 TX1 3, w ∈ wsX1_asTrackHasIt := by decide +kernel
  refine lv_aload_n hx hb dX1_asTrackHasIt_0 rfl (lv_at hl 0 rfl) ?_
  refine zw_getf (r := (8, i, 0)) (v := .int (nI 0)) (C := RX1) (T := TX1) (N := 3) (ci := 1) hx hb hts hwX1 hown hK hP ((hR.2 i hi).2.2 0 ht).1 rfl rfl 0 (by decide) (hts (.fieldLink RX1 9 "FourTrackDeck$Track" "kind" "I") (by decide +kernel)) (fun _ h9 => h9) rfl dX1_asTrackHasIt_1 ?_
  have e_sw : ((nI 0)).toInt = 0 := by decide
  refine lv_tableIn (tgt := 32) hx hb dX1_asTrackHasIt_4 (by rw [e_sw]; decide) (by rw [e_sw]; decide) (by rw [e_sw]; rfl) (by decide) ?_
  refine lv_iload_n hx hb dX1_asTrackHasIt_32 rfl (lv_at hl 1 rfl) ?_
  refine lv_ldc (v := 65535) hx hb hown (hts (.constant RX1 43 65535) (by decide +kernel)) dX1_asTrackHasIt_33 ?_
  refine lv_iand hx hb dX1_asTrackHasIt_35 ?_
  exact zw_iret hx hb hr hlk hK hP hD hS dX1_asTrackHasIt_36 rfl rfl
set_option maxHeartbeats 4000000 in
set_option maxRecDepth 100000 in
theorem cd_as_1 {l : Launch} {dC : Nat → ClassId} {dI : Nat → Nat → Nat} {cA : Nat → ClassId} {ad : zw_R → Nat} {R : List zw_R} {nr : Nat} {len : Nat → Nat} {σ : sp_S} {cM : zw_R → va_E} (hR : ze_R nr R) (i : Nat) (hi : i < nr) (ht : 1 < 4) (p0 : Int32) : zw_M l yX1_asTrackHasIt wsX1_asTrackHasIt { frames := 1, cells := 0, slots := 0, locals := 16 } (ze_E dC dI cA) [.ref (ad (8, i, 1)), .int p0] ad R (ze_X (ze_D cA ad nr len σ) cM) (some (.int (sp_as 1 p0))) (ze_X (ze_D cA ad nr len σ) cM) := by
  refine zw_body (cc := cX1_asTrackHasIt) (maxL := 2) (ret := (some .int)) (by decide) rfl (Nat.le_of_ble_eq_true rfl) ?_
  intro p e s m below meth c A ls hx hb hr hlk hml hts hown hnm hA hK hP hD hS hN hl
  have hl : lv_has ls 2 [(0, .ref (ad (8, i, 1))), (1, .int p0)] := hl
  have hwX1 : ∀ w ∈ u_ws RX1 TX1 3, w ∈ wsX1_asTrackHasIt := by decide +kernel
  refine lv_aload_n hx hb dX1_asTrackHasIt_0 rfl (lv_at hl 0 rfl) ?_
  refine zw_getf (r := (8, i, 1)) (v := .int (nI 1)) (C := RX1) (T := TX1) (N := 3) (ci := 1) hx hb hts hwX1 hown hK hP ((hR.2 i hi).2.2 1 ht).1 rfl rfl 0 (by decide) (hts (.fieldLink RX1 9 "FourTrackDeck$Track" "kind" "I") (by decide +kernel)) (fun _ h9 => h9) rfl dX1_asTrackHasIt_1 ?_
  have e_sw : ((nI 1)).toInt = 1 := by decide
  refine lv_tableIn (tgt := 37) hx hb dX1_asTrackHasIt_4 (by rw [e_sw]; decide) (by rw [e_sw]; decide) (by rw [e_sw]; rfl) (by decide) ?_
  refine lv_iload_n hx hb dX1_asTrackHasIt_37 rfl (lv_at hl 1 rfl) ?_
  refine lv_i2s hx hb dX1_asTrackHasIt_38 rfl ?_
  exact zw_iret hx hb hr hlk hK hP hD hS dX1_asTrackHasIt_39 rfl rfl
set_option maxHeartbeats 4000000 in
set_option maxRecDepth 100000 in
theorem cd_as_2 {l : Launch} {dC : Nat → ClassId} {dI : Nat → Nat → Nat} {cA : Nat → ClassId} {ad : zw_R → Nat} {R : List zw_R} {nr : Nat} {len : Nat → Nat} {σ : sp_S} {cM : zw_R → va_E} (hR : ze_R nr R) (i : Nat) (hi : i < nr) (ht : 2 < 4) (p0 : Int32) : zw_M l yX1_asTrackHasIt wsX1_asTrackHasIt { frames := 1, cells := 0, slots := 0, locals := 16 } (ze_E dC dI cA) [.ref (ad (8, i, 2)), .int p0] ad R (ze_X (ze_D cA ad nr len σ) cM) (some (.int (sp_as 2 p0))) (ze_X (ze_D cA ad nr len σ) cM) := by
  refine zw_body (cc := cX1_asTrackHasIt) (maxL := 2) (ret := (some .int)) (by decide) rfl (Nat.le_of_ble_eq_true rfl) ?_
  intro p e s m below meth c A ls hx hb hr hlk hml hts hown hnm hA hK hP hD hS hN hl
  have hl : lv_has ls 2 [(0, .ref (ad (8, i, 2))), (1, .int p0)] := hl
  have hwX1 : ∀ w ∈ u_ws RX1 TX1 3, w ∈ wsX1_asTrackHasIt := by decide +kernel
  refine lv_aload_n hx hb dX1_asTrackHasIt_0 rfl (lv_at hl 0 rfl) ?_
  refine zw_getf (r := (8, i, 2)) (v := .int (nI 2)) (C := RX1) (T := TX1) (N := 3) (ci := 1) hx hb hts hwX1 hown hK hP ((hR.2 i hi).2.2 2 ht).1 rfl rfl 0 (by decide) (hts (.fieldLink RX1 9 "FourTrackDeck$Track" "kind" "I") (by decide +kernel)) (fun _ h9 => h9) rfl dX1_asTrackHasIt_1 ?_
  have e_sw : ((nI 2)).toInt = 2 := by decide
  refine lv_tableIn (tgt := 40) hx hb dX1_asTrackHasIt_4 (by rw [e_sw]; decide) (by rw [e_sw]; decide) (by rw [e_sw]; rfl) (by decide) ?_
  refine lv_sipush (v := (-32768)) hx hb dX1_asTrackHasIt_40 (by decide) ?_
  refine lv_ldc (v := 32768) hx hb hown (hts (.constant RX1 44 32768) (by decide +kernel)) dX1_asTrackHasIt_43 ?_
  refine lv_iload_n hx hb dX1_asTrackHasIt_45 rfl (lv_at hl 1 rfl) ?_
  refine va_mmin (x := 32768) (y := p0) hx hb (hml.trans hl.1.symm) hown (hts (.methodLink RX1 45 Lib.Math.min.name) (by decide +kernel)) (hts (.static Lib.Math.min.name) (by decide +kernel)) (hts (.initialized "java/lang/Math") (by decide +kernel)) (hts (.code Lib.Math.min.name Lib.Math.min.code 2 (some .int)) (by decide +kernel)) (Nat.le_of_ble_eq_true rfl) (Nat.le_of_ble_eq_true rfl) (Nat.zero_le _) (Nat.zero_le _) dX1_asTrackHasIt_46 ?_
  refine va_mmax (x := (-32768)) (y := (if p0 < 32768 then p0 else 32768)) hx hb (hml.trans hl.1.symm) hown (hts (.methodLink RX1 51 Lib.Math.max.name) (by decide +kernel)) (hts (.static Lib.Math.max.name) (by decide +kernel)) (hts (.initialized "java/lang/Math") (by decide +kernel)) (hts (.code Lib.Math.max.name Lib.Math.max.code 2 (some .int)) (by decide +kernel)) (Nat.le_of_ble_eq_true rfl) (Nat.le_of_ble_eq_true rfl) (Nat.zero_le _) (Nat.zero_le _) dX1_asTrackHasIt_49 ?_
  exact zw_iret hx hb hr hlk hK hP hD hS dX1_asTrackHasIt_52 rfl rfl
set_option maxHeartbeats 4000000 in
set_option maxRecDepth 100000 in
theorem cd_as_3 {l : Launch} {dC : Nat → ClassId} {dI : Nat → Nat → Nat} {cA : Nat → ClassId} {ad : zw_R → Nat} {R : List zw_R} {nr : Nat} {len : Nat → Nat} {σ : sp_S} {cM : zw_R → va_E} (hR : ze_R nr R) (i : Nat) (hi : i < nr) (ht : 3 < 4) (p0 : Int32) : zw_M l yX1_asTrackHasIt wsX1_asTrackHasIt { frames := 1, cells := 0, slots := 0, locals := 16 } (ze_E dC dI cA) [.ref (ad (8, i, 3)), .int p0] ad R (ze_X (ze_D cA ad nr len σ) cM) (some (.int (sp_as 3 p0))) (ze_X (ze_D cA ad nr len σ) cM) := by
  refine zw_body (cc := cX1_asTrackHasIt) (maxL := 2) (ret := (some .int)) (by decide) rfl (Nat.le_of_ble_eq_true rfl) ?_
  intro p e s m below meth c A ls hx hb hr hlk hml hts hown hnm hA hK hP hD hS hN hl
  have hl : lv_has ls 2 [(0, .ref (ad (8, i, 3))), (1, .int p0)] := hl
  have hwX1 : ∀ w ∈ u_ws RX1 TX1 3, w ∈ wsX1_asTrackHasIt := by decide +kernel
  refine lv_aload_n hx hb dX1_asTrackHasIt_0 rfl (lv_at hl 0 rfl) ?_
  refine zw_getf (r := (8, i, 3)) (v := .int (nI 3)) (C := RX1) (T := TX1) (N := 3) (ci := 1) hx hb hts hwX1 hown hK hP ((hR.2 i hi).2.2 3 ht).1 rfl rfl 0 (by decide) (hts (.fieldLink RX1 9 "FourTrackDeck$Track" "kind" "I") (by decide +kernel)) (fun _ h9 => h9) rfl dX1_asTrackHasIt_1 ?_
  have e_sw : ((nI 3)).toInt = 3 := by decide
  refine lv_tableOut (tgt := 53) hx hb dX1_asTrackHasIt_4 (by rw [e_sw]; decide) (by decide) ?_
  refine lv_iload_n hx hb dX1_asTrackHasIt_53 rfl (lv_at hl 1 rfl) ?_
  refine lv_iconst (v := 1) hx hb dX1_asTrackHasIt_54 (by decide) ?_
  refine lv_iand hx hb dX1_asTrackHasIt_55 ?_
  exact zw_iret hx hb hr hlk hK hP hD hS dX1_asTrackHasIt_56 rfl rfl
theorem cd_as {l : Launch} {dC : Nat → ClassId} {dI : Nat → Nat → Nat} {cA : Nat → ClassId} {ad : zw_R → Nat} {R : List zw_R} {nr : Nat} {len : Nat → Nat} {σ : sp_S} {cM : zw_R → va_E} (hR : ze_R nr R) (i t : Nat) (hi : i < nr) (ht : t < 4) (p0 : Int32) : zw_M l yX1_asTrackHasIt wsX1_asTrackHasIt { frames := 1, cells := 0, slots := 0, locals := 16 } (ze_E dC dI cA) [.ref (ad (8, i, t)), .int p0] ad R (ze_X (ze_D cA ad nr len σ) cM) (some (.int (sp_as t p0))) (ze_X (ze_D cA ad nr len σ) cM) := by
  match t, ht with
  | 0, ht => exact cd_as_0 hR i hi ht p0
  | 1, ht => exact cd_as_1 hR i hi ht p0
  | 2, ht => exact cd_as_2 hR i hi ht p0
  | 3, ht => exact cd_as_3 hR i hi ht p0
  | k + 4, ht => exact absurd ht (by omega)
set_option maxHeartbeats 4000000 in
set_option maxRecDepth 100000 in
/-- Track.put -/
theorem cd_put {l : Launch} {dC : Nat → ClassId} {dI : Nat → Nat → Nat} {cA : Nat → ClassId} {ad : zw_R → Nat} {R : List zw_R} {nr : Nat} {len : Nat → Nat} {σ : sp_S} {cM : zw_R → va_E} (hR : ze_R nr R) (i t : Nat) (hi : i < nr) (ht : t < 4) (hlen : len i ≤ 64) (p0 p1 : Int32) : zw_M l yX1_put wsX1_put { frames := 2, cells := 0, slots := 0, locals := 37 } (ze_E dC dI cA) [.ref (ad (8, i, t)), .int p0, .int p1] ad R (ze_X (ze_D cA ad nr len σ) cM) none (ze_X (ze_D cA ad nr len (sp_put len σ i t p0 p1)) cM) := by
  refine zw_body (cc := cX1_put) (maxL := 3) (ret := none) (by decide) rfl (Nat.le_of_ble_eq_true rfl) ?_
  intro p e s m below meth c A ls hx hb hr hlk hml hts hown hnm hA hK hP hD hS hN hl
  have hl : lv_has ls 3 [(0, .ref (ad (8, i, t))), (1, .int p0), (2, .int p1)] := hl
  have hwX1 : ∀ w ∈ u_ws RX1 TX1 3, w ∈ wsX1_put := by decide +kernel
  refine lv_aload_n hx hb dX1_put_0 rfl (lv_at hl 0 rfl) ?_
  refine lv_iload_n hx hb dX1_put_1 rfl (lv_at hl 1 rfl) ?_
  refine zw_cV (r := (8, i, t)) (As := [.int p0]) (rest := []) (st1 := [.int (sp_f len σ i t p0)]) ⟨hx, hb, hml, hown, hts⟩ (cd_faultAt (σ := σ) hR i t hi ht p0) (cwV 1 hts gX1_put_X1_faultAt rfl rfl rfl (by decide +kernel) ⟨Nat.le_of_ble_eq_true rfl, Nat.le_of_ble_eq_true rfl⟩) ((hR.2 i hi).2.2 t ht).1 rfl rfl rfl hK hP hD hS hA hN rfl hl.1 rfl (Nat.le_of_ble_eq_true rfl) rfl dX1_put_2 ⟨Nat.zero_le _, Nat.zero_le _⟩ (fun H locs hP hD hS => ?_)
  refine lv_if_ne (tgt := 19) hx hb dX1_put_5 (by decide) (fun c_1 => ?_) (fun c_1 => ?_)
  · exact zw_vret hx hb hr hlk hK hP hD hS dX1_put_19 rfl (by simp only [sp_put, if_neg c_1] <;> rfl)
  · refine lv_aload_n hx hb dX1_put_8 rfl (lv_at hl 0 rfl) ?_
    refine zw_getf (r := (8, i, t)) (v := .ref (ad (9, i, t))) (C := RX1) (T := TX1) (N := 3) (ci := 1) hx hb hts hwX1 hown hK hP ((hR.2 i hi).2.2 t ht).1 rfl rfl 1 (by decide) (hts (.fieldLink RX1 15 "FourTrackDeck$Track" "numbers" "[I") (by decide +kernel)) (fun _ h9 => h9) rfl dX1_put_9 ?_
    refine lv_iload_n hx hb dX1_put_12 rfl (lv_at hl 1 rfl) ?_
    refine lv_aload_n hx hb dX1_put_13 rfl (lv_at hl 0 rfl) ?_
    refine lv_iload_n hx hb dX1_put_14 rfl (lv_at hl 2 rfl) ?_
    refine zw_cV (r := (8, i, t)) (As := [.int p1]) (rest := [.int p0, .ref (ad (9, i, t))]) (st1 := [.int (sp_as t p1), .int p0, .ref (ad (9, i, t))]) ⟨hx, hb, hml, hown, hts⟩ (cd_as (σ := σ) hR i t hi ht p1) (cwV 1 hts gX1_put_X1_asTrackHasIt rfl rfl rfl (by decide +kernel) ⟨Nat.le_of_ble_eq_true rfl, Nat.le_of_ble_eq_true rfl⟩) ((hR.2 i hi).2.2 t ht).1 rfl rfl rfl hK hP hD hS hA hN rfl hl.1 rfl (Nat.le_of_ble_eq_true rfl) rfl dX1_put_15 ⟨Nat.zero_le _, Nat.zero_le _⟩ (fun H locs hP hD hS => ?_)
    refine zw_iast (r := (9, i, t)) hx hb hK hP hD hS ((hR.2 i hi).2.2 t ht).2 0 rfl rfl (ze_fi hlen c_1) dX1_put_18 (cu1 := ze_X (ze_D cA ad nr len (sp_s σ (9, i, t) p0.toNatClampNeg (sp_as t p1))) cM) (ze_up rfl rfl) (fun H locs hP hD hS => ?_)
    exact zw_vret hx hb hr hlk hK hP hD hS dX1_put_19 rfl (by simp only [sp_put, if_pos c_1] <;> rfl)
set_option maxHeartbeats 4000000 in
set_option maxRecDepth 100000 in
/-- Track.exchange -/
theorem cd_exchange {l : Launch} {dC : Nat → ClassId} {dI : Nat → Nat → Nat} {cA : Nat → ClassId} {ad : zw_R → Nat} {R : List zw_R} {nr : Nat} {len : Nat → Nat} {σ : sp_S} {cM : zw_R → va_E} (hR : ze_R nr R) (i t : Nat) (hi : i < nr) (ht : t < 4) (hlen : len i ≤ 64) (p0 p1 : Int32) : zw_M l yX1_exchange wsX1_exchange { frames := 3, cells := 0, slots := 0, locals := 59 } (ze_E dC dI cA) [.ref (ad (8, i, t)), .int p0, .int p1] ad R (ze_X (ze_D cA ad nr len σ) cM) none (ze_X (ze_D cA ad nr len (sp_put len (sp_put len σ i t p0 (sp_n len σ i t p1)) i t p1 (sp_n len σ i t p0))) cM) := by
  refine zw_body (cc := cX1_exchange) (maxL := 4) (ret := none) (by decide) rfl (Nat.le_of_ble_eq_true rfl) ?_
  intro p e s m below meth c A ls hx hb hr hlk hml hts hown hnm hA hK hP hD hS hN hl
  have hl : lv_has ls 4 [(0, .ref (ad (8, i, t))), (1, .int p0), (2, .int p1)] := hl
  refine lv_aload_n hx hb dX1_exchange_0 rfl (lv_at hl 0 rfl) ?_
  refine lv_iload_n hx hb dX1_exchange_1 rfl (lv_at hl 1 rfl) ?_
  refine zw_cV (r := (8, i, t)) (As := [.int p0]) (rest := []) (st1 := [.int (sp_n len σ i t p0)]) ⟨hx, hb, hml, hown, hts⟩ (cd_numberAt (σ := σ) hR i t hi ht hlen p0) (cwV 1 hts gX1_exchange_X1_numberAt rfl rfl rfl (by decide +kernel) ⟨Nat.le_of_ble_eq_true rfl, Nat.le_of_ble_eq_true rfl⟩) ((hR.2 i hi).2.2 t ht).1 rfl rfl rfl hK hP hD hS hA hN rfl hl.1 rfl (Nat.le_of_ble_eq_true rfl) rfl dX1_exchange_2 ⟨Nat.zero_le _, Nat.zero_le _⟩ (fun H locs hP hD hS => ?_)
  refine lv_istore_n (lv' := [(3, .int (sp_n len σ i t p0)), (0, .ref (ad (8, i, t))), (1, .int p0), (2, .int p1)]) hx hb dX1_exchange_5 rfl hl (by decide) rfl (fun ls hl => ?_)
  refine lv_aload_n hx hb dX1_exchange_6 rfl (lv_at hl 1 rfl) ?_
  refine lv_iload_n hx hb dX1_exchange_7 rfl (lv_at hl 2 rfl) ?_
  refine lv_aload_n hx hb dX1_exchange_8 rfl (lv_at hl 1 rfl) ?_
  refine lv_iload_n hx hb dX1_exchange_9 rfl (lv_at hl 3 rfl) ?_
  refine zw_cV (r := (8, i, t)) (As := [.int p1]) (rest := [.int p0, .ref (ad (8, i, t))]) (st1 := [.int (sp_n len σ i t p1), .int p0, .ref (ad (8, i, t))]) ⟨hx, hb, hml, hown, hts⟩ (cd_numberAt (σ := σ) hR i t hi ht hlen p1) (cwV 1 hts gX1_exchange_X1_numberAt rfl rfl rfl (by decide +kernel) ⟨Nat.le_of_ble_eq_true rfl, Nat.le_of_ble_eq_true rfl⟩) ((hR.2 i hi).2.2 t ht).1 rfl rfl rfl hK hP hD hS hA hN rfl hl.1 rfl (Nat.le_of_ble_eq_true rfl) rfl dX1_exchange_10 ⟨Nat.zero_le _, Nat.zero_le _⟩ (fun H locs hP hD hS => ?_)
  refine zw_cV (r := (8, i, t)) (As := [.int p0, .int (sp_n len σ i t p1)]) (rest := []) (st1 := []) ⟨hx, hb, hml, hown, hts⟩ (cd_put (σ := σ) hR i t hi ht hlen p0 (sp_n len σ i t p1)) (cwV 2 hts gX1_exchange_X1_put rfl rfl rfl (by decide +kernel) ⟨Nat.le_of_ble_eq_true rfl, Nat.le_of_ble_eq_true rfl⟩) ((hR.2 i hi).2.2 t ht).1 rfl rfl rfl hK hP hD hS hA hN rfl hl.1 rfl (Nat.le_of_ble_eq_true rfl) rfl dX1_exchange_13 ⟨Nat.zero_le _, Nat.zero_le _⟩ (fun H locs hP hD hS => ?_)
  refine lv_aload_n hx hb dX1_exchange_16 rfl (lv_at hl 1 rfl) ?_
  refine lv_iload_n hx hb dX1_exchange_17 rfl (lv_at hl 3 rfl) ?_
  refine lv_iload_n hx hb dX1_exchange_18 rfl (lv_at hl 0 rfl) ?_
  refine zw_cV (r := (8, i, t)) (As := [.int p1, .int (sp_n len σ i t p0)]) (rest := []) (st1 := []) ⟨hx, hb, hml, hown, hts⟩ (cd_put (σ := (sp_put len σ i t p0 (sp_n len σ i t p1))) hR i t hi ht hlen p1 (sp_n len σ i t p0)) (cwV 2 hts gX1_exchange_X1_put rfl rfl rfl (by decide +kernel) ⟨Nat.le_of_ble_eq_true rfl, Nat.le_of_ble_eq_true rfl⟩) ((hR.2 i hi).2.2 t ht).1 rfl rfl rfl hK hP hD hS hA hN rfl hl.1 rfl (Nat.le_of_ble_eq_true rfl) rfl dX1_exchange_19 ⟨Nat.zero_le _, Nat.zero_le _⟩ (fun H locs hP hD hS => ?_)
  exact zw_vret hx hb hr hlk hK hP hD hS dX1_exchange_22 rfl rfl
set_option maxHeartbeats 4000000 in
set_option maxRecDepth 100000 in
/-- reelOf, where there is one -/
theorem cd_reelOf_1 {l : Launch} {dC : Nat → ClassId} {dI : Nat → Nat → Nat} {cA : Nat → ClassId} {ad : zw_R → Nat} {R : List zw_R} {nr : Nat} {len : Nat → Nat} {σ : sp_S} {cM : zw_R → va_E} (hR : ze_R nr R) (hnr : nr ≤ 8) (p0 : Int32) (h : sp_r nr p0) : zw_M l yX2_reelOf wsX2_reelOf { frames := 0, cells := 0, slots := 0, locals := 0 } (ze_E dC dI cA) [.ref (ad (0, 0, 0)), .int p0] ad R (ze_X (ze_D cA ad nr len σ) cM) (some (.ref (ad (6, p0.toNatClampNeg, 0)))) (ze_X (ze_D cA ad nr len σ) cM) := by
  refine zw_body (cc := cX2_reelOf) (maxL := 2) (ret := (some (.object "FourTrackDeck$Reel"))) (by decide) rfl (Nat.le_of_ble_eq_true rfl) ?_
  intro p e s m below meth c A ls hx hb hr hlk hml hts hown hnm hA hK hP hD hS hN hl
  have hl : lv_has ls 2 [(0, .ref (ad (0, 0, 0))), (1, .int p0)] := hl
  have hwX2 : ∀ w ∈ u_ws RX2 TX2 15, w ∈ wsX2_reelOf := by decide +kernel
  refine lv_iload_n hx hb dX2_reelOf_0 rfl (lv_at hl 1 rfl) ?_
  refine lv_if_lt (tgt := 22) hx hb dX2_reelOf_1 (by decide) (fun c_1 => absurd c_1 (Int32.not_lt.mpr h.1)) (fun c_1 => ?_)
  refine lv_iload_n hx hb dX2_reelOf_4 rfl (lv_at hl 1 rfl) ?_
  refine lv_aload_n hx hb dX2_reelOf_5 rfl (lv_at hl 0 rfl) ?_
  refine zw_getf (r := (0, 0, 0)) (v := .ref (ad (1, 0, 0))) (C := RX2) (T := TX2) (N := 15) (ci := 2) hx hb hts hwX2 hown hK hP (hR.1 0 (by decide)) rfl rfl 0 (by decide) (hts (.fieldLink RX2 11 "FourTrackDeck" "reels" "[LFourTrackDeck$Reel;") (by decide +kernel)) (fun _ h9 => h9) rfl dX2_reelOf_6 ?_
  refine zw_alen (r := (1, 0, 0)) (v := 8) hx hb hK hP (hR.1 1 (by decide)) 1 rfl rfl rfl dX2_reelOf_9 ?_
  refine lv_icmp_ge (tgt := 22) hx hb dX2_reelOf_10 (by decide) (fun c_2 => absurd c_2 (ze_r8 h hnr).2) (fun c_2 => ?_)
  refine lv_aload_n hx hb dX2_reelOf_13 rfl (lv_at hl 0 rfl) ?_
  refine zw_getf (r := (0, 0, 0)) (v := .ref (ad (1, 0, 0))) (C := RX2) (T := TX2) (N := 15) (ci := 2) hx hb hts hwX2 hown hK hP (hR.1 0 (by decide)) rfl rfl 0 (by decide) (hts (.fieldLink RX2 11 "FourTrackDeck" "reels" "[LFourTrackDeck$Reel;") (by decide +kernel)) (fun _ h9 => h9) rfl dX2_reelOf_14 ?_
  refine lv_iload_n hx hb dX2_reelOf_17 rfl (lv_at hl 1 rfl) ?_
  refine zw_aldq (r := (1, 0, 0)) (v := .ref (ad (6, p0.toNatClampNeg, 0))) hx hb hK hP (hR.1 1 (by decide)) 1 rfl rfl (ze_r8 h hnr).1 (by rw [if_pos (ze_vr h hnr)]; rfl) dX2_reelOf_18 ?_
  refine lv_goto (tgt := 23) hx hb dX2_reelOf_19 (by decide) ?_
  exact zw_aret hx hb hr hlk hK hP hD hS (Or.inr ⟨_, rfl⟩) dX2_reelOf_23 rfl rfl
set_option maxHeartbeats 4000000 in
set_option maxRecDepth 100000 in
/-- reelOf, where there is none -/
theorem cd_reelOf_0 {l : Launch} {dC : Nat → ClassId} {dI : Nat → Nat → Nat} {cA : Nat → ClassId} {ad : zw_R → Nat} {R : List zw_R} {nr : Nat} {len : Nat → Nat} {σ : sp_S} {cM : zw_R → va_E} (hR : ze_R nr R) (hnr : nr ≤ 8) (p0 : Int32) (h : ¬ sp_r nr p0) : zw_M l yX2_reelOf wsX2_reelOf { frames := 0, cells := 0, slots := 0, locals := 0 } (ze_E dC dI cA) [.ref (ad (0, 0, 0)), .int p0] ad R (ze_X (ze_D cA ad nr len σ) cM) (some (.null)) (ze_X (ze_D cA ad nr len σ) cM) := by
  refine zw_body (cc := cX2_reelOf) (maxL := 2) (ret := (some (.object "FourTrackDeck$Reel"))) (by decide) rfl (Nat.le_of_ble_eq_true rfl) ?_
  intro p e s m below meth c A ls hx hb hr hlk hml hts hown hnm hA hK hP hD hS hN hl
  have hl : lv_has ls 2 [(0, .ref (ad (0, 0, 0))), (1, .int p0)] := hl
  have hwX2 : ∀ w ∈ u_ws RX2 TX2 15, w ∈ wsX2_reelOf := by decide +kernel
  refine lv_iload_n hx hb dX2_reelOf_0 rfl (lv_at hl 1 rfl) ?_
  refine lv_if_lt (tgt := 22) hx hb dX2_reelOf_1 (by decide) (fun c_1 => ?_) (fun c_1 => ?_)
  · refine lv_null hx hb dX2_reelOf_22 ?_
    exact zw_aret hx hb hr hlk hK hP hD hS (Or.inl rfl) dX2_reelOf_23 rfl rfl
  · refine lv_iload_n hx hb dX2_reelOf_4 rfl (lv_at hl 1 rfl) ?_
    refine lv_aload_n hx hb dX2_reelOf_5 rfl (lv_at hl 0 rfl) ?_
    refine zw_getf (r := (0, 0, 0)) (v := .ref (ad (1, 0, 0))) (C := RX2) (T := TX2) (N := 15) (ci := 2) hx hb hts hwX2 hown hK hP (hR.1 0 (by decide)) rfl rfl 0 (by decide) (hts (.fieldLink RX2 11 "FourTrackDeck" "reels" "[LFourTrackDeck$Reel;") (by decide +kernel)) (fun _ h9 => h9) rfl dX2_reelOf_6 ?_
    refine zw_alen (r := (1, 0, 0)) (v := 8) hx hb hK hP (hR.1 1 (by decide)) 1 rfl rfl rfl dX2_reelOf_9 ?_
    refine lv_icmp_ge (tgt := 22) hx hb dX2_reelOf_10 (by decide) (fun c_2 => ?_) (fun c_2 => ?_)
    · refine lv_null hx hb dX2_reelOf_22 ?_
      exact zw_aret hx hb hr hlk hK hP hD hS (Or.inl rfl) dX2_reelOf_23 rfl rfl
    · refine lv_aload_n hx hb dX2_reelOf_13 rfl (lv_at hl 0 rfl) ?_
      refine zw_getf (r := (0, 0, 0)) (v := .ref (ad (1, 0, 0))) (C := RX2) (T := TX2) (N := 15) (ci := 2) hx hb hts hwX2 hown hK hP (hR.1 0 (by decide)) rfl rfl 0 (by decide) (hts (.fieldLink RX2 11 "FourTrackDeck" "reels" "[LFourTrackDeck$Reel;") (by decide +kernel)) (fun _ h9 => h9) rfl dX2_reelOf_14 ?_
      refine lv_iload_n hx hb dX2_reelOf_17 rfl (lv_at hl 1 rfl) ?_
      refine zw_aldq (r := (1, 0, 0)) (v := .null) hx hb hK hP (hR.1 1 (by decide)) 1 rfl rfl (ze_in8 c_1 c_2) (by rw [if_neg (ze_nr h c_1 hnr)]; rfl) dX2_reelOf_18 ?_
      refine lv_goto (tgt := 23) hx hb dX2_reelOf_19 (by decide) ?_
      exact zw_aret hx hb hr hlk hK hP hD hS (Or.inl rfl) dX2_reelOf_23 rfl rfl
set_option maxHeartbeats 4000000 in
set_option maxRecDepth 100000 in
/-- trackOf, where there is one -/
theorem cd_trackOf_1 {l : Launch} {dC : Nat → ClassId} {dI : Nat → Nat → Nat} {cA : Nat → ClassId} {ad : zw_R → Nat} {R : List zw_R} {nr : Nat} {len : Nat → Nat} {σ : sp_S} {cM : zw_R → va_E} (hR : ze_R nr R) (hnr : nr ≤ 8) (p0 p1 : Int32) (h : sp_v nr p0 p1) : zw_M l yX2_trackOf wsX2_trackOf { frames := 2, cells := 0, slots := 0, locals := 42 } (ze_E dC dI cA) [.ref (ad (0, 0, 0)), .int p0, .int p1] ad R (ze_X (ze_D cA ad nr len σ) cM) (some (.ref (ad (8, p0.toNatClampNeg, p1.toNatClampNeg)))) (ze_X (ze_D cA ad nr len σ) cM) := by
  refine zw_body (cc := cX2_trackOf) (maxL := 4) (ret := (some (.object "FourTrackDeck$Track"))) (by decide) rfl (Nat.le_of_ble_eq_true rfl) ?_
  intro p e s m below meth c A ls hx hb hr hlk hml hts hown hnm hA hK hP hD hS hN hl
  have hl : lv_has ls 4 [(0, .ref (ad (0, 0, 0))), (1, .int p0), (2, .int p1)] := hl
  have hwX0 : ∀ w ∈ u_ws RX0 TX0 1, w ∈ wsX2_trackOf := by decide +kernel
  refine lv_aload_n hx hb dX2_trackOf_0 rfl (lv_at hl 0 rfl) ?_
  refine lv_iload_n hx hb dX2_trackOf_1 rfl (lv_at hl 1 rfl) ?_
  refine zw_cV (r := (0, 0, 0)) (As := [.int p0]) (rest := []) (st1 := [.ref (ad (6, p0.toNatClampNeg, 0))]) ⟨hx, hb, hml, hown, hts⟩ (cd_reelOf_1 hR hnr p0 h.1) (cwV 1 hts gX2_trackOf_X2_reelOf rfl rfl rfl (by decide +kernel) ⟨Nat.le_of_ble_eq_true rfl, Nat.le_of_ble_eq_true rfl⟩) (hR.1 0 (by decide)) rfl rfl rfl hK hP hD hS hA hN rfl hl.1 rfl (Nat.le_of_ble_eq_true rfl) rfl dX2_trackOf_2 ⟨Nat.zero_le _, Nat.zero_le _⟩ (fun H locs hP hD hS => ?_)
  refine lv_astore_n (lv' := [(3, .ref (ad (6, p0.toNatClampNeg, 0))), (0, .ref (ad (0, 0, 0))), (1, .int p0), (2, .int p1)]) hx hb dX2_trackOf_5 rfl hl (by decide) rfl (fun ls hl => ?_)
  refine lv_aload_n hx hb dX2_trackOf_6 rfl (lv_at hl 0 rfl) ?_
  refine lv_ifnull hx hb dX2_trackOf_7 ?_
  refine lv_iload_n hx hb dX2_trackOf_10 rfl (lv_at hl 3 rfl) ?_
  refine zw_cS (As := [.int p1]) (rest := []) (st1 := [.int 1]) ⟨hx, hb, hml, hown, hts⟩ (cd_isTrack_1 p1 h.2) (va_cwS 1 hts gX2_trackOf_X2_isTrack rfl rfl rfl (by decide +kernel) ⟨Nat.le_of_ble_eq_true rfl, Nat.le_of_ble_eq_true rfl⟩) hK hP hD hS hA hN rfl hl.1 rfl (Nat.le_of_ble_eq_true rfl) rfl dX2_trackOf_11 ⟨Nat.zero_le _, Nat.zero_le _⟩ (fun H locs hP hD hS => ?_)
  refine lv_if_ne (tgt := 21) hx hb dX2_trackOf_14 (by decide) (fun c_1 => ?_) (fun c_1 => absurd c_1 (by decide))
  refine lv_aload_n hx hb dX2_trackOf_21 rfl (lv_at hl 0 rfl) ?_
  refine zw_getN (r := (6, p0.toNatClampNeg, 0)) (v := .ref (ad (7, p0.toNatClampNeg, 0))) (C := RX0) (T := TX0) (N := 1) (ci := 0) hx hb hts hwX0 hown hK hP (hR.2 p0.toNatClampNeg (ze_vr h.1 hnr)).1 rfl rfl 0 (by decide) ((hN.1 ("FourTrackDeck", 131, "FourTrackDeck$Reel", "tracks", "[LFourTrackDeck$Track;", "FourTrackDeck") (by decide +kernel)).use rfl) (fun _ h9 => h9) rfl dX2_trackOf_22 ?_
  refine lv_iload_n hx hb dX2_trackOf_25 rfl (lv_at hl 3 rfl) ?_
  refine zw_aldq (r := (7, p0.toNatClampNeg, 0)) (v := .ref (ad (8, p0.toNatClampNeg, p1.toNatClampNeg))) hx hb hK hP (hR.2 p0.toNatClampNeg (ze_vr h.1 hnr)).2.1 2 rfl rfl (ze_ti h.2) (by rw [if_pos (ze_vt h.2)]; rfl) dX2_trackOf_26 ?_
  exact zw_aret hx hb hr hlk hK hP hD hS (Or.inr ⟨_, rfl⟩) dX2_trackOf_27 rfl rfl
set_option maxHeartbeats 4000000 in
set_option maxRecDepth 100000 in
/-- trackOf, where there is none -/
theorem cd_trackOf_0 {l : Launch} {dC : Nat → ClassId} {dI : Nat → Nat → Nat} {cA : Nat → ClassId} {ad : zw_R → Nat} {R : List zw_R} {nr : Nat} {len : Nat → Nat} {σ : sp_S} {cM : zw_R → va_E} (hR : ze_R nr R) (hnr : nr ≤ 8) (p0 p1 : Int32) (h : ¬ sp_v nr p0 p1) : zw_M l yX2_trackOf wsX2_trackOf { frames := 2, cells := 0, slots := 0, locals := 42 } (ze_E dC dI cA) [.ref (ad (0, 0, 0)), .int p0, .int p1] ad R (ze_X (ze_D cA ad nr len σ) cM) (some (.null)) (ze_X (ze_D cA ad nr len σ) cM) := by
  refine zw_body (cc := cX2_trackOf) (maxL := 4) (ret := (some (.object "FourTrackDeck$Track"))) (by decide) rfl (Nat.le_of_ble_eq_true rfl) ?_
  intro p e s m below meth c A ls hx hb hr hlk hml hts hown hnm hA hK hP hD hS hN hl
  have hl : lv_has ls 4 [(0, .ref (ad (0, 0, 0))), (1, .int p0), (2, .int p1)] := hl
  refine lv_aload_n hx hb dX2_trackOf_0 rfl (lv_at hl 0 rfl) ?_
  refine lv_iload_n hx hb dX2_trackOf_1 rfl (lv_at hl 1 rfl) ?_
  rcases Decidable.em (sp_r nr p0) with h_1 | h_1
  · refine zw_cV (r := (0, 0, 0)) (As := [.int p0]) (rest := []) (st1 := [.ref (ad (6, p0.toNatClampNeg, 0))]) ⟨hx, hb, hml, hown, hts⟩ (cd_reelOf_1 (σ := σ) hR hnr p0 h_1) (cwV 1 hts gX2_trackOf_X2_reelOf rfl rfl rfl (by decide +kernel) ⟨Nat.le_of_ble_eq_true rfl, Nat.le_of_ble_eq_true rfl⟩) (hR.1 0 (by decide)) rfl rfl rfl hK hP hD hS hA hN rfl hl.1 rfl (Nat.le_of_ble_eq_true rfl) rfl dX2_trackOf_2 ⟨Nat.zero_le _, Nat.zero_le _⟩ (fun H locs hP hD hS => ?_)
    refine lv_astore_n (lv' := [(3, .ref (ad (6, p0.toNatClampNeg, 0))), (0, .ref (ad (0, 0, 0))), (1, .int p0), (2, .int p1)]) hx hb dX2_trackOf_5 rfl hl (by decide) rfl (fun ls hl => ?_)
    refine lv_aload_n hx hb dX2_trackOf_6 rfl (lv_at hl 0 rfl) ?_
    refine lv_ifnull hx hb dX2_trackOf_7 ?_
    refine lv_iload_n hx hb dX2_trackOf_10 rfl (lv_at hl 3 rfl) ?_
    rcases Decidable.em (sp_t p1) with h_2 | h_2
    · refine zw_cS (As := [.int p1]) (rest := []) (st1 := [.int 1]) ⟨hx, hb, hml, hown, hts⟩ (cd_isTrack_1 p1 h_2) (va_cwS 1 hts gX2_trackOf_X2_isTrack rfl rfl rfl (by decide +kernel) ⟨Nat.le_of_ble_eq_true rfl, Nat.le_of_ble_eq_true rfl⟩) hK hP hD hS hA hN rfl hl.1 rfl (Nat.le_of_ble_eq_true rfl) rfl dX2_trackOf_11 ⟨Nat.zero_le _, Nat.zero_le _⟩ (fun H locs hP hD hS => ?_)
      refine lv_if_ne (tgt := 21) hx hb dX2_trackOf_14 (by decide) (fun c_3 => ?_) (fun c_3 => absurd c_3 (by decide))
      exact absurd ⟨h_1, h_2⟩ h
    · refine zw_cS (As := [.int p1]) (rest := []) (st1 := [.int 0]) ⟨hx, hb, hml, hown, hts⟩ (cd_isTrack_0 p1 h_2) (va_cwS 1 hts gX2_trackOf_X2_isTrack rfl rfl rfl (by decide +kernel) ⟨Nat.le_of_ble_eq_true rfl, Nat.le_of_ble_eq_true rfl⟩) hK hP hD hS hA hN rfl hl.1 rfl (Nat.le_of_ble_eq_true rfl) rfl dX2_trackOf_11 ⟨Nat.zero_le _, Nat.zero_le _⟩ (fun H locs hP hD hS => ?_)
      refine lv_if_ne (tgt := 21) hx hb dX2_trackOf_14 (by decide) (fun c_4 => absurd (by decide) c_4) (fun c_4 => ?_)
      refine lv_null hx hb dX2_trackOf_17 ?_
      refine lv_goto (tgt := 27) hx hb dX2_trackOf_18 (by decide) ?_
      exact zw_aret hx hb hr hlk hK hP hD hS (Or.inl rfl) dX2_trackOf_27 rfl rfl
  · refine zw_cV (r := (0, 0, 0)) (As := [.int p0]) (rest := []) (st1 := [.null]) ⟨hx, hb, hml, hown, hts⟩ (cd_reelOf_0 (σ := σ) hR hnr p0 h_1) (cwV 1 hts gX2_trackOf_X2_reelOf rfl rfl rfl (by decide +kernel) ⟨Nat.le_of_ble_eq_true rfl, Nat.le_of_ble_eq_true rfl⟩) (hR.1 0 (by decide)) rfl rfl rfl hK hP hD hS hA hN rfl hl.1 rfl (Nat.le_of_ble_eq_true rfl) rfl dX2_trackOf_2 ⟨Nat.zero_le _, Nat.zero_le _⟩ (fun H locs hP hD hS => ?_)
    refine lv_astore_nN (lv' := [(3, .null), (0, .ref (ad (0, 0, 0))), (1, .int p0), (2, .int p1)]) hx hb dX2_trackOf_5 rfl hl (by decide) rfl (fun ls hl => ?_)
    refine lv_aload_nN hx hb dX2_trackOf_6 rfl (lv_at hl 0 rfl) ?_
    refine lv_ifnullN (tgt := 17) hx hb dX2_trackOf_7 (by decide) ?_
    refine lv_null hx hb dX2_trackOf_17 ?_
    refine lv_goto (tgt := 27) hx hb dX2_trackOf_18 (by decide) ?_
    exact zw_aret hx hb hr hlk hK hP hD hS (Or.inl rfl) dX2_trackOf_27 rfl rfl
set_option maxHeartbeats 4000000 in
set_option maxRecDepth 100000 in
theorem cd_why {l : Launch} {dC : Nat → ClassId} {dI : Nat → Nat → Nat} {cA : Nat → ClassId} {ad : zw_R → Nat} {R : List zw_R} {nr : Nat} {len : Nat → Nat} {σ : sp_S} {cM : zw_R → va_E} (hR : ze_R nr R) (p0 : Int32) : zw_M l yX2_whyNoneUnderHead wsX2_whyNoneUnderHead { frames := 2, cells := 0, slots := 0, locals := 42 } (ze_E dC dI cA) [.ref (ad (0, 0, 0)), .int p0] ad R (ze_X (ze_D cA ad nr len σ) cM) (some (.int (if sp_t p0 then 5 else 1))) (ze_X (ze_D cA ad nr len σ) cM) := by
  refine zw_body (cc := cX2_whyNoneUnderHead) (maxL := 2) (ret := (some .int)) (by decide) rfl (Nat.le_of_ble_eq_true rfl) ?_
  intro p e s m below meth c A ls hx hb hr hlk hml hts hown hnm hA hK hP hD hS hN hl
  have hl : lv_has ls 2 [(0, .ref (ad (0, 0, 0))), (1, .int p0)] := hl
  refine lv_iload_n hx hb dX2_whyNoneUnderHead_0 rfl (lv_at hl 1 rfl) ?_
  rcases Decidable.em (sp_t p0) with h_1 | h_1
  · refine zw_cS (As := [.int p0]) (rest := []) (st1 := [.int 1]) ⟨hx, hb, hml, hown, hts⟩ (cd_isTrack_1 p0 h_1) (va_cwS 1 hts gX2_whyNoneUnderHead_X2_isTrack rfl rfl rfl (by decide +kernel) ⟨Nat.le_of_ble_eq_true rfl, Nat.le_of_ble_eq_true rfl⟩) hK hP hD hS hA hN rfl hl.1 rfl (Nat.le_of_ble_eq_true rfl) rfl dX2_whyNoneUnderHead_1 ⟨Nat.zero_le _, Nat.zero_le _⟩ (fun H locs hP hD hS => ?_)
    refine lv_if_eq (tgt := 11) hx hb dX2_whyNoneUnderHead_4 (by decide) (fun c_2 => absurd c_2 (by decide)) (fun c_2 => ?_)
    refine lv_iconst (v := 5) hx hb dX2_whyNoneUnderHead_7 (by decide) ?_
    refine lv_goto (tgt := 12) hx hb dX2_whyNoneUnderHead_8 (by decide) ?_
    exact zw_iret hx hb hr hlk hK hP hD hS dX2_whyNoneUnderHead_12 (by simp only [if_pos h_1] <;> rfl) rfl
  · refine zw_cS (As := [.int p0]) (rest := []) (st1 := [.int 0]) ⟨hx, hb, hml, hown, hts⟩ (cd_isTrack_0 p0 h_1) (va_cwS 1 hts gX2_whyNoneUnderHead_X2_isTrack rfl rfl rfl (by decide +kernel) ⟨Nat.le_of_ble_eq_true rfl, Nat.le_of_ble_eq_true rfl⟩) hK hP hD hS hA hN rfl hl.1 rfl (Nat.le_of_ble_eq_true rfl) rfl dX2_whyNoneUnderHead_1 ⟨Nat.zero_le _, Nat.zero_le _⟩ (fun H locs hP hD hS => ?_)
    refine lv_if_eq (tgt := 11) hx hb dX2_whyNoneUnderHead_4 (by decide) (fun c_3 => ?_) (fun c_3 => absurd (by decide) c_3)
    refine lv_iconst (v := 1) hx hb dX2_whyNoneUnderHead_11 (by decide) ?_
    exact zw_iret hx hb hr hlk hK hP hD hS dX2_whyNoneUnderHead_12 (by simp only [if_neg h_1] <;> rfl) rfl
set_option maxHeartbeats 4000000 in
set_option maxRecDepth 100000 in
/-- placeOfHead of a track -/
theorem cd_place {l : Launch} {dC : Nat → ClassId} {dI : Nat → Nat → Nat} {cA : Nat → ClassId} {ad : zw_R → Nat} {R : List zw_R} {nr : Nat} {len : Nat → Nat} {σ : sp_S} {cM : zw_R → va_E} (hR : ze_R nr R) (p0 : Int32) (h : sp_t p0) : zw_M l yX2_placeOfHead wsX2_placeOfHead { frames := 2, cells := 0, slots := 0, locals := 42 } (ze_E dC dI cA) [.ref (ad (0, 0, 0)), .int p0] ad R (ze_X (ze_D cA ad nr len σ) cM) (some (.int (σ (0, 0, 0) 2 + σ (2, 0, 0) p0.toNatClampNeg))) (ze_X (ze_D cA ad nr len σ) cM) := by
  refine zw_body (cc := cX2_placeOfHead) (maxL := 2) (ret := (some .int)) (by decide) rfl (Nat.le_of_ble_eq_true rfl) ?_
  intro p e s m below meth c A ls hx hb hr hlk hml hts hown hnm hA hK hP hD hS hN hl
  have hl : lv_has ls 2 [(0, .ref (ad (0, 0, 0))), (1, .int p0)] := hl
  have hwX2 : ∀ w ∈ u_ws RX2 TX2 15, w ∈ wsX2_placeOfHead := by decide +kernel
  refine lv_iload_n hx hb dX2_placeOfHead_0 rfl (lv_at hl 1 rfl) ?_
  refine zw_cS (As := [.int p0]) (rest := []) (st1 := [.int 1]) ⟨hx, hb, hml, hown, hts⟩ (cd_isTrack_1 p0 h) (va_cwS 1 hts gX2_placeOfHead_X2_isTrack rfl rfl rfl (by decide +kernel) ⟨Nat.le_of_ble_eq_true rfl, Nat.le_of_ble_eq_true rfl⟩) hK hP hD hS hA hN rfl hl.1 rfl (Nat.le_of_ble_eq_true rfl) rfl dX2_placeOfHead_1 ⟨Nat.zero_le _, Nat.zero_le _⟩ (fun H locs hP hD hS => ?_)
  refine lv_if_eq (tgt := 21) hx hb dX2_placeOfHead_4 (by decide) (fun c_1 => absurd c_1 (by decide)) (fun c_1 => ?_)
  refine lv_aload_n hx hb dX2_placeOfHead_7 rfl (lv_at hl 0 rfl) ?_
  refine zw_getf (r := (0, 0, 0)) (v := .int (σ (0, 0, 0) 2)) (C := RX2) (T := TX2) (N := 15) (ci := 2) hx hb hts hwX2 hown hK hP (hR.1 0 (by decide)) rfl rfl 3 (by decide) (hts (.fieldLink RX2 22 "FourTrackDeck" "tapeAt" "I") (by decide +kernel)) (fun _ h9 => h9) rfl dX2_placeOfHead_8 ?_
  refine lv_aload_n hx hb dX2_placeOfHead_11 rfl (lv_at hl 0 rfl) ?_
  refine zw_getf (r := (0, 0, 0)) (v := .ref (ad (2, 0, 0))) (C := RX2) (T := TX2) (N := 15) (ci := 2) hx hb hts hwX2 hown hK hP (hR.1 0 (by decide)) rfl rfl 4 (by decide) (hts (.fieldLink RX2 25 "FourTrackDeck" "offsets" "[I") (by decide +kernel)) (fun _ h9 => h9) rfl dX2_placeOfHead_12 ?_
  refine lv_iload_n hx hb dX2_placeOfHead_15 rfl (lv_at hl 1 rfl) ?_
  refine zw_iald (r := (2, 0, 0)) hx hb hK hP (hR.1 2 (by decide)) 0 rfl rfl (ze_ti h) dX2_placeOfHead_16 ?_
  refine lv_iadd hx hb dX2_placeOfHead_17 ?_
  refine lv_goto (tgt := 25) hx hb dX2_placeOfHead_18 (by decide) ?_
  exact zw_iret hx hb hr hlk hK hP hD hS dX2_placeOfHead_25 rfl rfl
