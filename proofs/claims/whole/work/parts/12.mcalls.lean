theorem sp_fs {len : Nat → Nat} {σ : sp_S} {i t i2 t2 j : Nat} {p v : Int32} : sp_f len (sp_s σ (9, i2, t2) j v) i t p = sp_f len σ i t p := rfl
theorem sp_ss {σ : sp_S} {r : zw_R} {j : Nat} {v : Int32} : sp_s σ r j v r j = v := by simp [sp_s, zw_u, upd]
theorem sp_write_1 {nr : Nat} {len : Nat → Nat} {σ : sp_S} {p0 p1 : Int32} (h : sp_v nr (σ (0, 0, 0) 1) p0) (c : sp_f len σ (σ (0, 0, 0) 1).toNatClampNeg p0.toNatClampNeg (σ (0, 0, 0) 2 + σ (2, 0, 0) p0.toNatClampNeg) = 0) : sp_write nr len σ p0 p1 = (sp_as p0.toNatClampNeg p1, sp_e (sp_s σ (9, (σ (0, 0, 0) 1).toNatClampNeg, p0.toNatClampNeg) (σ (0, 0, 0) 2 + σ (2, 0, 0) p0.toNatClampNeg).toNatClampNeg (sp_as p0.toNatClampNeg p1)) 0) := by
  unfold sp_write sp_n
  rw [if_pos h]
  have e : sp_put len σ (σ (0, 0, 0) 1).toNatClampNeg p0.toNatClampNeg (σ (0, 0, 0) 2 + σ (2, 0, 0) p0.toNatClampNeg) p1 = sp_s σ (9, (σ (0, 0, 0) 1).toNatClampNeg, p0.toNatClampNeg) (σ (0, 0, 0) 2 + σ (2, 0, 0) p0.toNatClampNeg).toNatClampNeg (sp_as p0.toNatClampNeg p1) := by unfold sp_put; rw [if_pos c]
  rw [e, sp_fs, c, if_pos rfl, sp_ss]
theorem sp_write_0 {nr : Nat} {len : Nat → Nat} {σ : sp_S} {p0 p1 : Int32} (h : sp_v nr (σ (0, 0, 0) 1) p0) (c : ¬ sp_f len σ (σ (0, 0, 0) 1).toNatClampNeg p0.toNatClampNeg (σ (0, 0, 0) 2 + σ (2, 0, 0) p0.toNatClampNeg) = 0) : sp_write nr len σ p0 p1 = (0, sp_e σ (sp_f len σ (σ (0, 0, 0) 1).toNatClampNeg p0.toNatClampNeg (σ (0, 0, 0) 2 + σ (2, 0, 0) p0.toNatClampNeg))) := by
  unfold sp_write sp_n
  rw [if_pos h]
  have e : sp_put len σ (σ (0, 0, 0) 1).toNatClampNeg p0.toNatClampNeg (σ (0, 0, 0) 2 + σ (2, 0, 0) p0.toNatClampNeg) p1 = σ := by unfold sp_put; rw [if_neg c]
  rw [e, if_neg c]
theorem zm_ct {nr : Nat} {x : Int32} (h : sp_r nr (x - 10)) (hn : nr ≤ 8) : 10 ≤ x ∧ x ≤ 17 := by
  have h1 := ze_vr h hn
  have e : x = nI ((x - 10).toNatClampNeg + 10) := by
    have e1 := ze_nn h.1
    have e2 : x - 10 + 10 = x := Int32.sub_add_cancel x 10
    rw [← nI_add, e1]
    exact e2.symm
  have e3 : x.toInt = ((x - 10).toNatClampNeg + 10 : Nat) := by
    conv => lhs; rw [e]
    exact nI_toInt (by omega)
  have a1 : (10 : Int32).toInt = 10 := rfl
  have a2 : (17 : Int32).toInt = 17 := rfl
  exact ⟨Int32.le_iff_toInt_le.mpr (by omega), Int32.le_iff_toInt_le.mpr (by omega)⟩
set_option maxHeartbeats 4000000 in
set_option maxRecDepth 100000 in
theorem cm_strip {l : Launch} {dC : Nat → ClassId} {dI : Nat → Nat → Nat} {cA : Nat → ClassId} {ad : zw_R → Nat} {R : List zw_R} {nr : Nat} {len : Nat → Nat} {σ : sp_S} {cD : zw_R → va_E} (hM : zm_R R) (hnr : nr ≤ 8) (hI0 : σ (0, 0, 0) 0 = nI nr) (p0 p1 : Int32) : zw_M l yX3_strip wsX3_strip { frames := 1, cells := 0, slots := 0, locals := 22 } (ze_E dC dI cA) [.ref (ad (20, 0, 0)), .int p0, .int p1] ad R (ze_X cD (ze_M cA ad len σ)) (some (.int ((sp_strip nr len σ p0 p1).1))) (ze_X cD (ze_M cA ad len (sp_strip nr len σ p0 p1).2)) := by
  refine zw_body (cc := cX3_strip) (maxL := 4) (ret := (some .int)) (by decide) rfl (Nat.le_of_ble_eq_true rfl) ?_
  intro p e s m below meth c A ls hx hb hr hlk hml hts hown hnm hA hK hP hD hS hN hl
  have hl : lv_has ls 4 [(0, .ref (ad (20, 0, 0))), (1, .int p0), (2, .int p1)] := hl
  have hwX3 : ∀ w ∈ u_ws RX3 TX3 17, w ∈ wsX3_strip := by decide +kernel
  refine lv_aload_n hx hb dX3_strip_0 rfl (lv_at hl 0 rfl) ?_
  refine lv_iload_n hx hb dX3_strip_1 rfl (lv_at hl 1 rfl) ?_
  rcases Decidable.em (sp_r nr p0) with h_1 | h_1
  · refine zw_cV (r := (20, 0, 0)) (As := [.int p0]) (rest := []) (st1 := [.int 1]) ⟨hx, hb, hml, hown, hts⟩ (cm_isReel_1 (σ := σ) hM hI0 p0 h_1) (cwV 1 hts gX3_strip_X3_isReel rfl rfl rfl (by decide +kernel) ⟨Nat.le_of_ble_eq_true rfl, Nat.le_of_ble_eq_true rfl⟩) (hM 0 (by decide)) rfl rfl rfl hK hP hD hS hA hN rfl hl.1 rfl (Nat.le_of_ble_eq_true rfl) rfl dX3_strip_2 ⟨Nat.zero_le _, Nat.zero_le _⟩ (fun H locs hP hD hS => ?_)
    refine lv_if_eq (tgt := 16) hx hb dX3_strip_5 (by decide) (fun c_2 => absurd c_2 (by decide)) (fun c_2 => ?_)
    refine lv_aload_n hx hb dX3_strip_8 rfl (lv_at hl 0 rfl) ?_
    refine lv_iload_n hx hb dX3_strip_9 rfl (lv_at hl 2 rfl) ?_
    rcases Decidable.em (sp_t p1) with h_3 | h_3
    · refine zw_cV (r := (20, 0, 0)) (As := [.int p1]) (rest := []) (st1 := [.int 1]) ⟨hx, hb, hml, hown, hts⟩ (cm_isTrack_1 (σ := σ) p1 h_3) (cwV 1 hts gX3_strip_X3_isTrack rfl rfl rfl (by decide +kernel) ⟨Nat.le_of_ble_eq_true rfl, Nat.le_of_ble_eq_true rfl⟩) (hM 0 (by decide)) rfl rfl rfl hK hP hD hS hA hN rfl hl.1 rfl (Nat.le_of_ble_eq_true rfl) rfl dX3_strip_10 ⟨Nat.zero_le _, Nat.zero_le _⟩ (fun H locs hP hD hS => ?_)
      refine lv_if_ne (tgt := 23) hx hb dX3_strip_13 (by decide) (fun c_4 => ?_) (fun c_4 => absurd c_4 (by decide))
      refine lv_aload_n hx hb dX3_strip_23 rfl (lv_at hl 0 rfl) ?_
      refine lv_iload_n hx hb dX3_strip_24 rfl (lv_at hl 1 rfl) ?_
      refine lv_iload_n hx hb dX3_strip_25 rfl (lv_at hl 2 rfl) ?_
      rcases Decidable.em (σ (8, p0.toNatClampNeg, p1.toNatClampNeg) 1 = 0) with h_5 | h_5
      · refine zw_cV (r := (20, 0, 0)) (As := [.int p0, .int p1]) (rest := []) (st1 := [.int 0]) ⟨hx, hb, hml, hown, hts⟩ (cm_isThere_0 (σ := σ) hM hnr p0 p1 h_1 h_3 h_5) (cwV 2 hts gX3_strip_X3_isThere rfl rfl rfl (by decide +kernel) ⟨Nat.le_of_ble_eq_true rfl, Nat.le_of_ble_eq_true rfl⟩) (hM 0 (by decide)) rfl rfl rfl hK hP hD hS hA hN rfl hl.1 rfl (Nat.le_of_ble_eq_true rfl) rfl dX3_strip_26 ⟨Nat.zero_le _, Nat.zero_le _⟩ (fun H locs hP hD hS => ?_)
        refine lv_if_eq (tgt := 36) hx hb dX3_strip_29 (by decide) (fun c_6 => ?_) (fun c_6 => absurd (by decide) c_6)
        refine lv_iconst (v := 0) hx hb dX3_strip_36 (by decide) ?_
        refine lv_istore_n (lv' := [(3, .int 0), (0, .ref (ad (20, 0, 0))), (1, .int p0), (2, .int p1)]) hx hb dX3_strip_37 rfl hl (by decide) rfl (fun ls hl => ?_)
        refine lv_aload_n hx hb dX3_strip_38 rfl (lv_at hl 1 rfl) ?_
        refine zw_getf (r := (20, 0, 0)) (v := .ref (ad (22, 0, 0))) (C := RX3) (T := TX3) (N := 17) (ci := 3) hx hb hts hwX3 hown hK hP (hM 0 (by decide)) rfl rfl 2 (by decide) (hts (.fieldLink RX3 13 "FourTrackDeckModel" "there" "[I") (by decide +kernel)) (fun _ h9 => h9) rfl dX3_strip_39 ?_
        refine lv_iload_n hx hb dX3_strip_42 rfl (lv_at hl 2 rfl) ?_
        refine lv_aload_n hx hb dX3_strip_43 rfl (lv_at hl 1 rfl) ?_
        refine zw_getf (r := (20, 0, 0)) (v := .ref (ad (22, 0, 0))) (C := RX3) (T := TX3) (N := 17) (ci := 3) hx hb hts hwX3 hown hK hP (hM 0 (by decide)) rfl rfl 2 (by decide) (hts (.fieldLink RX3 13 "FourTrackDeckModel" "there" "[I") (by decide +kernel)) (fun _ h9 => h9) rfl dX3_strip_44 ?_
        refine lv_iload_n hx hb dX3_strip_47 rfl (lv_at hl 2 rfl) ?_
        refine zw_iald (r := (22, 0, 0)) hx hb hK hP (hM 2 (by decide)) 0 rfl rfl (ze_r8 h_1 hnr).1 dX3_strip_48 ?_
        refine lv_iconst (v := 1) hx hb dX3_strip_49 (by decide) ?_
        refine lv_iload_n hx hb dX3_strip_50 rfl (lv_at hl 3 rfl) ?_
        refine lv_ishl hx hb dX3_strip_51 ?_
        refine lv_iconst (v := (-1)) hx hb dX3_strip_52 (by decide) ?_
        refine lv_ixor hx hb dX3_strip_53 ?_
        refine lv_iand hx hb dX3_strip_54 ?_
        refine zw_iast (r := (22, 0, 0)) hx hb hK hP hD hS (hM 2 (by decide)) 0 rfl rfl (ze_r8 h_1 hnr).1 dX3_strip_55 (cu1 := ze_X cD (ze_M cA ad len (sp_s σ (8, p0.toNatClampNeg, p1.toNatClampNeg) 1 0))) (zm_T (y := 0) (ze_vt h_3) (by have e := zm_off (σ := σ) (i := p0.toNatClampNeg) (ze_vt h_3); rw [ze_tn h_3] at e; exact e)) (fun H locs hP hD hS => ?_)
        refine lv_aload_n hx hb dX3_strip_56 rfl (lv_at hl 1 rfl) ?_
        refine lv_iload_n hx hb dX3_strip_57 rfl (lv_at hl 0 rfl) ?_
        refine zw_cV (r := (20, 0, 0)) (As := [.int 0]) (rest := []) (st1 := [.int 0]) ⟨hx, hb, hml, hown, hts⟩ (cm_done (σ := (sp_s σ (8, p0.toNatClampNeg, p1.toNatClampNeg) 1 0)) hM 0) (cwV 1 hts gX3_strip_X3_done rfl rfl rfl (by decide +kernel) ⟨Nat.le_of_ble_eq_true rfl, Nat.le_of_ble_eq_true rfl⟩) (hM 0 (by decide)) rfl rfl rfl hK hP hD hS hA hN rfl hl.1 rfl (Nat.le_of_ble_eq_true rfl) rfl dX3_strip_58 ⟨Nat.zero_le _, Nat.zero_le _⟩ (fun H locs hP hD hS => ?_)
        exact zw_iret hx hb hr hlk hK hP hD hS dX3_strip_61 (by simp only [sp_strip, if_pos (show sp_v nr p0 p1 from ⟨h_1, h_3⟩), if_pos h_1, if_pos h_3, if_pos h_5, ite_self] <;> rfl) (by simp only [sp_strip, if_pos (show sp_v nr p0 p1 from ⟨h_1, h_3⟩), if_pos h_1, if_pos h_3, if_pos h_5, ite_self] <;> rfl)
      · refine zw_cV (r := (20, 0, 0)) (As := [.int p0, .int p1]) (rest := []) (st1 := [.int 1]) ⟨hx, hb, hml, hown, hts⟩ (cm_isThere_1 (σ := σ) hM hnr p0 p1 h_1 h_3 h_5) (cwV 2 hts gX3_strip_X3_isThere rfl rfl rfl (by decide +kernel) ⟨Nat.le_of_ble_eq_true rfl, Nat.le_of_ble_eq_true rfl⟩) (hM 0 (by decide)) rfl rfl rfl hK hP hD hS hA hN rfl hl.1 rfl (Nat.le_of_ble_eq_true rfl) rfl dX3_strip_26 ⟨Nat.zero_le _, Nat.zero_le _⟩ (fun H locs hP hD hS => ?_)
        refine lv_if_eq (tgt := 36) hx hb dX3_strip_29 (by decide) (fun c_7 => absurd c_7 (by decide)) (fun c_7 => ?_)
        refine lv_iconst (v := 1) hx hb dX3_strip_32 (by decide) ?_
        refine lv_goto (tgt := 37) hx hb dX3_strip_33 (by decide) ?_
        refine lv_istore_n (lv' := [(3, .int 1), (0, .ref (ad (20, 0, 0))), (1, .int p0), (2, .int p1)]) hx hb dX3_strip_37 rfl hl (by decide) rfl (fun ls hl => ?_)
        refine lv_aload_n hx hb dX3_strip_38 rfl (lv_at hl 1 rfl) ?_
        refine zw_getf (r := (20, 0, 0)) (v := .ref (ad (22, 0, 0))) (C := RX3) (T := TX3) (N := 17) (ci := 3) hx hb hts hwX3 hown hK hP (hM 0 (by decide)) rfl rfl 2 (by decide) (hts (.fieldLink RX3 13 "FourTrackDeckModel" "there" "[I") (by decide +kernel)) (fun _ h9 => h9) rfl dX3_strip_39 ?_
        refine lv_iload_n hx hb dX3_strip_42 rfl (lv_at hl 2 rfl) ?_
        refine lv_aload_n hx hb dX3_strip_43 rfl (lv_at hl 1 rfl) ?_
        refine zw_getf (r := (20, 0, 0)) (v := .ref (ad (22, 0, 0))) (C := RX3) (T := TX3) (N := 17) (ci := 3) hx hb hts hwX3 hown hK hP (hM 0 (by decide)) rfl rfl 2 (by decide) (hts (.fieldLink RX3 13 "FourTrackDeckModel" "there" "[I") (by decide +kernel)) (fun _ h9 => h9) rfl dX3_strip_44 ?_
        refine lv_iload_n hx hb dX3_strip_47 rfl (lv_at hl 2 rfl) ?_
        refine zw_iald (r := (22, 0, 0)) hx hb hK hP (hM 2 (by decide)) 0 rfl rfl (ze_r8 h_1 hnr).1 dX3_strip_48 ?_
        refine lv_iconst (v := 1) hx hb dX3_strip_49 (by decide) ?_
        refine lv_iload_n hx hb dX3_strip_50 rfl (lv_at hl 3 rfl) ?_
        refine lv_ishl hx hb dX3_strip_51 ?_
        refine lv_iconst (v := (-1)) hx hb dX3_strip_52 (by decide) ?_
        refine lv_ixor hx hb dX3_strip_53 ?_
        refine lv_iand hx hb dX3_strip_54 ?_
        refine zw_iast (r := (22, 0, 0)) hx hb hK hP hD hS (hM 2 (by decide)) 0 rfl rfl (ze_r8 h_1 hnr).1 dX3_strip_55 (cu1 := ze_X cD (ze_M cA ad len (sp_s σ (8, p0.toNatClampNeg, p1.toNatClampNeg) 1 0))) (zm_T (y := 0) (ze_vt h_3) (by have e := zm_off (σ := σ) (i := p0.toNatClampNeg) (ze_vt h_3); rw [ze_tn h_3] at e; exact e)) (fun H locs hP hD hS => ?_)
        refine lv_aload_n hx hb dX3_strip_56 rfl (lv_at hl 1 rfl) ?_
        refine lv_iload_n hx hb dX3_strip_57 rfl (lv_at hl 0 rfl) ?_
        refine zw_cV (r := (20, 0, 0)) (As := [.int 1]) (rest := []) (st1 := [.int 1]) ⟨hx, hb, hml, hown, hts⟩ (cm_done (σ := (sp_s σ (8, p0.toNatClampNeg, p1.toNatClampNeg) 1 0)) hM 1) (cwV 1 hts gX3_strip_X3_done rfl rfl rfl (by decide +kernel) ⟨Nat.le_of_ble_eq_true rfl, Nat.le_of_ble_eq_true rfl⟩) (hM 0 (by decide)) rfl rfl rfl hK hP hD hS hA hN rfl hl.1 rfl (Nat.le_of_ble_eq_true rfl) rfl dX3_strip_58 ⟨Nat.zero_le _, Nat.zero_le _⟩ (fun H locs hP hD hS => ?_)
        exact zw_iret hx hb hr hlk hK hP hD hS dX3_strip_61 (by simp only [sp_strip, if_pos (show sp_v nr p0 p1 from ⟨h_1, h_3⟩), if_pos h_1, if_pos h_3, if_neg h_5, ite_self] <;> rfl) (by simp only [sp_strip, if_pos (show sp_v nr p0 p1 from ⟨h_1, h_3⟩), if_pos h_1, if_pos h_3, if_neg h_5, ite_self] <;> rfl)
    · refine zw_cV (r := (20, 0, 0)) (As := [.int p1]) (rest := []) (st1 := [.int 0]) ⟨hx, hb, hml, hown, hts⟩ (cm_isTrack_0 (σ := σ) p1 h_3) (cwV 1 hts gX3_strip_X3_isTrack rfl rfl rfl (by decide +kernel) ⟨Nat.le_of_ble_eq_true rfl, Nat.le_of_ble_eq_true rfl⟩) (hM 0 (by decide)) rfl rfl rfl hK hP hD hS hA hN rfl hl.1 rfl (Nat.le_of_ble_eq_true rfl) rfl dX3_strip_10 ⟨Nat.zero_le _, Nat.zero_le _⟩ (fun H locs hP hD hS => ?_)
      refine lv_if_ne (tgt := 23) hx hb dX3_strip_13 (by decide) (fun c_8 => absurd (by decide) c_8) (fun c_8 => ?_)
      refine lv_aload_n hx hb dX3_strip_16 rfl (lv_at hl 0 rfl) ?_
      refine lv_iconst (v := 1) hx hb dX3_strip_17 (by decide) ?_
      refine lv_iconst (v := (-1)) hx hb dX3_strip_18 (by decide) ?_
      refine zw_cV (r := (20, 0, 0)) (As := [.int 1, .int (-1)]) (rest := []) (st1 := [.int (-1)]) ⟨hx, hb, hml, hown, hts⟩ (cm_fails (σ := σ) hM 1 (-1)) (cwV 2 hts gX3_strip_X3_fails rfl rfl rfl (by decide +kernel) ⟨Nat.le_of_ble_eq_true rfl, Nat.le_of_ble_eq_true rfl⟩) (hM 0 (by decide)) rfl rfl rfl hK hP hD hS hA hN rfl hl.1 rfl (Nat.le_of_ble_eq_true rfl) rfl dX3_strip_19 ⟨Nat.zero_le _, Nat.zero_le _⟩ (fun H locs hP hD hS => ?_)
      exact zw_iret hx hb hr hlk hK hP hD hS dX3_strip_22 (by simp only [sp_strip, if_neg (show ¬ sp_v nr p0 p1 from fun q => h_3 q.2), if_pos h_1, if_neg h_3, ite_self] <;> rfl) (by simp only [sp_strip, if_neg (show ¬ sp_v nr p0 p1 from fun q => h_3 q.2), if_pos h_1, if_neg h_3, ite_self] <;> rfl)
  · refine zw_cV (r := (20, 0, 0)) (As := [.int p0]) (rest := []) (st1 := [.int 0]) ⟨hx, hb, hml, hown, hts⟩ (cm_isReel_0 (σ := σ) hM hI0 p0 h_1) (cwV 1 hts gX3_strip_X3_isReel rfl rfl rfl (by decide +kernel) ⟨Nat.le_of_ble_eq_true rfl, Nat.le_of_ble_eq_true rfl⟩) (hM 0 (by decide)) rfl rfl rfl hK hP hD hS hA hN rfl hl.1 rfl (Nat.le_of_ble_eq_true rfl) rfl dX3_strip_2 ⟨Nat.zero_le _, Nat.zero_le _⟩ (fun H locs hP hD hS => ?_)
    refine lv_if_eq (tgt := 16) hx hb dX3_strip_5 (by decide) (fun c_9 => ?_) (fun c_9 => absurd (by decide) c_9)
    refine lv_aload_n hx hb dX3_strip_16 rfl (lv_at hl 0 rfl) ?_
    refine lv_iconst (v := 1) hx hb dX3_strip_17 (by decide) ?_
    refine lv_iconst (v := (-1)) hx hb dX3_strip_18 (by decide) ?_
    refine zw_cV (r := (20, 0, 0)) (As := [.int 1, .int (-1)]) (rest := []) (st1 := [.int (-1)]) ⟨hx, hb, hml, hown, hts⟩ (cm_fails (σ := σ) hM 1 (-1)) (cwV 2 hts gX3_strip_X3_fails rfl rfl rfl (by decide +kernel) ⟨Nat.le_of_ble_eq_true rfl, Nat.le_of_ble_eq_true rfl⟩) (hM 0 (by decide)) rfl rfl rfl hK hP hD hS hA hN rfl hl.1 rfl (Nat.le_of_ble_eq_true rfl) rfl dX3_strip_19 ⟨Nat.zero_le _, Nat.zero_le _⟩ (fun H locs hP hD hS => ?_)
    exact zw_iret hx hb hr hlk hK hP hD hS dX3_strip_22 (by simp only [sp_strip, if_neg (show ¬ sp_v nr p0 p1 from fun q => h_1 q.1), if_neg h_1, ite_self] <;> rfl) (by simp only [sp_strip, if_neg (show ¬ sp_v nr p0 p1 from fun q => h_1 q.1), if_neg h_1, ite_self] <;> rfl)
set_option maxHeartbeats 4000000 in
set_option maxRecDepth 100000 in
theorem cm_thread {l : Launch} {dC : Nat → ClassId} {dI : Nat → Nat → Nat} {cA : Nat → ClassId} {ad : zw_R → Nat} {R : List zw_R} {nr : Nat} {len : Nat → Nat} {σ : sp_S} {cD : zw_R → va_E} (hM : zm_R R) (hI0 : σ (0, 0, 0) 0 = nI nr) (p0 : Int32) : zw_M l yX3_thread wsX3_thread { frames := 1, cells := 0, slots := 0, locals := 22 } (ze_E dC dI cA) [.ref (ad (20, 0, 0)), .int p0] ad R (ze_X cD (ze_M cA ad len σ)) (some (.int ((sp_thread nr len σ p0).1))) (ze_X cD (ze_M cA ad len (sp_thread nr len σ p0).2)) := by
  refine zw_body (cc := cX3_thread) (maxL := 3) (ret := (some .int)) (by decide) rfl (Nat.le_of_ble_eq_true rfl) ?_
  intro p e s m below meth c A ls hx hb hr hlk hml hts hown hnm hA hK hP hD hS hN hl
  have hl : lv_has ls 3 [(0, .ref (ad (20, 0, 0))), (1, .int p0)] := hl
  have hwX3 : ∀ w ∈ u_ws RX3 TX3 17, w ∈ wsX3_thread := by decide +kernel
  refine lv_iload_n hx hb dX3_thread_0 rfl (lv_at hl 1 rfl) ?_
  refine lv_iconst (v := (-1)) hx hb dX3_thread_1 (by decide) ?_
  refine lv_icmp_eq (tgt := 20) hx hb dX3_thread_2 (by decide) (fun c_1 => ?_) (fun c_1 => ?_)
  · refine lv_aload_n hx hb dX3_thread_20 rfl (lv_at hl 0 rfl) ?_
    refine zw_getf (r := (20, 0, 0)) (v := .int (σ (0, 0, 0) 1)) (C := RX3) (T := TX3) (N := 17) (ci := 3) hx hb hts hwX3 hown hK hP (hM 0 (by decide)) rfl rfl 4 (by decide) (hts (.fieldLink RX3 19 "FourTrackDeckModel" "onDeck" "I") (by decide +kernel)) (fun _ h9 => h9) rfl dX3_thread_21 ?_
    refine lv_istore_n (lv' := [(2, .int (σ (0, 0, 0) 1)), (0, .ref (ad (20, 0, 0))), (1, .int p0)]) hx hb dX3_thread_24 rfl hl (by decide) rfl (fun ls hl => ?_)
    refine lv_aload_n hx hb dX3_thread_25 rfl (lv_at hl 1 rfl) ?_
    refine lv_iload_n hx hb dX3_thread_26 rfl (lv_at hl 2 rfl) ?_
    refine zw_putf (r := (20, 0, 0)) (v := .int p0) (C := RX3) (T := TX3) (N := 17) (ci := 3) hx hb hts hwX3 tyX3 tyX3_ok nmX3 hown hK hP hD hS (hM 0 (by decide)) rfl rfl 4 (by decide) (hts (.fieldLink RX3 19 "FourTrackDeckModel" "onDeck" "I") (by decide +kernel)) (fun _ h9 => h9) rfl (ty := .int) (by decide +kernel) rfl rfl (Nat.le_of_ble_eq_true rfl) dX3_thread_27 (cu1 := ze_X cD (ze_M cA ad len (sp_s σ (0, 0, 0) 1 p0))) (zm_D rfl) (fun H locs hP hD hS => ?_)
    refine lv_aload_n hx hb dX3_thread_30 rfl (lv_at hl 1 rfl) ?_
    refine lv_iload_n hx hb dX3_thread_31 rfl (lv_at hl 0 rfl) ?_
    refine zw_cV (r := (20, 0, 0)) (As := [.int (σ (0, 0, 0) 1)]) (rest := []) (st1 := [.int (σ (0, 0, 0) 1)]) ⟨hx, hb, hml, hown, hts⟩ (cm_done (σ := (sp_s σ (0, 0, 0) 1 p0)) hM (σ (0, 0, 0) 1)) (cwV 1 hts gX3_thread_X3_done rfl rfl rfl (by decide +kernel) ⟨Nat.le_of_ble_eq_true rfl, Nat.le_of_ble_eq_true rfl⟩) (hM 0 (by decide)) rfl rfl rfl hK hP hD hS hA hN rfl hl.1 rfl (Nat.le_of_ble_eq_true rfl) rfl dX3_thread_32 ⟨Nat.zero_le _, Nat.zero_le _⟩ (fun H locs hP hD hS => ?_)
    exact zw_iret hx hb hr hlk hK hP hD hS dX3_thread_35 (by simp only [sp_thread, if_pos c_1, ite_self] <;> rfl) (by simp only [sp_thread, if_pos c_1, ite_self] <;> rfl)
  · refine lv_aload_n hx hb dX3_thread_5 rfl (lv_at hl 0 rfl) ?_
    refine lv_iload_n hx hb dX3_thread_6 rfl (lv_at hl 1 rfl) ?_
    rcases Decidable.em (sp_r nr p0) with h_2 | h_2
    · refine zw_cV (r := (20, 0, 0)) (As := [.int p0]) (rest := []) (st1 := [.int 1]) ⟨hx, hb, hml, hown, hts⟩ (cm_isReel_1 (σ := σ) hM hI0 p0 h_2) (cwV 1 hts gX3_thread_X3_isReel rfl rfl rfl (by decide +kernel) ⟨Nat.le_of_ble_eq_true rfl, Nat.le_of_ble_eq_true rfl⟩) (hM 0 (by decide)) rfl rfl rfl hK hP hD hS hA hN rfl hl.1 rfl (Nat.le_of_ble_eq_true rfl) rfl dX3_thread_7 ⟨Nat.zero_le _, Nat.zero_le _⟩ (fun H locs hP hD hS => ?_)
      refine lv_if_ne (tgt := 20) hx hb dX3_thread_10 (by decide) (fun c_3 => ?_) (fun c_3 => absurd c_3 (by decide))
      refine lv_aload_n hx hb dX3_thread_20 rfl (lv_at hl 0 rfl) ?_
      refine zw_getf (r := (20, 0, 0)) (v := .int (σ (0, 0, 0) 1)) (C := RX3) (T := TX3) (N := 17) (ci := 3) hx hb hts hwX3 hown hK hP (hM 0 (by decide)) rfl rfl 4 (by decide) (hts (.fieldLink RX3 19 "FourTrackDeckModel" "onDeck" "I") (by decide +kernel)) (fun _ h9 => h9) rfl dX3_thread_21 ?_
      refine lv_istore_n (lv' := [(2, .int (σ (0, 0, 0) 1)), (0, .ref (ad (20, 0, 0))), (1, .int p0)]) hx hb dX3_thread_24 rfl hl (by decide) rfl (fun ls hl => ?_)
      refine lv_aload_n hx hb dX3_thread_25 rfl (lv_at hl 1 rfl) ?_
      refine lv_iload_n hx hb dX3_thread_26 rfl (lv_at hl 2 rfl) ?_
      refine zw_putf (r := (20, 0, 0)) (v := .int p0) (C := RX3) (T := TX3) (N := 17) (ci := 3) hx hb hts hwX3 tyX3 tyX3_ok nmX3 hown hK hP hD hS (hM 0 (by decide)) rfl rfl 4 (by decide) (hts (.fieldLink RX3 19 "FourTrackDeckModel" "onDeck" "I") (by decide +kernel)) (fun _ h9 => h9) rfl (ty := .int) (by decide +kernel) rfl rfl (Nat.le_of_ble_eq_true rfl) dX3_thread_27 (cu1 := ze_X cD (ze_M cA ad len (sp_s σ (0, 0, 0) 1 p0))) (zm_D rfl) (fun H locs hP hD hS => ?_)
      refine lv_aload_n hx hb dX3_thread_30 rfl (lv_at hl 1 rfl) ?_
      refine lv_iload_n hx hb dX3_thread_31 rfl (lv_at hl 0 rfl) ?_
      refine zw_cV (r := (20, 0, 0)) (As := [.int (σ (0, 0, 0) 1)]) (rest := []) (st1 := [.int (σ (0, 0, 0) 1)]) ⟨hx, hb, hml, hown, hts⟩ (cm_done (σ := (sp_s σ (0, 0, 0) 1 p0)) hM (σ (0, 0, 0) 1)) (cwV 1 hts gX3_thread_X3_done rfl rfl rfl (by decide +kernel) ⟨Nat.le_of_ble_eq_true rfl, Nat.le_of_ble_eq_true rfl⟩) (hM 0 (by decide)) rfl rfl rfl hK hP hD hS hA hN rfl hl.1 rfl (Nat.le_of_ble_eq_true rfl) rfl dX3_thread_32 ⟨Nat.zero_le _, Nat.zero_le _⟩ (fun H locs hP hD hS => ?_)
      exact zw_iret hx hb hr hlk hK hP hD hS dX3_thread_35 (by simp only [sp_thread, if_neg c_1, if_pos h_2, ite_self] <;> rfl) (by simp only [sp_thread, if_neg c_1, if_pos h_2, ite_self] <;> rfl)
    · refine zw_cV (r := (20, 0, 0)) (As := [.int p0]) (rest := []) (st1 := [.int 0]) ⟨hx, hb, hml, hown, hts⟩ (cm_isReel_0 (σ := σ) hM hI0 p0 h_2) (cwV 1 hts gX3_thread_X3_isReel rfl rfl rfl (by decide +kernel) ⟨Nat.le_of_ble_eq_true rfl, Nat.le_of_ble_eq_true rfl⟩) (hM 0 (by decide)) rfl rfl rfl hK hP hD hS hA hN rfl hl.1 rfl (Nat.le_of_ble_eq_true rfl) rfl dX3_thread_7 ⟨Nat.zero_le _, Nat.zero_le _⟩ (fun H locs hP hD hS => ?_)
      refine lv_if_ne (tgt := 20) hx hb dX3_thread_10 (by decide) (fun c_4 => absurd (by decide) c_4) (fun c_4 => ?_)
      refine lv_aload_n hx hb dX3_thread_13 rfl (lv_at hl 0 rfl) ?_
      refine lv_iconst (v := 1) hx hb dX3_thread_14 (by decide) ?_
      refine lv_iconst (v := (-1)) hx hb dX3_thread_15 (by decide) ?_
      refine zw_cV (r := (20, 0, 0)) (As := [.int 1, .int (-1)]) (rest := []) (st1 := [.int (-1)]) ⟨hx, hb, hml, hown, hts⟩ (cm_fails (σ := σ) hM 1 (-1)) (cwV 2 hts gX3_thread_X3_fails rfl rfl rfl (by decide +kernel) ⟨Nat.le_of_ble_eq_true rfl, Nat.le_of_ble_eq_true rfl⟩) (hM 0 (by decide)) rfl rfl rfl hK hP hD hS hA hN rfl hl.1 rfl (Nat.le_of_ble_eq_true rfl) rfl dX3_thread_16 ⟨Nat.zero_le _, Nat.zero_le _⟩ (fun H locs hP hD hS => ?_)
      exact zw_iret hx hb hr hlk hK hP hD hS dX3_thread_19 (by simp only [sp_thread, if_neg c_1, if_neg h_2, ite_self] <;> rfl) (by simp only [sp_thread, if_neg c_1, if_neg h_2, ite_self] <;> rfl)
set_option maxHeartbeats 4000000 in
set_option maxRecDepth 100000 in
theorem cm_head {l : Launch} {dC : Nat → ClassId} {dI : Nat → Nat → Nat} {cA : Nat → ClassId} {ad : zw_R → Nat} {R : List zw_R} {nr : Nat} {len : Nat → Nat} {σ : sp_S} {cD : zw_R → va_E} (hM : zm_R R) (p0 p1 : Int32) : zw_M l yX3_head wsX3_head { frames := 1, cells := 0, slots := 0, locals := 22 } (ze_E dC dI cA) [.ref (ad (20, 0, 0)), .int p0, .int p1] ad R (ze_X cD (ze_M cA ad len σ)) (some (.int ((sp_head nr len σ p0 p1).1))) (ze_X cD (ze_M cA ad len (sp_head nr len σ p0 p1).2)) := by
  refine zw_body (cc := cX3_head) (maxL := 4) (ret := (some .int)) (by decide) rfl (Nat.le_of_ble_eq_true rfl) ?_
  intro p e s m below meth c A ls hx hb hr hlk hml hts hown hnm hA hK hP hD hS hN hl
  have hl : lv_has ls 4 [(0, .ref (ad (20, 0, 0))), (1, .int p0), (2, .int p1)] := hl
  have hwX3 : ∀ w ∈ u_ws RX3 TX3 17, w ∈ wsX3_head := by decide +kernel
  refine lv_aload_n hx hb dX3_head_0 rfl (lv_at hl 0 rfl) ?_
  refine lv_iload_n hx hb dX3_head_1 rfl (lv_at hl 1 rfl) ?_
  rcases Decidable.em (sp_t p0) with h_1 | h_1
  · refine zw_cV (r := (20, 0, 0)) (As := [.int p0]) (rest := []) (st1 := [.int 1]) ⟨hx, hb, hml, hown, hts⟩ (cm_isTrack_1 (σ := σ) p0 h_1) (cwV 1 hts gX3_head_X3_isTrack rfl rfl rfl (by decide +kernel) ⟨Nat.le_of_ble_eq_true rfl, Nat.le_of_ble_eq_true rfl⟩) (hM 0 (by decide)) rfl rfl rfl hK hP hD hS hA hN rfl hl.1 rfl (Nat.le_of_ble_eq_true rfl) rfl dX3_head_2 ⟨Nat.zero_le _, Nat.zero_le _⟩ (fun H locs hP hD hS => ?_)
    refine lv_if_eq (tgt := 20) hx hb dX3_head_5 (by decide) (fun c_2 => absurd c_2 (by decide)) (fun c_2 => ?_)
    refine lv_iload_n hx hb dX3_head_8 rfl (lv_at hl 2 rfl) ?_
    refine lv_bipush (v := (-8)) hx hb dX3_head_9 (by decide) ?_
    refine lv_icmp_lt (tgt := 20) hx hb dX3_head_11 (by decide) (fun c_3 => ?_) (fun c_3 => ?_)
    · refine lv_aload_n hx hb dX3_head_20 rfl (lv_at hl 0 rfl) ?_
      refine lv_iconst (v := 1) hx hb dX3_head_21 (by decide) ?_
      refine lv_iconst (v := 0) hx hb dX3_head_22 (by decide) ?_
      refine zw_cV (r := (20, 0, 0)) (As := [.int 1, .int 0]) (rest := []) (st1 := [.int 0]) ⟨hx, hb, hml, hown, hts⟩ (cm_fails (σ := σ) hM 1 0) (cwV 2 hts gX3_head_X3_fails rfl rfl rfl (by decide +kernel) ⟨Nat.le_of_ble_eq_true rfl, Nat.le_of_ble_eq_true rfl⟩) (hM 0 (by decide)) rfl rfl rfl hK hP hD hS hA hN rfl hl.1 rfl (Nat.le_of_ble_eq_true rfl) rfl dX3_head_23 ⟨Nat.zero_le _, Nat.zero_le _⟩ (fun H locs hP hD hS => ?_)
      exact zw_iret hx hb hr hlk hK hP hD hS dX3_head_26 (by simp only [sp_head, if_neg (show ¬ sp_w p1 (-8) 8 from fun q => Int32.not_lt.mpr q.1 c_3), if_pos h_1, if_pos c_3, ite_self] <;> rfl) (by simp only [sp_head, if_neg (show ¬ sp_w p1 (-8) 8 from fun q => Int32.not_lt.mpr q.1 c_3), if_pos h_1, if_pos c_3, ite_self] <;> rfl)
    · refine lv_iload_n hx hb dX3_head_14 rfl (lv_at hl 2 rfl) ?_
      refine lv_bipush (v := 8) hx hb dX3_head_15 (by decide) ?_
      refine lv_icmp_le (tgt := 27) hx hb dX3_head_17 (by decide) (fun c_4 => ?_) (fun c_4 => ?_)
      · refine lv_aload_n hx hb dX3_head_27 rfl (lv_at hl 0 rfl) ?_
        refine zw_getf (r := (20, 0, 0)) (v := .ref (ad (24, 0, 0))) (C := RX3) (T := TX3) (N := 17) (ci := 3) hx hb hts hwX3 hown hK hP (hM 0 (by decide)) rfl rfl 6 (by decide) (hts (.fieldLink RX3 23 "FourTrackDeckModel" "offset" "[I") (by decide +kernel)) (fun _ h9 => h9) rfl dX3_head_28 ?_
        refine lv_iload_n hx hb dX3_head_31 rfl (lv_at hl 1 rfl) ?_
        refine zw_iald (r := (24, 0, 0)) hx hb hK hP (hM 4 (by decide)) 0 rfl rfl (ze_ti h_1) dX3_head_32 ?_
        refine lv_istore_n (lv' := [(3, .int (σ (2, 0, 0) p0.toNatClampNeg)), (0, .ref (ad (20, 0, 0))), (1, .int p0), (2, .int p1)]) hx hb dX3_head_33 rfl hl (by decide) rfl (fun ls hl => ?_)
        refine lv_aload_n hx hb dX3_head_34 rfl (lv_at hl 1 rfl) ?_
        refine zw_getf (r := (20, 0, 0)) (v := .ref (ad (24, 0, 0))) (C := RX3) (T := TX3) (N := 17) (ci := 3) hx hb hts hwX3 hown hK hP (hM 0 (by decide)) rfl rfl 6 (by decide) (hts (.fieldLink RX3 23 "FourTrackDeckModel" "offset" "[I") (by decide +kernel)) (fun _ h9 => h9) rfl dX3_head_35 ?_
        refine lv_iload_n hx hb dX3_head_38 rfl (lv_at hl 2 rfl) ?_
        refine lv_iload_n hx hb dX3_head_39 rfl (lv_at hl 3 rfl) ?_
        refine zw_iast (r := (24, 0, 0)) hx hb hK hP hD hS (hM 4 (by decide)) 0 rfl rfl (ze_ti h_1) dX3_head_40 (cu1 := ze_X cD (ze_M cA ad len (sp_s σ (2, 0, 0) p0.toNatClampNeg p1))) (zm_A2 rfl) (fun H locs hP hD hS => ?_)
        refine lv_aload_n hx hb dX3_head_41 rfl (lv_at hl 1 rfl) ?_
        refine lv_iload_n hx hb dX3_head_42 rfl (lv_at hl 0 rfl) ?_
        refine zw_cV (r := (20, 0, 0)) (As := [.int (σ (2, 0, 0) p0.toNatClampNeg)]) (rest := []) (st1 := [.int (σ (2, 0, 0) p0.toNatClampNeg)]) ⟨hx, hb, hml, hown, hts⟩ (cm_done (σ := (sp_s σ (2, 0, 0) p0.toNatClampNeg p1)) hM (σ (2, 0, 0) p0.toNatClampNeg)) (cwV 1 hts gX3_head_X3_done rfl rfl rfl (by decide +kernel) ⟨Nat.le_of_ble_eq_true rfl, Nat.le_of_ble_eq_true rfl⟩) (hM 0 (by decide)) rfl rfl rfl hK hP hD hS hA hN rfl hl.1 rfl (Nat.le_of_ble_eq_true rfl) rfl dX3_head_43 ⟨Nat.zero_le _, Nat.zero_le _⟩ (fun H locs hP hD hS => ?_)
        exact zw_iret hx hb hr hlk hK hP hD hS dX3_head_46 (by simp only [sp_head, if_pos (show sp_w p1 (-8) 8 from ⟨Int32.not_lt.mp c_3, c_4⟩), if_pos h_1, if_neg c_3, if_pos c_4, ite_self] <;> rfl) (by simp only [sp_head, if_pos (show sp_w p1 (-8) 8 from ⟨Int32.not_lt.mp c_3, c_4⟩), if_pos h_1, if_neg c_3, if_pos c_4, ite_self] <;> rfl)
      · refine lv_aload_n hx hb dX3_head_20 rfl (lv_at hl 0 rfl) ?_
        refine lv_iconst (v := 1) hx hb dX3_head_21 (by decide) ?_
        refine lv_iconst (v := 0) hx hb dX3_head_22 (by decide) ?_
        refine zw_cV (r := (20, 0, 0)) (As := [.int 1, .int 0]) (rest := []) (st1 := [.int 0]) ⟨hx, hb, hml, hown, hts⟩ (cm_fails (σ := σ) hM 1 0) (cwV 2 hts gX3_head_X3_fails rfl rfl rfl (by decide +kernel) ⟨Nat.le_of_ble_eq_true rfl, Nat.le_of_ble_eq_true rfl⟩) (hM 0 (by decide)) rfl rfl rfl hK hP hD hS hA hN rfl hl.1 rfl (Nat.le_of_ble_eq_true rfl) rfl dX3_head_23 ⟨Nat.zero_le _, Nat.zero_le _⟩ (fun H locs hP hD hS => ?_)
        exact zw_iret hx hb hr hlk hK hP hD hS dX3_head_26 (by simp only [sp_head, if_neg (show ¬ sp_w p1 (-8) 8 from fun q => c_4 q.2), if_pos h_1, if_neg c_3, if_neg c_4, ite_self] <;> rfl) (by simp only [sp_head, if_neg (show ¬ sp_w p1 (-8) 8 from fun q => c_4 q.2), if_pos h_1, if_neg c_3, if_neg c_4, ite_self] <;> rfl)
  · refine zw_cV (r := (20, 0, 0)) (As := [.int p0]) (rest := []) (st1 := [.int 0]) ⟨hx, hb, hml, hown, hts⟩ (cm_isTrack_0 (σ := σ) p0 h_1) (cwV 1 hts gX3_head_X3_isTrack rfl rfl rfl (by decide +kernel) ⟨Nat.le_of_ble_eq_true rfl, Nat.le_of_ble_eq_true rfl⟩) (hM 0 (by decide)) rfl rfl rfl hK hP hD hS hA hN rfl hl.1 rfl (Nat.le_of_ble_eq_true rfl) rfl dX3_head_2 ⟨Nat.zero_le _, Nat.zero_le _⟩ (fun H locs hP hD hS => ?_)
    refine lv_if_eq (tgt := 20) hx hb dX3_head_5 (by decide) (fun c_5 => ?_) (fun c_5 => absurd (by decide) c_5)
    refine lv_aload_n hx hb dX3_head_20 rfl (lv_at hl 0 rfl) ?_
    refine lv_iconst (v := 1) hx hb dX3_head_21 (by decide) ?_
    refine lv_iconst (v := 0) hx hb dX3_head_22 (by decide) ?_
    refine zw_cV (r := (20, 0, 0)) (As := [.int 1, .int 0]) (rest := []) (st1 := [.int 0]) ⟨hx, hb, hml, hown, hts⟩ (cm_fails (σ := σ) hM 1 0) (cwV 2 hts gX3_head_X3_fails rfl rfl rfl (by decide +kernel) ⟨Nat.le_of_ble_eq_true rfl, Nat.le_of_ble_eq_true rfl⟩) (hM 0 (by decide)) rfl rfl rfl hK hP hD hS hA hN rfl hl.1 rfl (Nat.le_of_ble_eq_true rfl) rfl dX3_head_23 ⟨Nat.zero_le _, Nat.zero_le _⟩ (fun H locs hP hD hS => ?_)
    exact zw_iret hx hb hr hlk hK hP hD hS dX3_head_26 (by simp only [sp_head, if_neg h_1, ite_self] <;> rfl) (by simp only [sp_head, if_neg h_1, ite_self] <;> rfl)
set_option maxHeartbeats 4000000 in
set_option maxRecDepth 100000 in
theorem cm_arm {l : Launch} {dC : Nat → ClassId} {dI : Nat → Nat → Nat} {cA : Nat → ClassId} {ad : zw_R → Nat} {R : List zw_R} {nr : Nat} {len : Nat → Nat} {σ : sp_S} {cD : zw_R → va_E} (hM : zm_R R) (p0 p1 : Int32) : zw_M l yX3_arm wsX3_arm { frames := 1, cells := 0, slots := 0, locals := 22 } (ze_E dC dI cA) [.ref (ad (20, 0, 0)), .int p0, .int p1] ad R (ze_X cD (ze_M cA ad len σ)) (some (.int ((sp_arm nr len σ p0 p1).1))) (ze_X cD (ze_M cA ad len (sp_arm nr len σ p0 p1).2)) := by
  refine zw_body (cc := cX3_arm) (maxL := 4) (ret := (some .int)) (by decide) rfl (Nat.le_of_ble_eq_true rfl) ?_
  intro p e s m below meth c A ls hx hb hr hlk hml hts hown hnm hA hK hP hD hS hN hl
  have hl : lv_has ls 4 [(0, .ref (ad (20, 0, 0))), (1, .int p0), (2, .int p1)] := hl
  have hwX3 : ∀ w ∈ u_ws RX3 TX3 17, w ∈ wsX3_arm := by decide +kernel
  refine lv_aload_n hx hb dX3_arm_0 rfl (lv_at hl 0 rfl) ?_
  refine lv_iload_n hx hb dX3_arm_1 rfl (lv_at hl 1 rfl) ?_
  rcases Decidable.em (sp_t p0) with h_1 | h_1
  · refine zw_cV (r := (20, 0, 0)) (As := [.int p0]) (rest := []) (st1 := [.int 1]) ⟨hx, hb, hml, hown, hts⟩ (cm_isTrack_1 (σ := σ) p0 h_1) (cwV 1 hts gX3_arm_X3_isTrack rfl rfl rfl (by decide +kernel) ⟨Nat.le_of_ble_eq_true rfl, Nat.le_of_ble_eq_true rfl⟩) (hM 0 (by decide)) rfl rfl rfl hK hP hD hS hA hN rfl hl.1 rfl (Nat.le_of_ble_eq_true rfl) rfl dX3_arm_2 ⟨Nat.zero_le _, Nat.zero_le _⟩ (fun H locs hP hD hS => ?_)
    refine lv_if_eq (tgt := 17) hx hb dX3_arm_5 (by decide) (fun c_2 => absurd c_2 (by decide)) (fun c_2 => ?_)
    refine lv_iload_n hx hb dX3_arm_8 rfl (lv_at hl 2 rfl) ?_
    refine lv_if_lt (tgt := 17) hx hb dX3_arm_9 (by decide) (fun c_3 => ?_) (fun c_3 => ?_)
    · refine lv_aload_n hx hb dX3_arm_17 rfl (lv_at hl 0 rfl) ?_
      refine lv_iconst (v := 1) hx hb dX3_arm_18 (by decide) ?_
      refine lv_iconst (v := 0) hx hb dX3_arm_19 (by decide) ?_
      refine zw_cV (r := (20, 0, 0)) (As := [.int 1, .int 0]) (rest := []) (st1 := [.int 0]) ⟨hx, hb, hml, hown, hts⟩ (cm_fails (σ := σ) hM 1 0) (cwV 2 hts gX3_arm_X3_fails rfl rfl rfl (by decide +kernel) ⟨Nat.le_of_ble_eq_true rfl, Nat.le_of_ble_eq_true rfl⟩) (hM 0 (by decide)) rfl rfl rfl hK hP hD hS hA hN rfl hl.1 rfl (Nat.le_of_ble_eq_true rfl) rfl dX3_arm_20 ⟨Nat.zero_le _, Nat.zero_le _⟩ (fun H locs hP hD hS => ?_)
      exact zw_iret hx hb hr hlk hK hP hD hS dX3_arm_23 (by simp only [sp_arm, if_neg (show ¬ sp_w p1 0 3 from fun q => Int32.not_lt.mpr q.1 c_3), if_pos h_1, if_pos c_3, ite_self] <;> rfl) (by simp only [sp_arm, if_neg (show ¬ sp_w p1 0 3 from fun q => Int32.not_lt.mpr q.1 c_3), if_pos h_1, if_pos c_3, ite_self] <;> rfl)
    · refine lv_iload_n hx hb dX3_arm_12 rfl (lv_at hl 2 rfl) ?_
      refine lv_iconst (v := 3) hx hb dX3_arm_13 (by decide) ?_
      refine lv_icmp_le (tgt := 24) hx hb dX3_arm_14 (by decide) (fun c_4 => ?_) (fun c_4 => ?_)
      · refine lv_aload_n hx hb dX3_arm_24 rfl (lv_at hl 0 rfl) ?_
        refine zw_getf (r := (20, 0, 0)) (v := .ref (ad (25, 0, 0))) (C := RX3) (T := TX3) (N := 17) (ci := 3) hx hb hts hwX3 hown hK hP (hM 0 (by decide)) rfl rfl 7 (by decide) (hts (.fieldLink RX3 26 "FourTrackDeckModel" "mode" "[I") (by decide +kernel)) (fun _ h9 => h9) rfl dX3_arm_25 ?_
        refine lv_iload_n hx hb dX3_arm_28 rfl (lv_at hl 1 rfl) ?_
        refine zw_iald (r := (25, 0, 0)) hx hb hK hP (hM 5 (by decide)) 0 rfl rfl (ze_ti h_1) dX3_arm_29 ?_
        refine lv_istore_n (lv' := [(3, .int (σ (3, 0, 0) p0.toNatClampNeg)), (0, .ref (ad (20, 0, 0))), (1, .int p0), (2, .int p1)]) hx hb dX3_arm_30 rfl hl (by decide) rfl (fun ls hl => ?_)
        refine lv_aload_n hx hb dX3_arm_31 rfl (lv_at hl 1 rfl) ?_
        refine zw_getf (r := (20, 0, 0)) (v := .ref (ad (25, 0, 0))) (C := RX3) (T := TX3) (N := 17) (ci := 3) hx hb hts hwX3 hown hK hP (hM 0 (by decide)) rfl rfl 7 (by decide) (hts (.fieldLink RX3 26 "FourTrackDeckModel" "mode" "[I") (by decide +kernel)) (fun _ h9 => h9) rfl dX3_arm_32 ?_
        refine lv_iload_n hx hb dX3_arm_35 rfl (lv_at hl 2 rfl) ?_
        refine lv_iload_n hx hb dX3_arm_36 rfl (lv_at hl 3 rfl) ?_
        refine zw_iast (r := (25, 0, 0)) hx hb hK hP hD hS (hM 5 (by decide)) 0 rfl rfl (ze_ti h_1) dX3_arm_37 (cu1 := ze_X cD (ze_M cA ad len (sp_s σ (3, 0, 0) p0.toNatClampNeg p1))) (zm_A3 rfl) (fun H locs hP hD hS => ?_)
        refine lv_aload_n hx hb dX3_arm_38 rfl (lv_at hl 1 rfl) ?_
        refine lv_iload_n hx hb dX3_arm_39 rfl (lv_at hl 0 rfl) ?_
        refine zw_cV (r := (20, 0, 0)) (As := [.int (σ (3, 0, 0) p0.toNatClampNeg)]) (rest := []) (st1 := [.int (σ (3, 0, 0) p0.toNatClampNeg)]) ⟨hx, hb, hml, hown, hts⟩ (cm_done (σ := (sp_s σ (3, 0, 0) p0.toNatClampNeg p1)) hM (σ (3, 0, 0) p0.toNatClampNeg)) (cwV 1 hts gX3_arm_X3_done rfl rfl rfl (by decide +kernel) ⟨Nat.le_of_ble_eq_true rfl, Nat.le_of_ble_eq_true rfl⟩) (hM 0 (by decide)) rfl rfl rfl hK hP hD hS hA hN rfl hl.1 rfl (Nat.le_of_ble_eq_true rfl) rfl dX3_arm_40 ⟨Nat.zero_le _, Nat.zero_le _⟩ (fun H locs hP hD hS => ?_)
        exact zw_iret hx hb hr hlk hK hP hD hS dX3_arm_43 (by simp only [sp_arm, if_pos (show sp_w p1 0 3 from ⟨Int32.not_lt.mp c_3, c_4⟩), if_pos h_1, if_neg c_3, if_pos c_4, ite_self] <;> rfl) (by simp only [sp_arm, if_pos (show sp_w p1 0 3 from ⟨Int32.not_lt.mp c_3, c_4⟩), if_pos h_1, if_neg c_3, if_pos c_4, ite_self] <;> rfl)
      · refine lv_aload_n hx hb dX3_arm_17 rfl (lv_at hl 0 rfl) ?_
        refine lv_iconst (v := 1) hx hb dX3_arm_18 (by decide) ?_
        refine lv_iconst (v := 0) hx hb dX3_arm_19 (by decide) ?_
        refine zw_cV (r := (20, 0, 0)) (As := [.int 1, .int 0]) (rest := []) (st1 := [.int 0]) ⟨hx, hb, hml, hown, hts⟩ (cm_fails (σ := σ) hM 1 0) (cwV 2 hts gX3_arm_X3_fails rfl rfl rfl (by decide +kernel) ⟨Nat.le_of_ble_eq_true rfl, Nat.le_of_ble_eq_true rfl⟩) (hM 0 (by decide)) rfl rfl rfl hK hP hD hS hA hN rfl hl.1 rfl (Nat.le_of_ble_eq_true rfl) rfl dX3_arm_20 ⟨Nat.zero_le _, Nat.zero_le _⟩ (fun H locs hP hD hS => ?_)
        exact zw_iret hx hb hr hlk hK hP hD hS dX3_arm_23 (by simp only [sp_arm, if_neg (show ¬ sp_w p1 0 3 from fun q => c_4 q.2), if_pos h_1, if_neg c_3, if_neg c_4, ite_self] <;> rfl) (by simp only [sp_arm, if_neg (show ¬ sp_w p1 0 3 from fun q => c_4 q.2), if_pos h_1, if_neg c_3, if_neg c_4, ite_self] <;> rfl)
  · refine zw_cV (r := (20, 0, 0)) (As := [.int p0]) (rest := []) (st1 := [.int 0]) ⟨hx, hb, hml, hown, hts⟩ (cm_isTrack_0 (σ := σ) p0 h_1) (cwV 1 hts gX3_arm_X3_isTrack rfl rfl rfl (by decide +kernel) ⟨Nat.le_of_ble_eq_true rfl, Nat.le_of_ble_eq_true rfl⟩) (hM 0 (by decide)) rfl rfl rfl hK hP hD hS hA hN rfl hl.1 rfl (Nat.le_of_ble_eq_true rfl) rfl dX3_arm_2 ⟨Nat.zero_le _, Nat.zero_le _⟩ (fun H locs hP hD hS => ?_)
    refine lv_if_eq (tgt := 17) hx hb dX3_arm_5 (by decide) (fun c_5 => ?_) (fun c_5 => absurd (by decide) c_5)
    refine lv_aload_n hx hb dX3_arm_17 rfl (lv_at hl 0 rfl) ?_
    refine lv_iconst (v := 1) hx hb dX3_arm_18 (by decide) ?_
    refine lv_iconst (v := 0) hx hb dX3_arm_19 (by decide) ?_
    refine zw_cV (r := (20, 0, 0)) (As := [.int 1, .int 0]) (rest := []) (st1 := [.int 0]) ⟨hx, hb, hml, hown, hts⟩ (cm_fails (σ := σ) hM 1 0) (cwV 2 hts gX3_arm_X3_fails rfl rfl rfl (by decide +kernel) ⟨Nat.le_of_ble_eq_true rfl, Nat.le_of_ble_eq_true rfl⟩) (hM 0 (by decide)) rfl rfl rfl hK hP hD hS hA hN rfl hl.1 rfl (Nat.le_of_ble_eq_true rfl) rfl dX3_arm_20 ⟨Nat.zero_le _, Nat.zero_le _⟩ (fun H locs hP hD hS => ?_)
    exact zw_iret hx hb hr hlk hK hP hD hS dX3_arm_23 (by simp only [sp_arm, if_neg h_1, ite_self] <;> rfl) (by simp only [sp_arm, if_neg h_1, ite_self] <;> rfl)
set_option maxHeartbeats 4000000 in
set_option maxRecDepth 100000 in
theorem cm_source {l : Launch} {dC : Nat → ClassId} {dI : Nat → Nat → Nat} {cA : Nat → ClassId} {ad : zw_R → Nat} {R : List zw_R} {nr : Nat} {len : Nat → Nat} {σ : sp_S} {cD : zw_R → va_E} (hM : zm_R R) (p0 p1 : Int32) : zw_M l yX3_source wsX3_source { frames := 1, cells := 0, slots := 0, locals := 21 } (ze_E dC dI cA) [.ref (ad (20, 0, 0)), .int p0, .int p1] ad R (ze_X cD (ze_M cA ad len σ)) (some (.int ((sp_source nr len σ p0 p1).1))) (ze_X cD (ze_M cA ad len (sp_source nr len σ p0 p1).2)) := by
  refine zw_body (cc := cX3_source) (maxL := 4) (ret := (some .int)) (by decide) rfl (Nat.le_of_ble_eq_true rfl) ?_
  intro p e s m below meth c A ls hx hb hr hlk hml hts hown hnm hA hK hP hD hS hN hl
  have hl : lv_has ls 4 [(0, .ref (ad (20, 0, 0))), (1, .int p0), (2, .int p1)] := hl
  have hwX3 : ∀ w ∈ u_ws RX3 TX3 17, w ∈ wsX3_source := by decide +kernel
  refine lv_aload_n hx hb dX3_source_0 rfl (lv_at hl 0 rfl) ?_
  refine zw_getf (r := (20, 0, 0)) (v := .int (σ (0, 0, 0) 3)) (C := RX3) (T := TX3) (N := 17) (ci := 3) hx hb hts hwX3 hown hK hP (hM 0 (by decide)) rfl rfl 9 (by decide) (hts (.fieldLink RX3 78 "FourTrackDeckModel" "s" "I") (by decide +kernel)) (fun _ h9 => h9) rfl dX3_source_1 ?_
  refine lv_istore_n (lv' := [(3, .int (σ (0, 0, 0) 3)), (0, .ref (ad (20, 0, 0))), (1, .int p0), (2, .int p1)]) hx hb dX3_source_4 rfl hl (by decide) rfl (fun ls hl => ?_)
  refine lv_aload_n hx hb dX3_source_5 rfl (lv_at hl 1 rfl) ?_
  refine lv_iload_n hx hb dX3_source_6 rfl (lv_at hl 2 rfl) ?_
  refine zw_putf (r := (20, 0, 0)) (v := .int p0) (C := RX3) (T := TX3) (N := 17) (ci := 3) hx hb hts hwX3 tyX3 tyX3_ok nmX3 hown hK hP hD hS (hM 0 (by decide)) rfl rfl 9 (by decide) (hts (.fieldLink RX3 78 "FourTrackDeckModel" "s" "I") (by decide +kernel)) (fun _ h9 => h9) rfl (ty := .int) (by decide +kernel) rfl rfl (Nat.le_of_ble_eq_true rfl) dX3_source_7 (cu1 := ze_X cD (ze_M cA ad len (sp_s σ (0, 0, 0) 3 p0))) (zm_D rfl) (fun H locs hP hD hS => ?_)
  refine lv_aload_n hx hb dX3_source_10 rfl (lv_at hl 1 rfl) ?_
  refine lv_iload_n hx hb dX3_source_11 rfl (lv_at hl 3 rfl) ?_
  refine zw_putf (r := (20, 0, 0)) (v := .int p1) (C := RX3) (T := TX3) (N := 17) (ci := 3) hx hb hts hwX3 tyX3 tyX3_ok nmX3 hown hK hP hD hS (hM 0 (by decide)) rfl rfl 10 (by decide) (hts (.fieldLink RX3 81 "FourTrackDeckModel" "step" "I") (by decide +kernel)) (fun _ h9 => h9) rfl (ty := .int) (by decide +kernel) rfl rfl (Nat.le_of_ble_eq_true rfl) dX3_source_12 (cu1 := ze_X cD (ze_M cA ad len (sp_s (sp_s σ (0, 0, 0) 3 p0) (0, 0, 0) 4 p1))) (zm_D rfl) (fun H locs hP hD hS => ?_)
  refine lv_aload_n hx hb dX3_source_15 rfl (lv_at hl 1 rfl) ?_
  refine lv_iload_n hx hb dX3_source_16 rfl (lv_at hl 0 rfl) ?_
  refine zw_cV (r := (20, 0, 0)) (As := [.int (σ (0, 0, 0) 3)]) (rest := []) (st1 := [.int (σ (0, 0, 0) 3)]) ⟨hx, hb, hml, hown, hts⟩ (cm_done (σ := (sp_s (sp_s σ (0, 0, 0) 3 p0) (0, 0, 0) 4 p1)) hM (σ (0, 0, 0) 3)) (cwV 1 hts gX3_source_X3_done rfl rfl rfl (by decide +kernel) ⟨Nat.le_of_ble_eq_true rfl, Nat.le_of_ble_eq_true rfl⟩) (hM 0 (by decide)) rfl rfl rfl hK hP hD hS hA hN rfl hl.1 rfl (Nat.le_of_ble_eq_true rfl) rfl dX3_source_17 ⟨Nat.zero_le _, Nat.zero_le _⟩ (fun H locs hP hD hS => ?_)
  exact zw_iret hx hb hr hlk hK hP hD hS dX3_source_20 rfl rfl
set_option maxHeartbeats 4000000 in
set_option maxRecDepth 100000 in
theorem cm_wind {l : Launch} {dC : Nat → ClassId} {dI : Nat → Nat → Nat} {cA : Nat → ClassId} {ad : zw_R → Nat} {R : List zw_R} {nr : Nat} {len : Nat → Nat} {σ : sp_S} {cD : zw_R → va_E} (hM : zm_R R) (p0 : Int32) : zw_M l yX3_wind wsX3_wind { frames := 1, cells := 0, slots := 0, locals := 22 } (ze_E dC dI cA) [.ref (ad (20, 0, 0)), .int p0] ad R (ze_X cD (ze_M cA ad len σ)) (some (.int ((sp_wind nr len σ p0).1))) (ze_X cD (ze_M cA ad len (sp_wind nr len σ p0).2)) := by
  refine zw_body (cc := cX3_wind) (maxL := 2) (ret := (some .int)) (by decide) rfl (Nat.le_of_ble_eq_true rfl) ?_
  intro p e s m below meth c A ls hx hb hr hlk hml hts hown hnm hA hK hP hD hS hN hl
  have hl : lv_has ls 2 [(0, .ref (ad (20, 0, 0))), (1, .int p0)] := hl
  have hwX3 : ∀ w ∈ u_ws RX3 TX3 17, w ∈ wsX3_wind := by decide +kernel
  refine lv_iload_n hx hb dX3_wind_0 rfl (lv_at hl 1 rfl) ?_
  refine lv_sipush (v := (-1000)) hx hb dX3_wind_1 (by decide) ?_
  refine lv_icmp_lt (tgt := 14) hx hb dX3_wind_4 (by decide) (fun c_1 => ?_) (fun c_1 => ?_)
  · refine lv_aload_n hx hb dX3_wind_14 rfl (lv_at hl 0 rfl) ?_
    refine lv_iconst (v := 1) hx hb dX3_wind_15 (by decide) ?_
    refine lv_aload_n hx hb dX3_wind_16 rfl (lv_at hl 0 rfl) ?_
    refine zw_getf (r := (20, 0, 0)) (v := .int (σ (0, 0, 0) 2)) (C := RX3) (T := TX3) (N := 17) (ci := 3) hx hb hts hwX3 hown hK hP (hM 0 (by decide)) rfl rfl 5 (by decide) (hts (.fieldLink RX3 56 "FourTrackDeckModel" "p" "I") (by decide +kernel)) (fun _ h9 => h9) rfl dX3_wind_17 ?_
    refine zw_cV (r := (20, 0, 0)) (As := [.int 1, .int (σ (0, 0, 0) 2)]) (rest := []) (st1 := [.int (σ (0, 0, 0) 2)]) ⟨hx, hb, hml, hown, hts⟩ (cm_fails (σ := σ) hM 1 (σ (0, 0, 0) 2)) (cwV 2 hts gX3_wind_X3_fails rfl rfl rfl (by decide +kernel) ⟨Nat.le_of_ble_eq_true rfl, Nat.le_of_ble_eq_true rfl⟩) (hM 0 (by decide)) rfl rfl rfl hK hP hD hS hA hN rfl hl.1 rfl (Nat.le_of_ble_eq_true rfl) rfl dX3_wind_20 ⟨Nat.zero_le _, Nat.zero_le _⟩ (fun H locs hP hD hS => ?_)
    exact zw_iret hx hb hr hlk hK hP hD hS dX3_wind_23 (by simp only [sp_wind, if_neg (show ¬ sp_w p0 (-1000) 1000 from fun q => Int32.not_lt.mpr q.1 c_1), if_pos c_1, ite_self] <;> rfl) (by simp only [sp_wind, if_neg (show ¬ sp_w p0 (-1000) 1000 from fun q => Int32.not_lt.mpr q.1 c_1), if_pos c_1, ite_self] <;> rfl)
  · refine lv_iload_n hx hb dX3_wind_7 rfl (lv_at hl 1 rfl) ?_
    refine lv_sipush (v := 1000) hx hb dX3_wind_8 (by decide) ?_
    refine lv_icmp_le (tgt := 24) hx hb dX3_wind_11 (by decide) (fun c_2 => ?_) (fun c_2 => ?_)
    · refine lv_aload_n hx hb dX3_wind_24 rfl (lv_at hl 0 rfl) ?_
      refine lv_dup hx hb dX3_wind_25 rfl ?_
      refine zw_getf (r := (20, 0, 0)) (v := .int (σ (0, 0, 0) 2)) (C := RX3) (T := TX3) (N := 17) (ci := 3) hx hb hts hwX3 hown hK hP (hM 0 (by decide)) rfl rfl 5 (by decide) (hts (.fieldLink RX3 56 "FourTrackDeckModel" "p" "I") (by decide +kernel)) (fun _ h9 => h9) rfl dX3_wind_26 ?_
      refine lv_iload_n hx hb dX3_wind_29 rfl (lv_at hl 1 rfl) ?_
      refine lv_iadd hx hb dX3_wind_30 ?_
      refine zw_putf (r := (20, 0, 0)) (v := .int ((σ (0, 0, 0) 2) + p0)) (C := RX3) (T := TX3) (N := 17) (ci := 3) hx hb hts hwX3 tyX3 tyX3_ok nmX3 hown hK hP hD hS (hM 0 (by decide)) rfl rfl 5 (by decide) (hts (.fieldLink RX3 56 "FourTrackDeckModel" "p" "I") (by decide +kernel)) (fun _ h9 => h9) rfl (ty := .int) (by decide +kernel) rfl rfl (Nat.le_of_ble_eq_true rfl) dX3_wind_31 (cu1 := ze_X cD (ze_M cA ad len (sp_s σ (0, 0, 0) 2 ((σ (0, 0, 0) 2) + p0)))) (zm_D rfl) (fun H locs hP hD hS => ?_)
      refine lv_aload_n hx hb dX3_wind_34 rfl (lv_at hl 0 rfl) ?_
      refine lv_aload_n hx hb dX3_wind_35 rfl (lv_at hl 0 rfl) ?_
      refine zw_getf (r := (20, 0, 0)) (v := .int ((sp_s σ (0, 0, 0) 2 ((σ (0, 0, 0) 2) + p0)) (0, 0, 0) 2)) (C := RX3) (T := TX3) (N := 17) (ci := 3) hx hb hts hwX3 hown hK hP (hM 0 (by decide)) rfl rfl 5 (by decide) (hts (.fieldLink RX3 56 "FourTrackDeckModel" "p" "I") (by decide +kernel)) (fun _ h9 => h9) rfl dX3_wind_36 ?_
      refine zw_cV (r := (20, 0, 0)) (As := [.int ((sp_s σ (0, 0, 0) 2 ((σ (0, 0, 0) 2) + p0)) (0, 0, 0) 2)]) (rest := []) (st1 := [.int ((sp_s σ (0, 0, 0) 2 ((σ (0, 0, 0) 2) + p0)) (0, 0, 0) 2)]) ⟨hx, hb, hml, hown, hts⟩ (cm_done (σ := (sp_s σ (0, 0, 0) 2 ((σ (0, 0, 0) 2) + p0))) hM ((sp_s σ (0, 0, 0) 2 ((σ (0, 0, 0) 2) + p0)) (0, 0, 0) 2)) (cwV 1 hts gX3_wind_X3_done rfl rfl rfl (by decide +kernel) ⟨Nat.le_of_ble_eq_true rfl, Nat.le_of_ble_eq_true rfl⟩) (hM 0 (by decide)) rfl rfl rfl hK hP hD hS hA hN rfl hl.1 rfl (Nat.le_of_ble_eq_true rfl) rfl dX3_wind_39 ⟨Nat.zero_le _, Nat.zero_le _⟩ (fun H locs hP hD hS => ?_)
      exact zw_iret hx hb hr hlk hK hP hD hS dX3_wind_42 (by simp only [sp_wind, if_pos (show sp_w p0 (-1000) 1000 from ⟨Int32.not_lt.mp c_1, c_2⟩), if_neg c_1, if_pos c_2, ite_self] <;> rfl) (by simp only [sp_wind, if_pos (show sp_w p0 (-1000) 1000 from ⟨Int32.not_lt.mp c_1, c_2⟩), if_neg c_1, if_pos c_2, ite_self] <;> rfl)
    · refine lv_aload_n hx hb dX3_wind_14 rfl (lv_at hl 0 rfl) ?_
      refine lv_iconst (v := 1) hx hb dX3_wind_15 (by decide) ?_
      refine lv_aload_n hx hb dX3_wind_16 rfl (lv_at hl 0 rfl) ?_
      refine zw_getf (r := (20, 0, 0)) (v := .int (σ (0, 0, 0) 2)) (C := RX3) (T := TX3) (N := 17) (ci := 3) hx hb hts hwX3 hown hK hP (hM 0 (by decide)) rfl rfl 5 (by decide) (hts (.fieldLink RX3 56 "FourTrackDeckModel" "p" "I") (by decide +kernel)) (fun _ h9 => h9) rfl dX3_wind_17 ?_
      refine zw_cV (r := (20, 0, 0)) (As := [.int 1, .int (σ (0, 0, 0) 2)]) (rest := []) (st1 := [.int (σ (0, 0, 0) 2)]) ⟨hx, hb, hml, hown, hts⟩ (cm_fails (σ := σ) hM 1 (σ (0, 0, 0) 2)) (cwV 2 hts gX3_wind_X3_fails rfl rfl rfl (by decide +kernel) ⟨Nat.le_of_ble_eq_true rfl, Nat.le_of_ble_eq_true rfl⟩) (hM 0 (by decide)) rfl rfl rfl hK hP hD hS hA hN rfl hl.1 rfl (Nat.le_of_ble_eq_true rfl) rfl dX3_wind_20 ⟨Nat.zero_le _, Nat.zero_le _⟩ (fun H locs hP hD hS => ?_)
      exact zw_iret hx hb hr hlk hK hP hD hS dX3_wind_23 (by simp only [sp_wind, if_neg (show ¬ sp_w p0 (-1000) 1000 from fun q => c_2 q.2), if_neg c_1, if_neg c_2, ite_self] <;> rfl) (by simp only [sp_wind, if_neg (show ¬ sp_w p0 (-1000) 1000 from fun q => c_2 q.2), if_neg c_1, if_neg c_2, ite_self] <;> rfl)
set_option maxHeartbeats 4000000 in
set_option maxRecDepth 100000 in
theorem cm_read {l : Launch} {dC : Nat → ClassId} {dI : Nat → Nat → Nat} {cA : Nat → ClassId} {ad : zw_R → Nat} {R : List zw_R} {nr : Nat} {len : Nat → Nat} {σ : sp_S} {cD : zw_R → va_E} (hM : zm_R R) (hnr : nr ≤ 8) (hlen : ∀ i, i < nr → len i ≤ 64) (hod : σ (0, 0, 0) 1 = -1 ∨ sp_r nr (σ (0, 0, 0) 1)) (p0 : Int32) : zw_M l yX3_read wsX3_read { frames := 3, cells := 0, slots := 0, locals := 66 } (ze_E dC dI cA) [.ref (ad (20, 0, 0)), .int p0] ad R (ze_X cD (ze_M cA ad len σ)) (some (.int ((sp_read nr len σ p0).1))) (ze_X cD (ze_M cA ad len (sp_read nr len σ p0).2)) := by
  refine zw_body (cc := cX3_read) (maxL := 3) (ret := (some .int)) (by decide) rfl (Nat.le_of_ble_eq_true rfl) ?_
  intro p e s m below meth c A ls hx hb hr hlk hml hts hown hnm hA hK hP hD hS hN hl
  have hl : lv_has ls 3 [(0, .ref (ad (20, 0, 0))), (1, .int p0)] := hl
  have hwX3 : ∀ w ∈ u_ws RX3 TX3 17, w ∈ wsX3_read := by decide +kernel
  refine lv_aload_n hx hb dX3_read_0 rfl (lv_at hl 0 rfl) ?_
  refine lv_iload_n hx hb dX3_read_1 rfl (lv_at hl 1 rfl) ?_
  rcases Decidable.em (sp_v nr (σ (0, 0, 0) 1) p0) with h_1 | h_1
  · refine zw_cV (r := (20, 0, 0)) (As := [.int p0]) (rest := []) (st1 := [.int (sp_f len σ (σ (0, 0, 0) 1).toNatClampNeg p0.toNatClampNeg (σ (0, 0, 0) 2 + σ (2, 0, 0) p0.toNatClampNeg))]) ⟨hx, hb, hml, hown, hts⟩ (cm_headFault_v (σ := σ) hM hnr p0 h_1) (cwV 1 hts gX3_read_X3_headFault rfl rfl rfl (by decide +kernel) ⟨Nat.le_of_ble_eq_true rfl, Nat.le_of_ble_eq_true rfl⟩) (hM 0 (by decide)) rfl rfl rfl hK hP hD hS hA hN rfl hl.1 rfl (Nat.le_of_ble_eq_true rfl) rfl dX3_read_2 ⟨Nat.zero_le _, Nat.zero_le _⟩ (fun H locs hP hD hS => ?_)
    refine lv_istore_n (lv' := [(2, .int (sp_f len σ (σ (0, 0, 0) 1).toNatClampNeg p0.toNatClampNeg (σ (0, 0, 0) 2 + σ (2, 0, 0) p0.toNatClampNeg))), (0, .ref (ad (20, 0, 0))), (1, .int p0)]) hx hb dX3_read_5 rfl hl (by decide) rfl (fun ls hl => ?_)
    refine lv_iload_n hx hb dX3_read_6 rfl (lv_at hl 0 rfl) ?_
    refine lv_if_eq (tgt := 17) hx hb dX3_read_7 (by decide) (fun c_2 => ?_) (fun c_2 => ?_)
    · refine lv_aload_n hx hb dX3_read_17 rfl (lv_at hl 1 rfl) ?_
      refine lv_aload_n hx hb dX3_read_18 rfl (lv_at hl 1 rfl) ?_
      refine zw_getf (r := (20, 0, 0)) (v := .ref (ad (23, 0, 0))) (C := RX3) (T := TX3) (N := 17) (ci := 3) hx hb hts hwX3 hown hK hP (hM 0 (by decide)) rfl rfl 3 (by decide) (hts (.fieldLink RX3 16 "FourTrackDeckModel" "number" "[I") (by decide +kernel)) (fun _ h9 => h9) rfl dX3_read_19 ?_
      refine lv_aload_n hx hb dX3_read_22 rfl (lv_at hl 1 rfl) ?_
      refine lv_aload_n hx hb dX3_read_23 rfl (lv_at hl 1 rfl) ?_
      refine zw_getf (r := (20, 0, 0)) (v := .int (σ (0, 0, 0) 1)) (C := RX3) (T := TX3) (N := 17) (ci := 3) hx hb hts hwX3 hown hK hP (hM 0 (by decide)) rfl rfl 4 (by decide) (hts (.fieldLink RX3 19 "FourTrackDeckModel" "onDeck" "I") (by decide +kernel)) (fun _ h9 => h9) rfl dX3_read_24 ?_
      refine lv_iload_n hx hb dX3_read_27 rfl (lv_at hl 2 rfl) ?_
      refine lv_aload_n hx hb dX3_read_28 rfl (lv_at hl 1 rfl) ?_
      refine lv_iload_n hx hb dX3_read_29 rfl (lv_at hl 2 rfl) ?_
      refine zw_cV (r := (20, 0, 0)) (As := [.int p0]) (rest := [.int p0, .int (σ (0, 0, 0) 1), .ref (ad (20, 0, 0)), .ref (ad (23, 0, 0)), .ref (ad (20, 0, 0))]) (st1 := [.int (σ (0, 0, 0) 2 + σ (2, 0, 0) p0.toNatClampNeg), .int p0, .int (σ (0, 0, 0) 1), .ref (ad (20, 0, 0)), .ref (ad (23, 0, 0)), .ref (ad (20, 0, 0))]) ⟨hx, hb, hml, hown, hts⟩ (cm_place (σ := σ) hM p0 h_1.2) (cwV 1 hts gX3_read_X3_place rfl rfl rfl (by decide +kernel) ⟨Nat.le_of_ble_eq_true rfl, Nat.le_of_ble_eq_true rfl⟩) (hM 0 (by decide)) rfl rfl rfl hK hP hD hS hA hN rfl hl.1 rfl (Nat.le_of_ble_eq_true rfl) rfl dX3_read_30 ⟨Nat.zero_le _, Nat.zero_le _⟩ (fun H locs hP hD hS => ?_)
      refine zw_cV (r := (20, 0, 0)) (As := [.int (σ (0, 0, 0) 1), .int p0, .int (σ (0, 0, 0) 2 + σ (2, 0, 0) p0.toNatClampNeg)]) (rest := [.ref (ad (23, 0, 0)), .ref (ad (20, 0, 0))]) (st1 := [.int ((4 * (σ (0, 0, 0) 1) + p0) * 64 + (σ (0, 0, 0) 2 + σ (2, 0, 0) p0.toNatClampNeg)), .ref (ad (23, 0, 0)), .ref (ad (20, 0, 0))]) ⟨hx, hb, hml, hown, hts⟩ (cm_at (σ := σ) (σ (0, 0, 0) 1) p0 (σ (0, 0, 0) 2 + σ (2, 0, 0) p0.toNatClampNeg)) (cwV 3 hts gX3_read_X3_at rfl rfl rfl (by decide +kernel) ⟨Nat.le_of_ble_eq_true rfl, Nat.le_of_ble_eq_true rfl⟩) (hM 0 (by decide)) rfl rfl rfl hK hP hD hS hA hN rfl hl.1 rfl (Nat.le_of_ble_eq_true rfl) rfl dX3_read_33 ⟨Nat.zero_le _, Nat.zero_le _⟩ (fun H locs hP hD hS => ?_)
      refine zw_ialdv (r := (23, 0, 0)) (v := (σ (9, (σ (0, 0, 0) 1).toNatClampNeg, p0.toNatClampNeg) (σ (0, 0, 0) 2 + σ (2, 0, 0) p0.toNatClampNeg).toNatClampNeg)) hx hb hK hP (hM 3 (by decide)) 0 rfl rfl (zm_at h_1.1 hnr h_1.2 (ze_fi (hlen _ (ze_vr h_1.1 hnr)) c_2) (hlen _ (ze_vr h_1.1 hnr))).2.1 (zm_rd h_1.1 hnr h_1.2 (ze_fi (hlen _ (ze_vr h_1.1 hnr)) c_2) (hlen _ (ze_vr h_1.1 hnr))) dX3_read_36 ?_
      refine zw_cV (r := (20, 0, 0)) (As := [.int (σ (9, (σ (0, 0, 0) 1).toNatClampNeg, p0.toNatClampNeg) (σ (0, 0, 0) 2 + σ (2, 0, 0) p0.toNatClampNeg).toNatClampNeg)]) (rest := []) (st1 := [.int (σ (9, (σ (0, 0, 0) 1).toNatClampNeg, p0.toNatClampNeg) (σ (0, 0, 0) 2 + σ (2, 0, 0) p0.toNatClampNeg).toNatClampNeg)]) ⟨hx, hb, hml, hown, hts⟩ (cm_done (σ := σ) hM (σ (9, (σ (0, 0, 0) 1).toNatClampNeg, p0.toNatClampNeg) (σ (0, 0, 0) 2 + σ (2, 0, 0) p0.toNatClampNeg).toNatClampNeg)) (cwV 1 hts gX3_read_X3_done rfl rfl rfl (by decide +kernel) ⟨Nat.le_of_ble_eq_true rfl, Nat.le_of_ble_eq_true rfl⟩) (hM 0 (by decide)) rfl rfl rfl hK hP hD hS hA hN rfl hl.1 rfl (Nat.le_of_ble_eq_true rfl) rfl dX3_read_37 ⟨Nat.zero_le _, Nat.zero_le _⟩ (fun H locs hP hD hS => ?_)
      exact zw_iret hx hb hr hlk hK hP hD hS dX3_read_40 (by simp only [sp_read, sp_n, if_pos h_1, if_pos c_2, c_2, ↓reduceIte, ite_self] <;> rfl) (by simp only [sp_read, sp_n, if_pos h_1, if_pos c_2, c_2, ↓reduceIte, ite_self] <;> rfl)
    · refine lv_aload_n hx hb dX3_read_10 rfl (lv_at hl 1 rfl) ?_
      refine lv_iload_n hx hb dX3_read_11 rfl (lv_at hl 0 rfl) ?_
      refine lv_iconst (v := 0) hx hb dX3_read_12 (by decide) ?_
      refine zw_cV (r := (20, 0, 0)) (As := [.int (sp_f len σ (σ (0, 0, 0) 1).toNatClampNeg p0.toNatClampNeg (σ (0, 0, 0) 2 + σ (2, 0, 0) p0.toNatClampNeg)), .int 0]) (rest := []) (st1 := [.int 0]) ⟨hx, hb, hml, hown, hts⟩ (cm_fails (σ := σ) hM (sp_f len σ (σ (0, 0, 0) 1).toNatClampNeg p0.toNatClampNeg (σ (0, 0, 0) 2 + σ (2, 0, 0) p0.toNatClampNeg)) 0) (cwV 2 hts gX3_read_X3_fails rfl rfl rfl (by decide +kernel) ⟨Nat.le_of_ble_eq_true rfl, Nat.le_of_ble_eq_true rfl⟩) (hM 0 (by decide)) rfl rfl rfl hK hP hD hS hA hN rfl hl.1 rfl (Nat.le_of_ble_eq_true rfl) rfl dX3_read_13 ⟨Nat.zero_le _, Nat.zero_le _⟩ (fun H locs hP hD hS => ?_)
      exact zw_iret hx hb hr hlk hK hP hD hS dX3_read_16 (by simp only [sp_read, sp_n, if_pos h_1, if_neg c_2, ↓reduceIte, ite_self] <;> rfl) (by simp only [sp_read, sp_n, if_pos h_1, if_neg c_2, ↓reduceIte, ite_self] <;> rfl)
  rcases Decidable.em (sp_t p0) with h_3 | h_3
  · refine zw_cV (r := (20, 0, 0)) (As := [.int p0]) (rest := []) (st1 := [.int 5]) ⟨hx, hb, hml, hown, hts⟩ (cm_headFault_5 (σ := σ) hM p0 h_3 (hod.resolve_right (fun q => h_1 ⟨q, h_3⟩))) (cwV 1 hts gX3_read_X3_headFault rfl rfl rfl (by decide +kernel) ⟨Nat.le_of_ble_eq_true rfl, Nat.le_of_ble_eq_true rfl⟩) (hM 0 (by decide)) rfl rfl rfl hK hP hD hS hA hN rfl hl.1 rfl (Nat.le_of_ble_eq_true rfl) rfl dX3_read_2 ⟨Nat.zero_le _, Nat.zero_le _⟩ (fun H locs hP hD hS => ?_)
    refine lv_istore_n (lv' := [(2, .int 5), (0, .ref (ad (20, 0, 0))), (1, .int p0)]) hx hb dX3_read_5 rfl hl (by decide) rfl (fun ls hl => ?_)
    refine lv_iload_n hx hb dX3_read_6 rfl (lv_at hl 0 rfl) ?_
    refine lv_if_eq (tgt := 17) hx hb dX3_read_7 (by decide) (fun c_4 => absurd c_4 (by decide)) (fun c_4 => ?_)
    refine lv_aload_n hx hb dX3_read_10 rfl (lv_at hl 1 rfl) ?_
    refine lv_iload_n hx hb dX3_read_11 rfl (lv_at hl 0 rfl) ?_
    refine lv_iconst (v := 0) hx hb dX3_read_12 (by decide) ?_
    refine zw_cV (r := (20, 0, 0)) (As := [.int 5, .int 0]) (rest := []) (st1 := [.int 0]) ⟨hx, hb, hml, hown, hts⟩ (cm_fails (σ := σ) hM 5 0) (cwV 2 hts gX3_read_X3_fails rfl rfl rfl (by decide +kernel) ⟨Nat.le_of_ble_eq_true rfl, Nat.le_of_ble_eq_true rfl⟩) (hM 0 (by decide)) rfl rfl rfl hK hP hD hS hA hN rfl hl.1 rfl (Nat.le_of_ble_eq_true rfl) rfl dX3_read_13 ⟨Nat.zero_le _, Nat.zero_le _⟩ (fun H locs hP hD hS => ?_)
    exact zw_iret hx hb hr hlk hK hP hD hS dX3_read_16 (by simp only [sp_read, sp_n, if_neg h_1, if_pos h_3, ↓reduceIte, ite_self] <;> rfl) (by simp only [sp_read, sp_n, if_neg h_1, if_pos h_3, ↓reduceIte, ite_self] <;> rfl)
  · refine zw_cV (r := (20, 0, 0)) (As := [.int p0]) (rest := []) (st1 := [.int 1]) ⟨hx, hb, hml, hown, hts⟩ (cm_headFault_1 (σ := σ) hM p0 h_3) (cwV 1 hts gX3_read_X3_headFault rfl rfl rfl (by decide +kernel) ⟨Nat.le_of_ble_eq_true rfl, Nat.le_of_ble_eq_true rfl⟩) (hM 0 (by decide)) rfl rfl rfl hK hP hD hS hA hN rfl hl.1 rfl (Nat.le_of_ble_eq_true rfl) rfl dX3_read_2 ⟨Nat.zero_le _, Nat.zero_le _⟩ (fun H locs hP hD hS => ?_)
    refine lv_istore_n (lv' := [(2, .int 1), (0, .ref (ad (20, 0, 0))), (1, .int p0)]) hx hb dX3_read_5 rfl hl (by decide) rfl (fun ls hl => ?_)
    refine lv_iload_n hx hb dX3_read_6 rfl (lv_at hl 0 rfl) ?_
    refine lv_if_eq (tgt := 17) hx hb dX3_read_7 (by decide) (fun c_5 => absurd c_5 (by decide)) (fun c_5 => ?_)
    refine lv_aload_n hx hb dX3_read_10 rfl (lv_at hl 1 rfl) ?_
    refine lv_iload_n hx hb dX3_read_11 rfl (lv_at hl 0 rfl) ?_
    refine lv_iconst (v := 0) hx hb dX3_read_12 (by decide) ?_
    refine zw_cV (r := (20, 0, 0)) (As := [.int 1, .int 0]) (rest := []) (st1 := [.int 0]) ⟨hx, hb, hml, hown, hts⟩ (cm_fails (σ := σ) hM 1 0) (cwV 2 hts gX3_read_X3_fails rfl rfl rfl (by decide +kernel) ⟨Nat.le_of_ble_eq_true rfl, Nat.le_of_ble_eq_true rfl⟩) (hM 0 (by decide)) rfl rfl rfl hK hP hD hS hA hN rfl hl.1 rfl (Nat.le_of_ble_eq_true rfl) rfl dX3_read_13 ⟨Nat.zero_le _, Nat.zero_le _⟩ (fun H locs hP hD hS => ?_)
    exact zw_iret hx hb hr hlk hK hP hD hS dX3_read_16 (by simp only [sp_read, sp_n, if_neg h_1, if_neg h_3, ↓reduceIte, ite_self] <;> rfl) (by simp only [sp_read, sp_n, if_neg h_1, if_neg h_3, ↓reduceIte, ite_self] <;> rfl)
set_option maxHeartbeats 4000000 in
set_option maxRecDepth 100000 in
theorem cm_write {l : Launch} {dC : Nat → ClassId} {dI : Nat → Nat → Nat} {cA : Nat → ClassId} {ad : zw_R → Nat} {R : List zw_R} {nr : Nat} {len : Nat → Nat} {σ : sp_S} {cD : zw_R → va_E} (hM : zm_R R) (hnr : nr ≤ 8) (hlen : ∀ i, i < nr → len i ≤ 64) (hod : σ (0, 0, 0) 1 = -1 ∨ sp_r nr (σ (0, 0, 0) 1)) (p0 p1 : Int32) : zw_M l yX3_write wsX3_write { frames := 3, cells := 0, slots := 0, locals := 66 } (ze_E dC dI cA) [.ref (ad (20, 0, 0)), .int p0, .int p1] ad R (ze_X cD (ze_M cA ad len σ)) (some (.int ((sp_write nr len σ p0 p1).1))) (ze_X cD (ze_M cA ad len (sp_write nr len σ p0 p1).2)) := by
  refine zw_body (cc := cX3_write) (maxL := 4) (ret := (some .int)) (by decide) rfl (Nat.le_of_ble_eq_true rfl) ?_
  intro p e s m below meth c A ls hx hb hr hlk hml hts hown hnm hA hK hP hD hS hN hl
  have hl : lv_has ls 4 [(0, .ref (ad (20, 0, 0))), (1, .int p0), (2, .int p1)] := hl
  have hwX3 : ∀ w ∈ u_ws RX3 TX3 17, w ∈ wsX3_write := by decide +kernel
  refine lv_aload_n hx hb dX3_write_0 rfl (lv_at hl 0 rfl) ?_
  refine lv_iload_n hx hb dX3_write_1 rfl (lv_at hl 1 rfl) ?_
  rcases Decidable.em (sp_v nr (σ (0, 0, 0) 1) p0) with h_1 | h_1
  · refine zw_cV (r := (20, 0, 0)) (As := [.int p0]) (rest := []) (st1 := [.int (sp_f len σ (σ (0, 0, 0) 1).toNatClampNeg p0.toNatClampNeg (σ (0, 0, 0) 2 + σ (2, 0, 0) p0.toNatClampNeg))]) ⟨hx, hb, hml, hown, hts⟩ (cm_headFault_v (σ := σ) hM hnr p0 h_1) (cwV 1 hts gX3_write_X3_headFault rfl rfl rfl (by decide +kernel) ⟨Nat.le_of_ble_eq_true rfl, Nat.le_of_ble_eq_true rfl⟩) (hM 0 (by decide)) rfl rfl rfl hK hP hD hS hA hN rfl hl.1 rfl (Nat.le_of_ble_eq_true rfl) rfl dX3_write_2 ⟨Nat.zero_le _, Nat.zero_le _⟩ (fun H locs hP hD hS => ?_)
    refine lv_istore_n (lv' := [(3, .int (sp_f len σ (σ (0, 0, 0) 1).toNatClampNeg p0.toNatClampNeg (σ (0, 0, 0) 2 + σ (2, 0, 0) p0.toNatClampNeg))), (0, .ref (ad (20, 0, 0))), (1, .int p0), (2, .int p1)]) hx hb dX3_write_5 rfl hl (by decide) rfl (fun ls hl => ?_)
    refine lv_iload_n hx hb dX3_write_6 rfl (lv_at hl 0 rfl) ?_
    refine lv_if_eq (tgt := 17) hx hb dX3_write_7 (by decide) (fun c_2 => ?_) (fun c_2 => ?_)
    · refine lv_aload_n hx hb dX3_write_17 rfl (lv_at hl 1 rfl) ?_
      refine zw_getf (r := (20, 0, 0)) (v := .ref (ad (23, 0, 0))) (C := RX3) (T := TX3) (N := 17) (ci := 3) hx hb hts hwX3 hown hK hP (hM 0 (by decide)) rfl rfl 3 (by decide) (hts (.fieldLink RX3 16 "FourTrackDeckModel" "number" "[I") (by decide +kernel)) (fun _ h9 => h9) rfl dX3_write_18 ?_
      refine lv_aload_n hx hb dX3_write_21 rfl (lv_at hl 1 rfl) ?_
      refine lv_aload_n hx hb dX3_write_22 rfl (lv_at hl 1 rfl) ?_
      refine zw_getf (r := (20, 0, 0)) (v := .int (σ (0, 0, 0) 1)) (C := RX3) (T := TX3) (N := 17) (ci := 3) hx hb hts hwX3 hown hK hP (hM 0 (by decide)) rfl rfl 4 (by decide) (hts (.fieldLink RX3 19 "FourTrackDeckModel" "onDeck" "I") (by decide +kernel)) (fun _ h9 => h9) rfl dX3_write_23 ?_
      refine lv_iload_n hx hb dX3_write_26 rfl (lv_at hl 2 rfl) ?_
      refine lv_aload_n hx hb dX3_write_27 rfl (lv_at hl 1 rfl) ?_
      refine lv_iload_n hx hb dX3_write_28 rfl (lv_at hl 2 rfl) ?_
      refine zw_cV (r := (20, 0, 0)) (As := [.int p0]) (rest := [.int p0, .int (σ (0, 0, 0) 1), .ref (ad (20, 0, 0)), .ref (ad (23, 0, 0))]) (st1 := [.int (σ (0, 0, 0) 2 + σ (2, 0, 0) p0.toNatClampNeg), .int p0, .int (σ (0, 0, 0) 1), .ref (ad (20, 0, 0)), .ref (ad (23, 0, 0))]) ⟨hx, hb, hml, hown, hts⟩ (cm_place (σ := σ) hM p0 h_1.2) (cwV 1 hts gX3_write_X3_place rfl rfl rfl (by decide +kernel) ⟨Nat.le_of_ble_eq_true rfl, Nat.le_of_ble_eq_true rfl⟩) (hM 0 (by decide)) rfl rfl rfl hK hP hD hS hA hN rfl hl.1 rfl (Nat.le_of_ble_eq_true rfl) rfl dX3_write_29 ⟨Nat.zero_le _, Nat.zero_le _⟩ (fun H locs hP hD hS => ?_)
      refine zw_cV (r := (20, 0, 0)) (As := [.int (σ (0, 0, 0) 1), .int p0, .int (σ (0, 0, 0) 2 + σ (2, 0, 0) p0.toNatClampNeg)]) (rest := [.ref (ad (23, 0, 0))]) (st1 := [.int ((4 * (σ (0, 0, 0) 1) + p0) * 64 + (σ (0, 0, 0) 2 + σ (2, 0, 0) p0.toNatClampNeg)), .ref (ad (23, 0, 0))]) ⟨hx, hb, hml, hown, hts⟩ (cm_at (σ := σ) (σ (0, 0, 0) 1) p0 (σ (0, 0, 0) 2 + σ (2, 0, 0) p0.toNatClampNeg)) (cwV 3 hts gX3_write_X3_at rfl rfl rfl (by decide +kernel) ⟨Nat.le_of_ble_eq_true rfl, Nat.le_of_ble_eq_true rfl⟩) (hM 0 (by decide)) rfl rfl rfl hK hP hD hS hA hN rfl hl.1 rfl (Nat.le_of_ble_eq_true rfl) rfl dX3_write_32 ⟨Nat.zero_le _, Nat.zero_le _⟩ (fun H locs hP hD hS => ?_)
      refine lv_aload_n hx hb dX3_write_35 rfl (lv_at hl 1 rfl) ?_
      refine lv_iload_n hx hb dX3_write_36 rfl (lv_at hl 2 rfl) ?_
      refine lv_iload_n hx hb dX3_write_37 rfl (lv_at hl 3 rfl) ?_
      refine zw_cV (r := (20, 0, 0)) (As := [.int p0, .int p1]) (rest := [.int ((4 * (σ (0, 0, 0) 1) + p0) * 64 + (σ (0, 0, 0) 2 + σ (2, 0, 0) p0.toNatClampNeg)), .ref (ad (23, 0, 0))]) (st1 := [.int (sp_as p0.toNatClampNeg p1), .int ((4 * (σ (0, 0, 0) 1) + p0) * 64 + (σ (0, 0, 0) 2 + σ (2, 0, 0) p0.toNatClampNeg)), .ref (ad (23, 0, 0))]) ⟨hx, hb, hml, hown, hts⟩ (cm_fit (σ := σ) p0 p1 h_1.2) (cwV 2 hts gX3_write_X3_fit rfl rfl rfl (by decide +kernel) ⟨Nat.le_of_ble_eq_true rfl, Nat.le_of_ble_eq_true rfl⟩) (hM 0 (by decide)) rfl rfl rfl hK hP hD hS hA hN rfl hl.1 rfl (Nat.le_of_ble_eq_true rfl) rfl dX3_write_38 ⟨Nat.zero_le _, Nat.zero_le _⟩ (fun H locs hP hD hS => ?_)
      refine zw_iast (r := (23, 0, 0)) hx hb hK hP hD hS (hM 3 (by decide)) 0 rfl rfl (zm_at h_1.1 hnr h_1.2 (ze_fi (hlen _ (ze_vr h_1.1 hnr)) c_2) (hlen _ (ze_vr h_1.1 hnr))).2.1 dX3_write_41 (cu1 := ze_X cD (ze_M cA ad len (sp_s σ (9, (σ (0, 0, 0) 1).toNatClampNeg, p0.toNatClampNeg) (σ (0, 0, 0) 2 + σ (2, 0, 0) p0.toNatClampNeg).toNatClampNeg (sp_as p0.toNatClampNeg p1)))) (zm_N (zm_at h_1.1 hnr h_1.2 (ze_fi (hlen _ (ze_vr h_1.1 hnr)) c_2) (hlen _ (ze_vr h_1.1 hnr))).1 (ze_vt h_1.2) (zm_at h_1.1 hnr h_1.2 (ze_fi (hlen _ (ze_vr h_1.1 hnr)) c_2) (hlen _ (ze_vr h_1.1 hnr))).2.2) (fun H locs hP hD hS => ?_)
      refine lv_aload_n hx hb dX3_write_42 rfl (lv_at hl 1 rfl) ?_
      refine lv_aload_n hx hb dX3_write_43 rfl (lv_at hl 1 rfl) ?_
      refine lv_iload_n hx hb dX3_write_44 rfl (lv_at hl 2 rfl) ?_
      refine lv_iload_n hx hb dX3_write_45 rfl (lv_at hl 3 rfl) ?_
      refine zw_cV (r := (20, 0, 0)) (As := [.int p0, .int p1]) (rest := [.ref (ad (20, 0, 0))]) (st1 := [.int (sp_as p0.toNatClampNeg p1), .ref (ad (20, 0, 0))]) ⟨hx, hb, hml, hown, hts⟩ (cm_fit (σ := (sp_s σ (9, (σ (0, 0, 0) 1).toNatClampNeg, p0.toNatClampNeg) (σ (0, 0, 0) 2 + σ (2, 0, 0) p0.toNatClampNeg).toNatClampNeg (sp_as p0.toNatClampNeg p1))) p0 p1 h_1.2) (cwV 2 hts gX3_write_X3_fit rfl rfl rfl (by decide +kernel) ⟨Nat.le_of_ble_eq_true rfl, Nat.le_of_ble_eq_true rfl⟩) (hM 0 (by decide)) rfl rfl rfl hK hP hD hS hA hN rfl hl.1 rfl (Nat.le_of_ble_eq_true rfl) rfl dX3_write_46 ⟨Nat.zero_le _, Nat.zero_le _⟩ (fun H locs hP hD hS => ?_)
      refine zw_cV (r := (20, 0, 0)) (As := [.int (sp_as p0.toNatClampNeg p1)]) (rest := []) (st1 := [.int (sp_as p0.toNatClampNeg p1)]) ⟨hx, hb, hml, hown, hts⟩ (cm_done (σ := (sp_s σ (9, (σ (0, 0, 0) 1).toNatClampNeg, p0.toNatClampNeg) (σ (0, 0, 0) 2 + σ (2, 0, 0) p0.toNatClampNeg).toNatClampNeg (sp_as p0.toNatClampNeg p1))) hM (sp_as p0.toNatClampNeg p1)) (cwV 1 hts gX3_write_X3_done rfl rfl rfl (by decide +kernel) ⟨Nat.le_of_ble_eq_true rfl, Nat.le_of_ble_eq_true rfl⟩) (hM 0 (by decide)) rfl rfl rfl hK hP hD hS hA hN rfl hl.1 rfl (Nat.le_of_ble_eq_true rfl) rfl dX3_write_49 ⟨Nat.zero_le _, Nat.zero_le _⟩ (fun H locs hP hD hS => ?_)
      exact zw_iret hx hb hr hlk hK hP hD hS dX3_write_52 (by rw [sp_write_1 h_1 c_2]) (by rw [sp_write_1 h_1 c_2])
    · refine lv_aload_n hx hb dX3_write_10 rfl (lv_at hl 1 rfl) ?_
      refine lv_iload_n hx hb dX3_write_11 rfl (lv_at hl 0 rfl) ?_
      refine lv_iconst (v := 0) hx hb dX3_write_12 (by decide) ?_
      refine zw_cV (r := (20, 0, 0)) (As := [.int (sp_f len σ (σ (0, 0, 0) 1).toNatClampNeg p0.toNatClampNeg (σ (0, 0, 0) 2 + σ (2, 0, 0) p0.toNatClampNeg)), .int 0]) (rest := []) (st1 := [.int 0]) ⟨hx, hb, hml, hown, hts⟩ (cm_fails (σ := σ) hM (sp_f len σ (σ (0, 0, 0) 1).toNatClampNeg p0.toNatClampNeg (σ (0, 0, 0) 2 + σ (2, 0, 0) p0.toNatClampNeg)) 0) (cwV 2 hts gX3_write_X3_fails rfl rfl rfl (by decide +kernel) ⟨Nat.le_of_ble_eq_true rfl, Nat.le_of_ble_eq_true rfl⟩) (hM 0 (by decide)) rfl rfl rfl hK hP hD hS hA hN rfl hl.1 rfl (Nat.le_of_ble_eq_true rfl) rfl dX3_write_13 ⟨Nat.zero_le _, Nat.zero_le _⟩ (fun H locs hP hD hS => ?_)
      exact zw_iret hx hb hr hlk hK hP hD hS dX3_write_16 (by rw [sp_write_0 h_1 c_2]) (by rw [sp_write_0 h_1 c_2])
  rcases Decidable.em (sp_t p0) with h_3 | h_3
  · refine zw_cV (r := (20, 0, 0)) (As := [.int p0]) (rest := []) (st1 := [.int 5]) ⟨hx, hb, hml, hown, hts⟩ (cm_headFault_5 (σ := σ) hM p0 h_3 (hod.resolve_right (fun q => h_1 ⟨q, h_3⟩))) (cwV 1 hts gX3_write_X3_headFault rfl rfl rfl (by decide +kernel) ⟨Nat.le_of_ble_eq_true rfl, Nat.le_of_ble_eq_true rfl⟩) (hM 0 (by decide)) rfl rfl rfl hK hP hD hS hA hN rfl hl.1 rfl (Nat.le_of_ble_eq_true rfl) rfl dX3_write_2 ⟨Nat.zero_le _, Nat.zero_le _⟩ (fun H locs hP hD hS => ?_)
    refine lv_istore_n (lv' := [(3, .int 5), (0, .ref (ad (20, 0, 0))), (1, .int p0), (2, .int p1)]) hx hb dX3_write_5 rfl hl (by decide) rfl (fun ls hl => ?_)
    refine lv_iload_n hx hb dX3_write_6 rfl (lv_at hl 0 rfl) ?_
    refine lv_if_eq (tgt := 17) hx hb dX3_write_7 (by decide) (fun c_4 => absurd c_4 (by decide)) (fun c_4 => ?_)
    refine lv_aload_n hx hb dX3_write_10 rfl (lv_at hl 1 rfl) ?_
    refine lv_iload_n hx hb dX3_write_11 rfl (lv_at hl 0 rfl) ?_
    refine lv_iconst (v := 0) hx hb dX3_write_12 (by decide) ?_
    refine zw_cV (r := (20, 0, 0)) (As := [.int 5, .int 0]) (rest := []) (st1 := [.int 0]) ⟨hx, hb, hml, hown, hts⟩ (cm_fails (σ := σ) hM 5 0) (cwV 2 hts gX3_write_X3_fails rfl rfl rfl (by decide +kernel) ⟨Nat.le_of_ble_eq_true rfl, Nat.le_of_ble_eq_true rfl⟩) (hM 0 (by decide)) rfl rfl rfl hK hP hD hS hA hN rfl hl.1 rfl (Nat.le_of_ble_eq_true rfl) rfl dX3_write_13 ⟨Nat.zero_le _, Nat.zero_le _⟩ (fun H locs hP hD hS => ?_)
    exact zw_iret hx hb hr hlk hK hP hD hS dX3_write_16 (by simp only [sp_write, if_neg h_1, if_pos h_3, ite_self] <;> rfl) (by simp only [sp_write, if_neg h_1, if_pos h_3, ite_self] <;> rfl)
  · refine zw_cV (r := (20, 0, 0)) (As := [.int p0]) (rest := []) (st1 := [.int 1]) ⟨hx, hb, hml, hown, hts⟩ (cm_headFault_1 (σ := σ) hM p0 h_3) (cwV 1 hts gX3_write_X3_headFault rfl rfl rfl (by decide +kernel) ⟨Nat.le_of_ble_eq_true rfl, Nat.le_of_ble_eq_true rfl⟩) (hM 0 (by decide)) rfl rfl rfl hK hP hD hS hA hN rfl hl.1 rfl (Nat.le_of_ble_eq_true rfl) rfl dX3_write_2 ⟨Nat.zero_le _, Nat.zero_le _⟩ (fun H locs hP hD hS => ?_)
    refine lv_istore_n (lv' := [(3, .int 1), (0, .ref (ad (20, 0, 0))), (1, .int p0), (2, .int p1)]) hx hb dX3_write_5 rfl hl (by decide) rfl (fun ls hl => ?_)
    refine lv_iload_n hx hb dX3_write_6 rfl (lv_at hl 0 rfl) ?_
    refine lv_if_eq (tgt := 17) hx hb dX3_write_7 (by decide) (fun c_5 => absurd c_5 (by decide)) (fun c_5 => ?_)
    refine lv_aload_n hx hb dX3_write_10 rfl (lv_at hl 1 rfl) ?_
    refine lv_iload_n hx hb dX3_write_11 rfl (lv_at hl 0 rfl) ?_
    refine lv_iconst (v := 0) hx hb dX3_write_12 (by decide) ?_
    refine zw_cV (r := (20, 0, 0)) (As := [.int 1, .int 0]) (rest := []) (st1 := [.int 0]) ⟨hx, hb, hml, hown, hts⟩ (cm_fails (σ := σ) hM 1 0) (cwV 2 hts gX3_write_X3_fails rfl rfl rfl (by decide +kernel) ⟨Nat.le_of_ble_eq_true rfl, Nat.le_of_ble_eq_true rfl⟩) (hM 0 (by decide)) rfl rfl rfl hK hP hD hS hA hN rfl hl.1 rfl (Nat.le_of_ble_eq_true rfl) rfl dX3_write_13 ⟨Nat.zero_le _, Nat.zero_le _⟩ (fun H locs hP hD hS => ?_)
    exact zw_iret hx hb hr hlk hK hP hD hS dX3_write_16 (by simp only [sp_write, if_neg h_1, if_neg h_3, ite_self] <;> rfl) (by simp only [sp_write, if_neg h_1, if_neg h_3, ite_self] <;> rfl)
set_option maxHeartbeats 4000000 in
set_option maxRecDepth 100000 in
theorem cm_cellFault {l : Launch} {dC : Nat → ClassId} {dI : Nat → Nat → Nat} {cA : Nat → ClassId} {ad : zw_R → Nat} {R : List zw_R} {len : Nat → Nat} {σ : sp_S} {cD : zw_R → va_E} (hM : zm_R R) (p0 p1 : Int32) : zw_M l yX3_cellFault wsX3_cellFault { frames := 0, cells := 0, slots := 0, locals := 0 } (ze_E dC dI cA) [.ref (ad (20, 0, 0)), .int p0, .int p1] ad R (ze_X cD (ze_M cA ad len σ)) (some (.int (sp_c σ p0 p1))) (ze_X cD (ze_M cA ad len σ)) := by
  refine zw_body (cc := cX3_cellFault) (maxL := 3) (ret := (some .int)) (by decide) rfl (Nat.le_of_ble_eq_true rfl) ?_
  intro p e s m below meth c A ls hx hb hr hlk hml hts hown hnm hA hK hP hD hS hN hl
  have hl : lv_has ls 3 [(0, .ref (ad (20, 0, 0))), (1, .int p0), (2, .int p1)] := hl
  have hwX3 : ∀ w ∈ u_ws RX3 TX3 17, w ∈ wsX3_cellFault := by decide +kernel
  refine lv_aload_n hx hb dX3_cellFault_0 rfl (lv_at hl 0 rfl) ?_
  refine zw_getf (r := (20, 0, 0)) (v := .int (σ (0, 0, 0) 5)) (C := RX3) (T := TX3) (N := 17) (ci := 3) hx hb hts hwX3 hown hK hP (hM 0 (by decide)) rfl rfl 13 (by decide) (hts (.fieldLink RX3 35 "FourTrackDeckModel" "rows" "I") (by decide +kernel)) (fun _ h9 => h9) rfl dX3_cellFault_1 ?_
  refine lv_iconst (v := (-1)) hx hb dX3_cellFault_4 (by decide) ?_
  refine lv_icmp_ne (tgt := 10) hx hb dX3_cellFault_5 (by decide) (fun c_1 => ?_) (fun c_1 => ?_)
  · refine lv_iload_n hx hb dX3_cellFault_10 rfl (lv_at hl 1 rfl) ?_
    refine lv_if_lt (tgt := 34) hx hb dX3_cellFault_11 (by decide) (fun c_2 => ?_) (fun c_2 => ?_)
    · refine lv_iconst (v := 3) hx hb dX3_cellFault_34 (by decide) ?_
      refine lv_goto (tgt := 39) hx hb dX3_cellFault_35 (by decide) ?_
      exact zw_iret hx hb hr hlk hK hP hD hS dX3_cellFault_39 (by unfold sp_c; rw [if_neg c_1, if_neg (fun q => Int32.not_lt.mpr q.1.1 c_2)]) rfl
    · refine lv_iload_n hx hb dX3_cellFault_14 rfl (lv_at hl 1 rfl) ?_
      refine lv_aload_n hx hb dX3_cellFault_15 rfl (lv_at hl 0 rfl) ?_
      refine zw_getf (r := (20, 0, 0)) (v := .int (σ (0, 0, 0) 5)) (C := RX3) (T := TX3) (N := 17) (ci := 3) hx hb hts hwX3 hown hK hP (hM 0 (by decide)) rfl rfl 13 (by decide) (hts (.fieldLink RX3 35 "FourTrackDeckModel" "rows" "I") (by decide +kernel)) (fun _ h9 => h9) rfl dX3_cellFault_16 ?_
      refine lv_icmp_ge (tgt := 34) hx hb dX3_cellFault_19 (by decide) (fun c_3 => ?_) (fun c_3 => ?_)
      · refine lv_iconst (v := 3) hx hb dX3_cellFault_34 (by decide) ?_
        refine lv_goto (tgt := 39) hx hb dX3_cellFault_35 (by decide) ?_
        exact zw_iret hx hb hr hlk hK hP hD hS dX3_cellFault_39 (by unfold sp_c; rw [if_neg c_1, if_neg (fun q => Int32.not_lt.mpr c_3 q.1.2)]) rfl
      · refine lv_iload_n hx hb dX3_cellFault_22 rfl (lv_at hl 2 rfl) ?_
        refine lv_if_lt (tgt := 34) hx hb dX3_cellFault_23 (by decide) (fun c_4 => ?_) (fun c_4 => ?_)
        · refine lv_iconst (v := 3) hx hb dX3_cellFault_34 (by decide) ?_
          refine lv_goto (tgt := 39) hx hb dX3_cellFault_35 (by decide) ?_
          exact zw_iret hx hb hr hlk hK hP hD hS dX3_cellFault_39 (by unfold sp_c; rw [if_neg c_1, if_neg (fun q => Int32.not_lt.mpr q.2.1 c_4)]) rfl
        · refine lv_iload_n hx hb dX3_cellFault_26 rfl (lv_at hl 2 rfl) ?_
          refine lv_aload_n hx hb dX3_cellFault_27 rfl (lv_at hl 0 rfl) ?_
          refine zw_getf (r := (20, 0, 0)) (v := .int (σ (0, 0, 0) 6)) (C := RX3) (T := TX3) (N := 17) (ci := 3) hx hb hts hwX3 hown hK hP (hM 0 (by decide)) rfl rfl 14 (by decide) (hts (.fieldLink RX3 38 "FourTrackDeckModel" "cells" "I") (by decide +kernel)) (fun _ h9 => h9) rfl dX3_cellFault_28 ?_
          refine lv_icmp_lt (tgt := 38) hx hb dX3_cellFault_31 (by decide) (fun c_5 => ?_) (fun c_5 => ?_)
          · refine lv_iconst (v := 0) hx hb dX3_cellFault_38 (by decide) ?_
            exact zw_iret hx hb hr hlk hK hP hD hS dX3_cellFault_39 (by unfold sp_c; rw [if_neg c_1, if_pos ⟨⟨Int32.not_lt.mp c_2, Int32.not_le.mp c_3⟩, Int32.not_lt.mp c_4, c_5⟩]) rfl
          · refine lv_iconst (v := 3) hx hb dX3_cellFault_34 (by decide) ?_
            refine lv_goto (tgt := 39) hx hb dX3_cellFault_35 (by decide) ?_
            exact zw_iret hx hb hr hlk hK hP hD hS dX3_cellFault_39 (by unfold sp_c; rw [if_neg c_1, if_neg (fun q => c_5 q.2.2)]) rfl
  · refine lv_iconst (v := 2) hx hb dX3_cellFault_8 (by decide) ?_
    exact zw_iret hx hb hr hlk hK hP hD hS dX3_cellFault_9 (by unfold sp_c; rw [if_pos c_1]) rfl
set_option maxHeartbeats 4000000 in
set_option maxRecDepth 100000 in
theorem cm_cue {l : Launch} {dC : Nat → ClassId} {dI : Nat → Nat → Nat} {cA : Nat → ClassId} {ad : zw_R → Nat} {R : List zw_R} {nr : Nat} {len : Nat → Nat} {σ : sp_S} {cD : zw_R → va_E} (hM : zm_R R) (h5 : σ (0, 0, 0) 5 ≤ 16) (h6 : σ (0, 0, 0) 6 ≤ 16) (p0 p1 p2 : Int32) : zw_M l yX3_cue wsX3_cue { frames := 1, cells := 0, slots := 0, locals := 22 } (ze_E dC dI cA) [.ref (ad (20, 0, 0)), .int p0, .int p1, .int p2] ad R (ze_X cD (ze_M cA ad len σ)) (some (.int ((sp_cue nr len σ p0 p1 p2).1))) (ze_X cD (ze_M cA ad len (sp_cue nr len σ p0 p1 p2).2)) := by
  refine zw_body (cc := cX3_cue) (maxL := 6) (ret := (some .int)) (by decide) rfl (Nat.le_of_ble_eq_true rfl) ?_
  intro p e s m below meth c A ls hx hb hr hlk hml hts hown hnm hA hK hP hD hS hN hl
  have hl : lv_has ls 6 [(0, .ref (ad (20, 0, 0))), (1, .int p0), (2, .int p1), (3, .int p2)] := hl
  have hwX3 : ∀ w ∈ u_ws RX3 TX3 17, w ∈ wsX3_cue := by decide +kernel
  refine lv_aload_n hx hb dX3_cue_0 rfl (lv_at hl 0 rfl) ?_
  refine lv_iload_n hx hb dX3_cue_1 rfl (lv_at hl 1 rfl) ?_
  refine lv_iload_n hx hb dX3_cue_2 rfl (lv_at hl 2 rfl) ?_
  refine zw_cV (r := (20, 0, 0)) (As := [.int p0, .int p1]) (rest := []) (st1 := [.int (sp_c σ p0 p1)]) ⟨hx, hb, hml, hown, hts⟩ (cm_cellFault (σ := σ) hM p0 p1) (cwV 2 hts gX3_cue_X3_cellFault rfl rfl rfl (by decide +kernel) ⟨Nat.le_of_ble_eq_true rfl, Nat.le_of_ble_eq_true rfl⟩) (hM 0 (by decide)) rfl rfl rfl hK hP hD hS hA hN rfl hl.1 rfl (Nat.le_of_ble_eq_true rfl) rfl dX3_cue_3 ⟨Nat.zero_le _, Nat.zero_le _⟩ (fun H locs hP hD hS => ?_)
  refine lv_istore (lv' := [(4, .int (sp_c σ p0 p1)), (0, .ref (ad (20, 0, 0))), (1, .int p0), (2, .int p1), (3, .int p2)]) hx hb dX3_cue_6 hl (by decide) rfl (fun ls hl => ?_)
  refine lv_iload hx hb dX3_cue_8 (lv_at hl 0 rfl) ?_
  refine lv_if_eq (tgt := 21) hx hb dX3_cue_10 (by decide) (fun c_1 => ?_) (fun c_1 => ?_)
  · refine lv_aload_n hx hb dX3_cue_21 rfl (lv_at hl 1 rfl) ?_
    refine zw_getf (r := (20, 0, 0)) (v := .ref (ad (27, 0, 0))) (C := RX3) (T := TX3) (N := 17) (ci := 3) hx hb hts hwX3 hown hK hP (hM 0 (by decide)) rfl rfl 15 (by decide) (hts (.fieldLink RX3 41 "FourTrackDeckModel" "cue" "[I") (by decide +kernel)) (fun _ h9 => h9) rfl dX3_cue_22 ?_
    refine lv_bipush (v := 16) hx hb dX3_cue_25 (by decide) ?_
    refine lv_iload_n hx hb dX3_cue_27 rfl (lv_at hl 2 rfl) ?_
    refine lv_imul hx hb dX3_cue_28 ?_
    refine lv_iload_n hx hb dX3_cue_29 rfl (lv_at hl 3 rfl) ?_
    refine lv_iadd hx hb dX3_cue_30 ?_
    refine zw_iald (r := (27, 0, 0)) hx hb hK hP (hM 7 (by decide)) 0 rfl rfl (by rw [Int32.mul_comm]; exact ze_ci c_1 h5 h6) dX3_cue_31 ?_
    refine lv_istore (lv' := [(5, .int (σ (5, 0, 0) ((16 * p0) + p1).toNatClampNeg)), (4, .int (sp_c σ p0 p1)), (0, .ref (ad (20, 0, 0))), (1, .int p0), (2, .int p1), (3, .int p2)]) hx hb dX3_cue_32 hl (by decide) rfl (fun ls hl => ?_)
    refine lv_aload_n hx hb dX3_cue_34 rfl (lv_at hl 2 rfl) ?_
    refine zw_getf (r := (20, 0, 0)) (v := .ref (ad (27, 0, 0))) (C := RX3) (T := TX3) (N := 17) (ci := 3) hx hb hts hwX3 hown hK hP (hM 0 (by decide)) rfl rfl 15 (by decide) (hts (.fieldLink RX3 41 "FourTrackDeckModel" "cue" "[I") (by decide +kernel)) (fun _ h9 => h9) rfl dX3_cue_35 ?_
    refine lv_bipush (v := 16) hx hb dX3_cue_38 (by decide) ?_
    refine lv_iload_n hx hb dX3_cue_40 rfl (lv_at hl 3 rfl) ?_
    refine lv_imul hx hb dX3_cue_41 ?_
    refine lv_iload_n hx hb dX3_cue_42 rfl (lv_at hl 4 rfl) ?_
    refine lv_iadd hx hb dX3_cue_43 ?_
    refine lv_iload_n hx hb dX3_cue_44 rfl (lv_at hl 5 rfl) ?_
    refine zw_iast (r := (27, 0, 0)) hx hb hK hP hD hS (hM 7 (by decide)) 0 rfl rfl (by rw [Int32.mul_comm]; exact ze_ci c_1 h5 h6) dX3_cue_45 (cu1 := ze_X cD (ze_M cA ad len (sp_s σ (5, 0, 0) ((16 * p0) + p1).toNatClampNeg p2))) (zm_A5 rfl) (fun H locs hP hD hS => ?_)
    refine lv_aload_n hx hb dX3_cue_46 rfl (lv_at hl 2 rfl) ?_
    refine lv_iload hx hb dX3_cue_47 (lv_at hl 0 rfl) ?_
    refine zw_cV (r := (20, 0, 0)) (As := [.int (σ (5, 0, 0) ((16 * p0) + p1).toNatClampNeg)]) (rest := []) (st1 := [.int (σ (5, 0, 0) ((16 * p0) + p1).toNatClampNeg)]) ⟨hx, hb, hml, hown, hts⟩ (cm_done (σ := (sp_s σ (5, 0, 0) ((16 * p0) + p1).toNatClampNeg p2)) hM (σ (5, 0, 0) ((16 * p0) + p1).toNatClampNeg)) (cwV 1 hts gX3_cue_X3_done rfl rfl rfl (by decide +kernel) ⟨Nat.le_of_ble_eq_true rfl, Nat.le_of_ble_eq_true rfl⟩) (hM 0 (by decide)) rfl rfl rfl hK hP hD hS hA hN rfl hl.1 rfl (Nat.le_of_ble_eq_true rfl) rfl dX3_cue_49 ⟨Nat.zero_le _, Nat.zero_le _⟩ (fun H locs hP hD hS => ?_)
    exact zw_iret hx hb hr hlk hK hP hD hS dX3_cue_52 (by simp only [sp_cue, if_pos c_1, Int32.mul_comm 16 p0, ite_self] <;> rfl) (by simp only [sp_cue, if_pos c_1, Int32.mul_comm 16 p0, ite_self] <;> rfl)
  · refine lv_aload_n hx hb dX3_cue_13 rfl (lv_at hl 1 rfl) ?_
    refine lv_iload hx hb dX3_cue_14 (lv_at hl 0 rfl) ?_
    refine lv_iconst (v := 0) hx hb dX3_cue_16 (by decide) ?_
    refine zw_cV (r := (20, 0, 0)) (As := [.int (sp_c σ p0 p1), .int 0]) (rest := []) (st1 := [.int 0]) ⟨hx, hb, hml, hown, hts⟩ (cm_fails (σ := σ) hM (sp_c σ p0 p1) 0) (cwV 2 hts gX3_cue_X3_fails rfl rfl rfl (by decide +kernel) ⟨Nat.le_of_ble_eq_true rfl, Nat.le_of_ble_eq_true rfl⟩) (hM 0 (by decide)) rfl rfl rfl hK hP hD hS hA hN rfl hl.1 rfl (Nat.le_of_ble_eq_true rfl) rfl dX3_cue_17 ⟨Nat.zero_le _, Nat.zero_le _⟩ (fun H locs hP hD hS => ?_)
    exact zw_iret hx hb hr hlk hK hP hD hS dX3_cue_20 (by simp only [sp_cue, if_neg c_1, Int32.mul_comm 16 p0, ite_self] <;> rfl) (by simp only [sp_cue, if_neg c_1, Int32.mul_comm 16 p0, ite_self] <;> rfl)
set_option maxHeartbeats 4000000 in
set_option maxRecDepth 100000 in
theorem cm_seek {l : Launch} {dC : Nat → ClassId} {dI : Nat → Nat → Nat} {cA : Nat → ClassId} {ad : zw_R → Nat} {R : List zw_R} {nr : Nat} {len : Nat → Nat} {σ : sp_S} {cD : zw_R → va_E} (hM : zm_R R) (h5 : σ (0, 0, 0) 5 ≤ 16) (h6 : σ (0, 0, 0) 6 ≤ 16) (p0 p1 : Int32) : zw_M l yX3_seek wsX3_seek { frames := 1, cells := 0, slots := 0, locals := 22 } (ze_E dC dI cA) [.ref (ad (20, 0, 0)), .int p0, .int p1] ad R (ze_X cD (ze_M cA ad len σ)) (some (.int ((sp_seek nr len σ p0 p1).1))) (ze_X cD (ze_M cA ad len (sp_seek nr len σ p0 p1).2)) := by
  refine zw_body (cc := cX3_seek) (maxL := 4) (ret := (some .int)) (by decide) rfl (Nat.le_of_ble_eq_true rfl) ?_
  intro p e s m below meth c A ls hx hb hr hlk hml hts hown hnm hA hK hP hD hS hN hl
  have hl : lv_has ls 4 [(0, .ref (ad (20, 0, 0))), (1, .int p0), (2, .int p1)] := hl
  have hwX3 : ∀ w ∈ u_ws RX3 TX3 17, w ∈ wsX3_seek := by decide +kernel
  refine lv_aload_n hx hb dX3_seek_0 rfl (lv_at hl 0 rfl) ?_
  refine lv_iload_n hx hb dX3_seek_1 rfl (lv_at hl 1 rfl) ?_
  refine lv_iload_n hx hb dX3_seek_2 rfl (lv_at hl 2 rfl) ?_
  refine zw_cV (r := (20, 0, 0)) (As := [.int p0, .int p1]) (rest := []) (st1 := [.int (sp_c σ p0 p1)]) ⟨hx, hb, hml, hown, hts⟩ (cm_cellFault (σ := σ) hM p0 p1) (cwV 2 hts gX3_seek_X3_cellFault rfl rfl rfl (by decide +kernel) ⟨Nat.le_of_ble_eq_true rfl, Nat.le_of_ble_eq_true rfl⟩) (hM 0 (by decide)) rfl rfl rfl hK hP hD hS hA hN rfl hl.1 rfl (Nat.le_of_ble_eq_true rfl) rfl dX3_seek_3 ⟨Nat.zero_le _, Nat.zero_le _⟩ (fun H locs hP hD hS => ?_)
  refine lv_istore_n (lv' := [(3, .int (sp_c σ p0 p1)), (0, .ref (ad (20, 0, 0))), (1, .int p0), (2, .int p1)]) hx hb dX3_seek_6 rfl hl (by decide) rfl (fun ls hl => ?_)
  refine lv_iload_n hx hb dX3_seek_7 rfl (lv_at hl 0 rfl) ?_
  refine lv_if_eq (tgt := 21) hx hb dX3_seek_8 (by decide) (fun c_1 => ?_) (fun c_1 => ?_)
  · refine lv_aload_n hx hb dX3_seek_21 rfl (lv_at hl 1 rfl) ?_
    refine lv_aload_n hx hb dX3_seek_22 rfl (lv_at hl 1 rfl) ?_
    refine zw_getf (r := (20, 0, 0)) (v := .ref (ad (27, 0, 0))) (C := RX3) (T := TX3) (N := 17) (ci := 3) hx hb hts hwX3 hown hK hP (hM 0 (by decide)) rfl rfl 15 (by decide) (hts (.fieldLink RX3 41 "FourTrackDeckModel" "cue" "[I") (by decide +kernel)) (fun _ h9 => h9) rfl dX3_seek_23 ?_
    refine lv_bipush (v := 16) hx hb dX3_seek_26 (by decide) ?_
    refine lv_iload_n hx hb dX3_seek_28 rfl (lv_at hl 2 rfl) ?_
    refine lv_imul hx hb dX3_seek_29 ?_
    refine lv_iload_n hx hb dX3_seek_30 rfl (lv_at hl 3 rfl) ?_
    refine lv_iadd hx hb dX3_seek_31 ?_
    refine zw_iald (r := (27, 0, 0)) hx hb hK hP (hM 7 (by decide)) 0 rfl rfl (by rw [Int32.mul_comm]; exact ze_ci c_1 h5 h6) dX3_seek_32 ?_
    refine zw_putf (r := (20, 0, 0)) (v := .int (σ (5, 0, 0) ((16 * p0) + p1).toNatClampNeg)) (C := RX3) (T := TX3) (N := 17) (ci := 3) hx hb hts hwX3 tyX3 tyX3_ok nmX3 hown hK hP hD hS (hM 0 (by decide)) rfl rfl 5 (by decide) (hts (.fieldLink RX3 56 "FourTrackDeckModel" "p" "I") (by decide +kernel)) (fun _ h9 => h9) rfl (ty := .int) (by decide +kernel) rfl rfl (Nat.le_of_ble_eq_true rfl) dX3_seek_33 (cu1 := ze_X cD (ze_M cA ad len (sp_s σ (0, 0, 0) 2 (σ (5, 0, 0) ((16 * p0) + p1).toNatClampNeg)))) (zm_D rfl) (fun H locs hP hD hS => ?_)
    refine lv_aload_n hx hb dX3_seek_36 rfl (lv_at hl 1 rfl) ?_
    refine lv_aload_n hx hb dX3_seek_37 rfl (lv_at hl 1 rfl) ?_
    refine zw_getf (r := (20, 0, 0)) (v := .int ((sp_s σ (0, 0, 0) 2 (σ (5, 0, 0) ((16 * p0) + p1).toNatClampNeg)) (0, 0, 0) 2)) (C := RX3) (T := TX3) (N := 17) (ci := 3) hx hb hts hwX3 hown hK hP (hM 0 (by decide)) rfl rfl 5 (by decide) (hts (.fieldLink RX3 56 "FourTrackDeckModel" "p" "I") (by decide +kernel)) (fun _ h9 => h9) rfl dX3_seek_38 ?_
    refine zw_cV (r := (20, 0, 0)) (As := [.int ((sp_s σ (0, 0, 0) 2 (σ (5, 0, 0) ((16 * p0) + p1).toNatClampNeg)) (0, 0, 0) 2)]) (rest := []) (st1 := [.int ((sp_s σ (0, 0, 0) 2 (σ (5, 0, 0) ((16 * p0) + p1).toNatClampNeg)) (0, 0, 0) 2)]) ⟨hx, hb, hml, hown, hts⟩ (cm_done (σ := (sp_s σ (0, 0, 0) 2 (σ (5, 0, 0) ((16 * p0) + p1).toNatClampNeg))) hM ((sp_s σ (0, 0, 0) 2 (σ (5, 0, 0) ((16 * p0) + p1).toNatClampNeg)) (0, 0, 0) 2)) (cwV 1 hts gX3_seek_X3_done rfl rfl rfl (by decide +kernel) ⟨Nat.le_of_ble_eq_true rfl, Nat.le_of_ble_eq_true rfl⟩) (hM 0 (by decide)) rfl rfl rfl hK hP hD hS hA hN rfl hl.1 rfl (Nat.le_of_ble_eq_true rfl) rfl dX3_seek_41 ⟨Nat.zero_le _, Nat.zero_le _⟩ (fun H locs hP hD hS => ?_)
    exact zw_iret hx hb hr hlk hK hP hD hS dX3_seek_44 (by simp only [sp_seek, if_pos c_1, Int32.mul_comm 16 p0, ite_self] <;> rfl) (by simp only [sp_seek, if_pos c_1, Int32.mul_comm 16 p0, ite_self] <;> rfl)
  · refine lv_aload_n hx hb dX3_seek_11 rfl (lv_at hl 1 rfl) ?_
    refine lv_iload_n hx hb dX3_seek_12 rfl (lv_at hl 0 rfl) ?_
    refine lv_aload_n hx hb dX3_seek_13 rfl (lv_at hl 1 rfl) ?_
    refine zw_getf (r := (20, 0, 0)) (v := .int (σ (0, 0, 0) 2)) (C := RX3) (T := TX3) (N := 17) (ci := 3) hx hb hts hwX3 hown hK hP (hM 0 (by decide)) rfl rfl 5 (by decide) (hts (.fieldLink RX3 56 "FourTrackDeckModel" "p" "I") (by decide +kernel)) (fun _ h9 => h9) rfl dX3_seek_14 ?_
    refine zw_cV (r := (20, 0, 0)) (As := [.int (sp_c σ p0 p1), .int (σ (0, 0, 0) 2)]) (rest := []) (st1 := [.int (σ (0, 0, 0) 2)]) ⟨hx, hb, hml, hown, hts⟩ (cm_fails (σ := σ) hM (sp_c σ p0 p1) (σ (0, 0, 0) 2)) (cwV 2 hts gX3_seek_X3_fails rfl rfl rfl (by decide +kernel) ⟨Nat.le_of_ble_eq_true rfl, Nat.le_of_ble_eq_true rfl⟩) (hM 0 (by decide)) rfl rfl rfl hK hP hD hS hA hN rfl hl.1 rfl (Nat.le_of_ble_eq_true rfl) rfl dX3_seek_17 ⟨Nat.zero_le _, Nat.zero_le _⟩ (fun H locs hP hD hS => ?_)
    exact zw_iret hx hb hr hlk hK hP hD hS dX3_seek_20 (by simp only [sp_seek, if_neg c_1, Int32.mul_comm 16 p0, ite_self] <;> rfl) (by simp only [sp_seek, if_neg c_1, Int32.mul_comm 16 p0, ite_self] <;> rfl)
set_option maxHeartbeats 4000000 in
set_option maxRecDepth 100000 in
theorem cm_trip {l : Launch} {dC : Nat → ClassId} {dI : Nat → Nat → Nat} {cA : Nat → ClassId} {ad : zw_R → Nat} {R : List zw_R} {nr : Nat} {len : Nat → Nat} {σ : sp_S} {cD : zw_R → va_E} (hM : zm_R R) (p0 : Int32) : zw_M l yX3_trip wsX3_trip { frames := 0, cells := 0, slots := 0, locals := 0 } (ze_E dC dI cA) [.ref (ad (20, 0, 0)), .int p0] ad R (ze_X cD (ze_M cA ad len σ)) (some (.int ((sp_trip nr len σ p0).1))) (ze_X cD (ze_M cA ad len (sp_trip nr len σ p0).2)) := by
  refine zw_body (cc := cX3_trip) (maxL := 2) (ret := (some .int)) (by decide) rfl (Nat.le_of_ble_eq_true rfl) ?_
  intro p e s m below meth c A ls hx hb hr hlk hml hts hown hnm hA hK hP hD hS hN hl
  have hl : lv_has ls 2 [(0, .ref (ad (20, 0, 0))), (1, .int p0)] := hl
  have hwX3 : ∀ w ∈ u_ws RX3 TX3 17, w ∈ wsX3_trip := by decide +kernel
  refine lv_iload_n hx hb dX3_trip_0 rfl (lv_at hl 1 rfl) ?_
  refine lv_if_ne (tgt := 11) hx hb dX3_trip_1 (by decide) (fun c_1 => ?_) (fun c_1 => ?_)
  · refine lv_iload_n hx hb dX3_trip_11 rfl (lv_at hl 1 rfl) ?_
    refine lv_iconst (v := 1) hx hb dX3_trip_12 (by decide) ?_
    refine lv_icmp_ne (tgt := 23) hx hb dX3_trip_13 (by decide) (fun c_2 => ?_) (fun c_2 => ?_)
    · refine lv_iconst (v := (-1)) hx hb dX3_trip_23 (by decide) ?_
      exact zw_iret hx hb hr hlk hK hP hD hS dX3_trip_24 (by simp only [sp_trip, if_neg c_1, if_neg c_2, ite_self] <;> rfl) (by simp only [sp_trip, if_neg c_1, if_neg c_2, ite_self] <;> rfl)
    · refine lv_aload_n hx hb dX3_trip_16 rfl (lv_at hl 0 rfl) ?_
      refine zw_getf (r := (20, 0, 0)) (v := .int (σ (0, 0, 0) 8)) (C := RX3) (T := TX3) (N := 17) (ci := 3) hx hb hts hwX3 hown hK hP (hM 0 (by decide)) rfl rfl 12 (by decide) (hts (.fieldLink RX3 96 "FourTrackDeckModel" "tripStatus" "I") (by decide +kernel)) (fun _ h9 => h9) rfl dX3_trip_17 ?_
      refine lv_goto (tgt := 24) hx hb dX3_trip_20 (by decide) ?_
      exact zw_iret hx hb hr hlk hK hP hD hS dX3_trip_24 (by simp only [sp_trip, if_neg c_1, if_pos c_2, ite_self] <;> rfl) (by simp only [sp_trip, if_neg c_1, if_pos c_2, ite_self] <;> rfl)
  · refine lv_aload_n hx hb dX3_trip_4 rfl (lv_at hl 0 rfl) ?_
    refine zw_getf (r := (20, 0, 0)) (v := .int (σ (0, 0, 0) 7)) (C := RX3) (T := TX3) (N := 17) (ci := 3) hx hb hts hwX3 hown hK hP (hM 0 (by decide)) rfl rfl 11 (by decide) (hts (.fieldLink RX3 32 "FourTrackDeckModel" "tripTrack" "I") (by decide +kernel)) (fun _ h9 => h9) rfl dX3_trip_5 ?_
    refine lv_goto (tgt := 24) hx hb dX3_trip_8 (by decide) ?_
    exact zw_iret hx hb hr hlk hK hP hD hS dX3_trip_24 (by simp only [sp_trip, if_pos c_1, ite_self] <;> rfl) (by simp only [sp_trip, if_pos c_1, ite_self] <;> rfl)
set_option maxHeartbeats 4000000 in
set_option maxRecDepth 100000 in
theorem cm_meter {l : Launch} {dC : Nat → ClassId} {dI : Nat → Nat → Nat} {cA : Nat → ClassId} {ad : zw_R → Nat} {R : List zw_R} {nr : Nat} {len : Nat → Nat} {σ : sp_S} {cD : zw_R → va_E} (hM : zm_R R) (p0 : Int32) : zw_M l yX3_meter wsX3_meter { frames := 1, cells := 0, slots := 0, locals := 21 } (ze_E dC dI cA) [.ref (ad (20, 0, 0)), .int p0] ad R (ze_X cD (ze_M cA ad len σ)) (some (.int ((sp_meter nr len σ p0).1))) (ze_X cD (ze_M cA ad len (sp_meter nr len σ p0).2)) := by
  refine zw_body (cc := cX3_meter) (maxL := 2) (ret := (some .int)) (by decide) rfl (Nat.le_of_ble_eq_true rfl) ?_
  intro p e s m below meth c A ls hx hb hr hlk hml hts hown hnm hA hK hP hD hS hN hl
  have hl : lv_has ls 2 [(0, .ref (ad (20, 0, 0))), (1, .int p0)] := hl
  have hwX3 : ∀ w ∈ u_ws RX3 TX3 17, w ∈ wsX3_meter := by decide +kernel
  refine lv_aload_n hx hb dX3_meter_0 rfl (lv_at hl 0 rfl) ?_
  refine lv_iload_n hx hb dX3_meter_1 rfl (lv_at hl 1 rfl) ?_
  rcases Decidable.em (sp_t p0) with h_1 | h_1
  · refine zw_cV (r := (20, 0, 0)) (As := [.int p0]) (rest := []) (st1 := [.int 1]) ⟨hx, hb, hml, hown, hts⟩ (cm_isTrack_1 (σ := σ) p0 h_1) (cwV 1 hts gX3_meter_X3_isTrack rfl rfl rfl (by decide +kernel) ⟨Nat.le_of_ble_eq_true rfl, Nat.le_of_ble_eq_true rfl⟩) (hM 0 (by decide)) rfl rfl rfl hK hP hD hS hA hN rfl hl.1 rfl (Nat.le_of_ble_eq_true rfl) rfl dX3_meter_2 ⟨Nat.zero_le _, Nat.zero_le _⟩ (fun H locs hP hD hS => ?_)
    refine lv_if_eq (tgt := 17) hx hb dX3_meter_5 (by decide) (fun c_2 => absurd c_2 (by decide)) (fun c_2 => ?_)
    refine lv_aload_n hx hb dX3_meter_8 rfl (lv_at hl 0 rfl) ?_
    refine zw_getf (r := (20, 0, 0)) (v := .ref (ad (26, 0, 0))) (C := RX3) (T := TX3) (N := 17) (ci := 3) hx hb hts hwX3 hown hK hP (hM 0 (by decide)) rfl rfl 8 (by decide) (hts (.fieldLink RX3 29 "FourTrackDeckModel" "meter" "[I") (by decide +kernel)) (fun _ h9 => h9) rfl dX3_meter_9 ?_
    refine lv_iload_n hx hb dX3_meter_12 rfl (lv_at hl 1 rfl) ?_
    refine zw_iald (r := (26, 0, 0)) hx hb hK hP (hM 6 (by decide)) 0 rfl rfl (ze_ti h_1) dX3_meter_13 ?_
    refine lv_goto (tgt := 18) hx hb dX3_meter_14 (by decide) ?_
    exact zw_iret hx hb hr hlk hK hP hD hS dX3_meter_18 (by simp only [sp_meter, if_pos h_1, ite_self] <;> rfl) (by simp only [sp_meter, if_pos h_1, ite_self] <;> rfl)
  · refine zw_cV (r := (20, 0, 0)) (As := [.int p0]) (rest := []) (st1 := [.int 0]) ⟨hx, hb, hml, hown, hts⟩ (cm_isTrack_0 (σ := σ) p0 h_1) (cwV 1 hts gX3_meter_X3_isTrack rfl rfl rfl (by decide +kernel) ⟨Nat.le_of_ble_eq_true rfl, Nat.le_of_ble_eq_true rfl⟩) (hM 0 (by decide)) rfl rfl rfl hK hP hD hS hA hN rfl hl.1 rfl (Nat.le_of_ble_eq_true rfl) rfl dX3_meter_2 ⟨Nat.zero_le _, Nat.zero_le _⟩ (fun H locs hP hD hS => ?_)
    refine lv_if_eq (tgt := 17) hx hb dX3_meter_5 (by decide) (fun c_3 => ?_) (fun c_3 => absurd (by decide) c_3)
    refine lv_iconst (v := 0) hx hb dX3_meter_17 (by decide) ?_
    exact zw_iret hx hb hr hlk hK hP hD hS dX3_meter_18 (by simp only [sp_meter, if_neg h_1, ite_self] <;> rfl) (by simp only [sp_meter, if_neg h_1, ite_self] <;> rfl)
set_option maxHeartbeats 4000000 in
set_option maxRecDepth 100000 in
theorem cm_count {l : Launch} {dC : Nat → ClassId} {dI : Nat → Nat → Nat} {cA : Nat → ClassId} {ad : zw_R → Nat} {R : List zw_R} {nr : Nat} {len : Nat → Nat} {σ : sp_S} {cD : zw_R → va_E} (hM : zm_R R) (hnr : nr ≤ 8) (hI0 : σ (0, 0, 0) 0 = nI nr) (p0 : Int32) : zw_M l yX3_count wsX3_count { frames := 1, cells := 0, slots := 0, locals := 21 } (ze_E dC dI cA) [.ref (ad (20, 0, 0)), .int p0] ad R (ze_X cD (ze_M cA ad len σ)) (some (.int ((sp_count nr len σ p0).1))) (ze_X cD (ze_M cA ad len (sp_count nr len σ p0).2)) := by
  refine zw_body (cc := cX3_count) (maxL := 2) (ret := (some .int)) (by decide) rfl (Nat.le_of_ble_eq_true rfl) ?_
  intro p e s m below meth c A ls hx hb hr hlk hml hts hown hnm hA hK hP hD hS hN hl
  have hl : lv_has ls 2 [(0, .ref (ad (20, 0, 0))), (1, .int p0)] := hl
  have hwX3 : ∀ w ∈ u_ws RX3 TX3 17, w ∈ wsX3_count := by decide +kernel
  refine lv_iload_n hx hb dX3_count_0 rfl (lv_at hl 1 rfl) ?_
  refine lv_bipush (v := 10) hx hb dX3_count_1 (by decide) ?_
  refine lv_icmp_lt (tgt := 37) hx hb dX3_count_3 (by decide) (fun c_1 => ?_) (fun c_1 => ?_)
  · refine lv_iload_n hx hb dX3_count_37 rfl (lv_at hl 1 rfl) ?_
    rcases Decidable.em (p0 = 0) with c_2 | c_2
    · have ec_2 : (p0).toInt = 0 := by rw [c_2]; rfl
      refine lv_tableIn (tgt := 76) hx hb dX3_count_38 (by rw [ec_2]; decide) (by rw [ec_2]; decide) (by rw [ec_2]; rfl) (by decide) ?_
      refine lv_aload_n hx hb dX3_count_76 rfl (lv_at hl 0 rfl) ?_
      refine zw_getf (r := (20, 0, 0)) (v := .int (σ (0, 0, 0) 0)) (C := RX3) (T := TX3) (N := 17) (ci := 3) hx hb hts hwX3 hown hK hP (hM 0 (by decide)) rfl rfl 0 (by decide) (hts (.fieldLink RX3 47 "FourTrackDeckModel" "reels" "I") (by decide +kernel)) (fun _ h9 => h9) rfl dX3_count_77 ?_
      exact zw_iret hx hb hr hlk hK hP hD hS dX3_count_80 (by simp only [sp_count, if_pos c_1, if_pos c_2, if_neg (show ¬ sp_r nr (p0 - 10) from fun q => Int32.not_lt.mpr (zm_ct q hnr).1 c_1), ite_self] <;> rfl) (by simp only [sp_count, if_pos c_1, if_pos c_2, if_neg (show ¬ sp_r nr (p0 - 10) from fun q => Int32.not_lt.mpr (zm_ct q hnr).1 c_1), ite_self] <;> rfl)
    · rcases Decidable.em (p0 = 1) with c_3 | c_3
      · have ec_3 : (p0).toInt = 1 := by rw [c_3]; rfl
        refine lv_tableIn (tgt := 81) hx hb dX3_count_38 (by rw [ec_3]; decide) (by rw [ec_3]; decide) (by rw [ec_3]; rfl) (by decide) ?_
        refine lv_aload_n hx hb dX3_count_81 rfl (lv_at hl 0 rfl) ?_
        refine zw_getf (r := (20, 0, 0)) (v := .int (σ (0, 0, 0) 1)) (C := RX3) (T := TX3) (N := 17) (ci := 3) hx hb hts hwX3 hown hK hP (hM 0 (by decide)) rfl rfl 4 (by decide) (hts (.fieldLink RX3 19 "FourTrackDeckModel" "onDeck" "I") (by decide +kernel)) (fun _ h9 => h9) rfl dX3_count_82 ?_
        exact zw_iret hx hb hr hlk hK hP hD hS dX3_count_85 (by simp only [sp_count, if_pos c_1, if_neg c_2, if_pos c_3, if_neg (show ¬ sp_r nr (p0 - 10) from fun q => Int32.not_lt.mpr (zm_ct q hnr).1 c_1), ite_self] <;> rfl) (by simp only [sp_count, if_pos c_1, if_neg c_2, if_pos c_3, if_neg (show ¬ sp_r nr (p0 - 10) from fun q => Int32.not_lt.mpr (zm_ct q hnr).1 c_1), ite_self] <;> rfl)
      · rcases Decidable.em (p0 = 2) with c_4 | c_4
        · have ec_4 : (p0).toInt = 2 := by rw [c_4]; rfl
          refine lv_tableIn (tgt := 86) hx hb dX3_count_38 (by rw [ec_4]; decide) (by rw [ec_4]; decide) (by rw [ec_4]; rfl) (by decide) ?_
          refine lv_aload_n hx hb dX3_count_86 rfl (lv_at hl 0 rfl) ?_
          refine zw_getf (r := (20, 0, 0)) (v := .int (σ (0, 0, 0) 2)) (C := RX3) (T := TX3) (N := 17) (ci := 3) hx hb hts hwX3 hown hK hP (hM 0 (by decide)) rfl rfl 5 (by decide) (hts (.fieldLink RX3 56 "FourTrackDeckModel" "p" "I") (by decide +kernel)) (fun _ h9 => h9) rfl dX3_count_87 ?_
          exact zw_iret hx hb hr hlk hK hP hD hS dX3_count_90 (by simp only [sp_count, if_pos c_1, if_neg c_2, if_neg c_3, if_pos c_4, if_neg (show ¬ sp_r nr (p0 - 10) from fun q => Int32.not_lt.mpr (zm_ct q hnr).1 c_1), ite_self] <;> rfl) (by simp only [sp_count, if_pos c_1, if_neg c_2, if_neg c_3, if_pos c_4, if_neg (show ¬ sp_r nr (p0 - 10) from fun q => Int32.not_lt.mpr (zm_ct q hnr).1 c_1), ite_self] <;> rfl)
        · rcases Decidable.em (p0 = 3) with c_5 | c_5
          · have ec_5 : (p0).toInt = 3 := by rw [c_5]; rfl
            refine lv_tableIn (tgt := 91) hx hb dX3_count_38 (by rw [ec_5]; decide) (by rw [ec_5]; decide) (by rw [ec_5]; rfl) (by decide) ?_
            refine lv_aload_n hx hb dX3_count_91 rfl (lv_at hl 0 rfl) ?_
            refine zw_getf (r := (20, 0, 0)) (v := .int (σ (0, 0, 0) 3)) (C := RX3) (T := TX3) (N := 17) (ci := 3) hx hb hts hwX3 hown hK hP (hM 0 (by decide)) rfl rfl 9 (by decide) (hts (.fieldLink RX3 78 "FourTrackDeckModel" "s" "I") (by decide +kernel)) (fun _ h9 => h9) rfl dX3_count_92 ?_
            exact zw_iret hx hb hr hlk hK hP hD hS dX3_count_95 (by simp only [sp_count, if_pos c_1, if_neg c_2, if_neg c_3, if_neg c_4, if_pos c_5, if_neg (show ¬ sp_r nr (p0 - 10) from fun q => Int32.not_lt.mpr (zm_ct q hnr).1 c_1), ite_self] <;> rfl) (by simp only [sp_count, if_pos c_1, if_neg c_2, if_neg c_3, if_neg c_4, if_pos c_5, if_neg (show ¬ sp_r nr (p0 - 10) from fun q => Int32.not_lt.mpr (zm_ct q hnr).1 c_1), ite_self] <;> rfl)
          · rcases Decidable.em (p0 = 4) with c_6 | c_6
            · have ec_6 : (p0).toInt = 4 := by rw [c_6]; rfl
              refine lv_tableIn (tgt := 96) hx hb dX3_count_38 (by rw [ec_6]; decide) (by rw [ec_6]; decide) (by rw [ec_6]; rfl) (by decide) ?_
              refine lv_aload_n hx hb dX3_count_96 rfl (lv_at hl 0 rfl) ?_
              refine zw_getf (r := (20, 0, 0)) (v := .int (σ (0, 0, 0) 5)) (C := RX3) (T := TX3) (N := 17) (ci := 3) hx hb hts hwX3 hown hK hP (hM 0 (by decide)) rfl rfl 13 (by decide) (hts (.fieldLink RX3 35 "FourTrackDeckModel" "rows" "I") (by decide +kernel)) (fun _ h9 => h9) rfl dX3_count_97 ?_
              exact zw_iret hx hb hr hlk hK hP hD hS dX3_count_100 (by simp only [sp_count, if_pos c_1, if_neg c_2, if_neg c_3, if_neg c_4, if_neg c_5, if_pos c_6, if_neg (show ¬ sp_r nr (p0 - 10) from fun q => Int32.not_lt.mpr (zm_ct q hnr).1 c_1), ite_self] <;> rfl) (by simp only [sp_count, if_pos c_1, if_neg c_2, if_neg c_3, if_neg c_4, if_neg c_5, if_pos c_6, if_neg (show ¬ sp_r nr (p0 - 10) from fun q => Int32.not_lt.mpr (zm_ct q hnr).1 c_1), ite_self] <;> rfl)
            · rcases Decidable.em (p0 = 5) with c_7 | c_7
              · have ec_7 : (p0).toInt = 5 := by rw [c_7]; rfl
                refine lv_tableIn (tgt := 101) hx hb dX3_count_38 (by rw [ec_7]; decide) (by rw [ec_7]; decide) (by rw [ec_7]; rfl) (by decide) ?_
                refine lv_aload_n hx hb dX3_count_101 rfl (lv_at hl 0 rfl) ?_
                refine zw_getf (r := (20, 0, 0)) (v := .int (σ (0, 0, 0) 6)) (C := RX3) (T := TX3) (N := 17) (ci := 3) hx hb hts hwX3 hown hK hP (hM 0 (by decide)) rfl rfl 14 (by decide) (hts (.fieldLink RX3 38 "FourTrackDeckModel" "cells" "I") (by decide +kernel)) (fun _ h9 => h9) rfl dX3_count_102 ?_
                exact zw_iret hx hb hr hlk hK hP hD hS dX3_count_105 (by simp only [sp_count, if_pos c_1, if_neg c_2, if_neg c_3, if_neg c_4, if_neg c_5, if_neg c_6, if_pos c_7, if_neg (show ¬ sp_r nr (p0 - 10) from fun q => Int32.not_lt.mpr (zm_ct q hnr).1 c_1), ite_self] <;> rfl) (by simp only [sp_count, if_pos c_1, if_neg c_2, if_neg c_3, if_neg c_4, if_neg c_5, if_neg c_6, if_pos c_7, if_neg (show ¬ sp_r nr (p0 - 10) from fun q => Int32.not_lt.mpr (zm_ct q hnr).1 c_1), ite_self] <;> rfl)
              · have nc_2 := lv_neT c_2 (a := 0) rfl; have nc_3 := lv_neT c_3 (a := 1) rfl; have nc_4 := lv_neT c_4 (a := 2) rfl; have nc_5 := lv_neT c_5 (a := 3) rfl; have nc_6 := lv_neT c_6 (a := 4) rfl; have nc_7 := lv_neT c_7 (a := 5) rfl
                refine lv_tableOut (tgt := 106) hx hb dX3_count_38 (by omega) (by decide) ?_
                refine lv_iconst (v := (-1)) hx hb dX3_count_106 (by decide) ?_
                exact zw_iret hx hb hr hlk hK hP hD hS dX3_count_107 (by simp only [sp_count, if_pos c_1, if_neg c_2, if_neg c_3, if_neg c_4, if_neg c_5, if_neg c_6, if_neg c_7, if_neg (show ¬ sp_r nr (p0 - 10) from fun q => Int32.not_lt.mpr (zm_ct q hnr).1 c_1), ite_self] <;> rfl) (by simp only [sp_count, if_pos c_1, if_neg c_2, if_neg c_3, if_neg c_4, if_neg c_5, if_neg c_6, if_neg c_7, if_neg (show ¬ sp_r nr (p0 - 10) from fun q => Int32.not_lt.mpr (zm_ct q hnr).1 c_1), ite_self] <;> rfl)
  · refine lv_iload_n hx hb dX3_count_6 rfl (lv_at hl 1 rfl) ?_
    refine lv_bipush (v := 17) hx hb dX3_count_7 (by decide) ?_
    refine lv_icmp_gt (tgt := 37) hx hb dX3_count_9 (by decide) (fun c_8 => ?_) (fun c_8 => ?_)
    · refine lv_iload_n hx hb dX3_count_37 rfl (lv_at hl 1 rfl) ?_
      rcases Decidable.em (p0 = 0) with c_9 | c_9
      · have ec_9 : (p0).toInt = 0 := by rw [c_9]; rfl
        refine lv_tableIn (tgt := 76) hx hb dX3_count_38 (by rw [ec_9]; decide) (by rw [ec_9]; decide) (by rw [ec_9]; rfl) (by decide) ?_
        refine lv_aload_n hx hb dX3_count_76 rfl (lv_at hl 0 rfl) ?_
        refine zw_getf (r := (20, 0, 0)) (v := .int (σ (0, 0, 0) 0)) (C := RX3) (T := TX3) (N := 17) (ci := 3) hx hb hts hwX3 hown hK hP (hM 0 (by decide)) rfl rfl 0 (by decide) (hts (.fieldLink RX3 47 "FourTrackDeckModel" "reels" "I") (by decide +kernel)) (fun _ h9 => h9) rfl dX3_count_77 ?_
        exact zw_iret hx hb hr hlk hK hP hD hS dX3_count_80 (by simp only [sp_count, if_neg c_1, if_pos c_8, if_pos c_9, if_neg (show ¬ sp_r nr (p0 - 10) from fun q => Int32.not_lt.mpr (zm_ct q hnr).2 c_8), ite_self] <;> rfl) (by simp only [sp_count, if_neg c_1, if_pos c_8, if_pos c_9, if_neg (show ¬ sp_r nr (p0 - 10) from fun q => Int32.not_lt.mpr (zm_ct q hnr).2 c_8), ite_self] <;> rfl)
      · rcases Decidable.em (p0 = 1) with c_10 | c_10
        · have ec_10 : (p0).toInt = 1 := by rw [c_10]; rfl
          refine lv_tableIn (tgt := 81) hx hb dX3_count_38 (by rw [ec_10]; decide) (by rw [ec_10]; decide) (by rw [ec_10]; rfl) (by decide) ?_
          refine lv_aload_n hx hb dX3_count_81 rfl (lv_at hl 0 rfl) ?_
          refine zw_getf (r := (20, 0, 0)) (v := .int (σ (0, 0, 0) 1)) (C := RX3) (T := TX3) (N := 17) (ci := 3) hx hb hts hwX3 hown hK hP (hM 0 (by decide)) rfl rfl 4 (by decide) (hts (.fieldLink RX3 19 "FourTrackDeckModel" "onDeck" "I") (by decide +kernel)) (fun _ h9 => h9) rfl dX3_count_82 ?_
          exact zw_iret hx hb hr hlk hK hP hD hS dX3_count_85 (by simp only [sp_count, if_neg c_1, if_pos c_8, if_neg c_9, if_pos c_10, if_neg (show ¬ sp_r nr (p0 - 10) from fun q => Int32.not_lt.mpr (zm_ct q hnr).2 c_8), ite_self] <;> rfl) (by simp only [sp_count, if_neg c_1, if_pos c_8, if_neg c_9, if_pos c_10, if_neg (show ¬ sp_r nr (p0 - 10) from fun q => Int32.not_lt.mpr (zm_ct q hnr).2 c_8), ite_self] <;> rfl)
        · rcases Decidable.em (p0 = 2) with c_11 | c_11
          · have ec_11 : (p0).toInt = 2 := by rw [c_11]; rfl
            refine lv_tableIn (tgt := 86) hx hb dX3_count_38 (by rw [ec_11]; decide) (by rw [ec_11]; decide) (by rw [ec_11]; rfl) (by decide) ?_
            refine lv_aload_n hx hb dX3_count_86 rfl (lv_at hl 0 rfl) ?_
            refine zw_getf (r := (20, 0, 0)) (v := .int (σ (0, 0, 0) 2)) (C := RX3) (T := TX3) (N := 17) (ci := 3) hx hb hts hwX3 hown hK hP (hM 0 (by decide)) rfl rfl 5 (by decide) (hts (.fieldLink RX3 56 "FourTrackDeckModel" "p" "I") (by decide +kernel)) (fun _ h9 => h9) rfl dX3_count_87 ?_
            exact zw_iret hx hb hr hlk hK hP hD hS dX3_count_90 (by simp only [sp_count, if_neg c_1, if_pos c_8, if_neg c_9, if_neg c_10, if_pos c_11, if_neg (show ¬ sp_r nr (p0 - 10) from fun q => Int32.not_lt.mpr (zm_ct q hnr).2 c_8), ite_self] <;> rfl) (by simp only [sp_count, if_neg c_1, if_pos c_8, if_neg c_9, if_neg c_10, if_pos c_11, if_neg (show ¬ sp_r nr (p0 - 10) from fun q => Int32.not_lt.mpr (zm_ct q hnr).2 c_8), ite_self] <;> rfl)
          · rcases Decidable.em (p0 = 3) with c_12 | c_12
            · have ec_12 : (p0).toInt = 3 := by rw [c_12]; rfl
              refine lv_tableIn (tgt := 91) hx hb dX3_count_38 (by rw [ec_12]; decide) (by rw [ec_12]; decide) (by rw [ec_12]; rfl) (by decide) ?_
              refine lv_aload_n hx hb dX3_count_91 rfl (lv_at hl 0 rfl) ?_
              refine zw_getf (r := (20, 0, 0)) (v := .int (σ (0, 0, 0) 3)) (C := RX3) (T := TX3) (N := 17) (ci := 3) hx hb hts hwX3 hown hK hP (hM 0 (by decide)) rfl rfl 9 (by decide) (hts (.fieldLink RX3 78 "FourTrackDeckModel" "s" "I") (by decide +kernel)) (fun _ h9 => h9) rfl dX3_count_92 ?_
              exact zw_iret hx hb hr hlk hK hP hD hS dX3_count_95 (by simp only [sp_count, if_neg c_1, if_pos c_8, if_neg c_9, if_neg c_10, if_neg c_11, if_pos c_12, if_neg (show ¬ sp_r nr (p0 - 10) from fun q => Int32.not_lt.mpr (zm_ct q hnr).2 c_8), ite_self] <;> rfl) (by simp only [sp_count, if_neg c_1, if_pos c_8, if_neg c_9, if_neg c_10, if_neg c_11, if_pos c_12, if_neg (show ¬ sp_r nr (p0 - 10) from fun q => Int32.not_lt.mpr (zm_ct q hnr).2 c_8), ite_self] <;> rfl)
            · rcases Decidable.em (p0 = 4) with c_13 | c_13
              · have ec_13 : (p0).toInt = 4 := by rw [c_13]; rfl
                refine lv_tableIn (tgt := 96) hx hb dX3_count_38 (by rw [ec_13]; decide) (by rw [ec_13]; decide) (by rw [ec_13]; rfl) (by decide) ?_
                refine lv_aload_n hx hb dX3_count_96 rfl (lv_at hl 0 rfl) ?_
                refine zw_getf (r := (20, 0, 0)) (v := .int (σ (0, 0, 0) 5)) (C := RX3) (T := TX3) (N := 17) (ci := 3) hx hb hts hwX3 hown hK hP (hM 0 (by decide)) rfl rfl 13 (by decide) (hts (.fieldLink RX3 35 "FourTrackDeckModel" "rows" "I") (by decide +kernel)) (fun _ h9 => h9) rfl dX3_count_97 ?_
                exact zw_iret hx hb hr hlk hK hP hD hS dX3_count_100 (by simp only [sp_count, if_neg c_1, if_pos c_8, if_neg c_9, if_neg c_10, if_neg c_11, if_neg c_12, if_pos c_13, if_neg (show ¬ sp_r nr (p0 - 10) from fun q => Int32.not_lt.mpr (zm_ct q hnr).2 c_8), ite_self] <;> rfl) (by simp only [sp_count, if_neg c_1, if_pos c_8, if_neg c_9, if_neg c_10, if_neg c_11, if_neg c_12, if_pos c_13, if_neg (show ¬ sp_r nr (p0 - 10) from fun q => Int32.not_lt.mpr (zm_ct q hnr).2 c_8), ite_self] <;> rfl)
              · rcases Decidable.em (p0 = 5) with c_14 | c_14
                · have ec_14 : (p0).toInt = 5 := by rw [c_14]; rfl
                  refine lv_tableIn (tgt := 101) hx hb dX3_count_38 (by rw [ec_14]; decide) (by rw [ec_14]; decide) (by rw [ec_14]; rfl) (by decide) ?_
                  refine lv_aload_n hx hb dX3_count_101 rfl (lv_at hl 0 rfl) ?_
                  refine zw_getf (r := (20, 0, 0)) (v := .int (σ (0, 0, 0) 6)) (C := RX3) (T := TX3) (N := 17) (ci := 3) hx hb hts hwX3 hown hK hP (hM 0 (by decide)) rfl rfl 14 (by decide) (hts (.fieldLink RX3 38 "FourTrackDeckModel" "cells" "I") (by decide +kernel)) (fun _ h9 => h9) rfl dX3_count_102 ?_
                  exact zw_iret hx hb hr hlk hK hP hD hS dX3_count_105 (by simp only [sp_count, if_neg c_1, if_pos c_8, if_neg c_9, if_neg c_10, if_neg c_11, if_neg c_12, if_neg c_13, if_pos c_14, if_neg (show ¬ sp_r nr (p0 - 10) from fun q => Int32.not_lt.mpr (zm_ct q hnr).2 c_8), ite_self] <;> rfl) (by simp only [sp_count, if_neg c_1, if_pos c_8, if_neg c_9, if_neg c_10, if_neg c_11, if_neg c_12, if_neg c_13, if_pos c_14, if_neg (show ¬ sp_r nr (p0 - 10) from fun q => Int32.not_lt.mpr (zm_ct q hnr).2 c_8), ite_self] <;> rfl)
                · have nc_9 := lv_neT c_9 (a := 0) rfl; have nc_10 := lv_neT c_10 (a := 1) rfl; have nc_11 := lv_neT c_11 (a := 2) rfl; have nc_12 := lv_neT c_12 (a := 3) rfl; have nc_13 := lv_neT c_13 (a := 4) rfl; have nc_14 := lv_neT c_14 (a := 5) rfl
                  refine lv_tableOut (tgt := 106) hx hb dX3_count_38 (by omega) (by decide) ?_
                  refine lv_iconst (v := (-1)) hx hb dX3_count_106 (by decide) ?_
                  exact zw_iret hx hb hr hlk hK hP hD hS dX3_count_107 (by simp only [sp_count, if_neg c_1, if_pos c_8, if_neg c_9, if_neg c_10, if_neg c_11, if_neg c_12, if_neg c_13, if_neg c_14, if_neg (show ¬ sp_r nr (p0 - 10) from fun q => Int32.not_lt.mpr (zm_ct q hnr).2 c_8), ite_self] <;> rfl) (by simp only [sp_count, if_neg c_1, if_pos c_8, if_neg c_9, if_neg c_10, if_neg c_11, if_neg c_12, if_neg c_13, if_neg c_14, if_neg (show ¬ sp_r nr (p0 - 10) from fun q => Int32.not_lt.mpr (zm_ct q hnr).2 c_8), ite_self] <;> rfl)
    · refine lv_aload_n hx hb dX3_count_12 rfl (lv_at hl 0 rfl) ?_
      refine lv_iload_n hx hb dX3_count_13 rfl (lv_at hl 1 rfl) ?_
      refine lv_bipush (v := 10) hx hb dX3_count_14 (by decide) ?_
      refine lv_isub hx hb dX3_count_16 ?_
      rcases Decidable.em (sp_r nr (p0 - 10)) with h_15 | h_15
      · refine zw_cV (r := (20, 0, 0)) (As := [.int (p0 - 10)]) (rest := []) (st1 := [.int 1]) ⟨hx, hb, hml, hown, hts⟩ (cm_isReel_1 (σ := σ) hM hI0 (p0 - 10) h_15) (cwV 1 hts gX3_count_X3_isReel rfl rfl rfl (by decide +kernel) ⟨Nat.le_of_ble_eq_true rfl, Nat.le_of_ble_eq_true rfl⟩) (hM 0 (by decide)) rfl rfl rfl hK hP hD hS hA hN rfl hl.1 rfl (Nat.le_of_ble_eq_true rfl) rfl dX3_count_17 ⟨Nat.zero_le _, Nat.zero_le _⟩ (fun H locs hP hD hS => ?_)
        refine lv_if_eq (tgt := 35) hx hb dX3_count_20 (by decide) (fun c_16 => absurd c_16 (by decide)) (fun c_16 => ?_)
        refine lv_aload_n hx hb dX3_count_23 rfl (lv_at hl 0 rfl) ?_
        refine zw_getf (r := (20, 0, 0)) (v := .ref (ad (22, 0, 0))) (C := RX3) (T := TX3) (N := 17) (ci := 3) hx hb hts hwX3 hown hK hP (hM 0 (by decide)) rfl rfl 2 (by decide) (hts (.fieldLink RX3 13 "FourTrackDeckModel" "there" "[I") (by decide +kernel)) (fun _ h9 => h9) rfl dX3_count_24 ?_
        refine lv_iload_n hx hb dX3_count_27 rfl (lv_at hl 1 rfl) ?_
        refine lv_bipush (v := 10) hx hb dX3_count_28 (by decide) ?_
        refine lv_isub hx hb dX3_count_30 ?_
        refine zw_iald (r := (22, 0, 0)) hx hb hK hP (hM 2 (by decide)) 0 rfl rfl (ze_r8 h_15 hnr).1 dX3_count_31 ?_
        refine lv_goto (tgt := 36) hx hb dX3_count_32 (by decide) ?_
        exact zw_iret hx hb hr hlk hK hP hD hS dX3_count_36 (by simp only [sp_count, if_neg c_1, if_neg c_8, if_pos h_15, if_neg (show ¬ p0 = 0 from fun q => c_1 (by rw [q]; decide)), if_neg (show ¬ p0 = 1 from fun q => c_1 (by rw [q]; decide)), if_neg (show ¬ p0 = 2 from fun q => c_1 (by rw [q]; decide)), if_neg (show ¬ p0 = 3 from fun q => c_1 (by rw [q]; decide)), if_neg (show ¬ p0 = 4 from fun q => c_1 (by rw [q]; decide)), if_neg (show ¬ p0 = 5 from fun q => c_1 (by rw [q]; decide)), ite_self] <;> rfl) (by simp only [sp_count, if_neg c_1, if_neg c_8, if_pos h_15, if_neg (show ¬ p0 = 0 from fun q => c_1 (by rw [q]; decide)), if_neg (show ¬ p0 = 1 from fun q => c_1 (by rw [q]; decide)), if_neg (show ¬ p0 = 2 from fun q => c_1 (by rw [q]; decide)), if_neg (show ¬ p0 = 3 from fun q => c_1 (by rw [q]; decide)), if_neg (show ¬ p0 = 4 from fun q => c_1 (by rw [q]; decide)), if_neg (show ¬ p0 = 5 from fun q => c_1 (by rw [q]; decide)), ite_self] <;> rfl)
      · refine zw_cV (r := (20, 0, 0)) (As := [.int (p0 - 10)]) (rest := []) (st1 := [.int 0]) ⟨hx, hb, hml, hown, hts⟩ (cm_isReel_0 (σ := σ) hM hI0 (p0 - 10) h_15) (cwV 1 hts gX3_count_X3_isReel rfl rfl rfl (by decide +kernel) ⟨Nat.le_of_ble_eq_true rfl, Nat.le_of_ble_eq_true rfl⟩) (hM 0 (by decide)) rfl rfl rfl hK hP hD hS hA hN rfl hl.1 rfl (Nat.le_of_ble_eq_true rfl) rfl dX3_count_17 ⟨Nat.zero_le _, Nat.zero_le _⟩ (fun H locs hP hD hS => ?_)
        refine lv_if_eq (tgt := 35) hx hb dX3_count_20 (by decide) (fun c_17 => ?_) (fun c_17 => absurd (by decide) c_17)
        refine lv_iconst (v := (-1)) hx hb dX3_count_35 (by decide) ?_
        exact zw_iret hx hb hr hlk hK hP hD hS dX3_count_36 (by simp only [sp_count, if_neg c_1, if_neg c_8, if_neg h_15, if_neg (show ¬ p0 = 0 from fun q => c_1 (by rw [q]; decide)), if_neg (show ¬ p0 = 1 from fun q => c_1 (by rw [q]; decide)), if_neg (show ¬ p0 = 2 from fun q => c_1 (by rw [q]; decide)), if_neg (show ¬ p0 = 3 from fun q => c_1 (by rw [q]; decide)), if_neg (show ¬ p0 = 4 from fun q => c_1 (by rw [q]; decide)), if_neg (show ¬ p0 = 5 from fun q => c_1 (by rw [q]; decide)), ite_self] <;> rfl) (by simp only [sp_count, if_neg c_1, if_neg c_8, if_neg h_15, if_neg (show ¬ p0 = 0 from fun q => c_1 (by rw [q]; decide)), if_neg (show ¬ p0 = 1 from fun q => c_1 (by rw [q]; decide)), if_neg (show ¬ p0 = 2 from fun q => c_1 (by rw [q]; decide)), if_neg (show ¬ p0 = 3 from fun q => c_1 (by rw [q]; decide)), if_neg (show ¬ p0 = 4 from fun q => c_1 (by rw [q]; decide)), if_neg (show ¬ p0 = 5 from fun q => c_1 (by rw [q]; decide)), ite_self] <;> rfl)
set_option maxHeartbeats 4000000 in
set_option maxRecDepth 100000 in
theorem cm_status {l : Launch} {dC : Nat → ClassId} {dI : Nat → Nat → Nat} {cA : Nat → ClassId} {ad : zw_R → Nat} {R : List zw_R} {nr : Nat} {len : Nat → Nat} {σ : sp_S} {cD : zw_R → va_E} (hM : zm_R R) : zw_M l yX3_status wsX3_status { frames := 0, cells := 0, slots := 0, locals := 0 } (ze_E dC dI cA) [.ref (ad (20, 0, 0))] ad R (ze_X cD (ze_M cA ad len σ)) (some (.int ((sp_status nr len σ).1))) (ze_X cD (ze_M cA ad len (sp_status nr len σ).2)) := by
  refine zw_body (cc := cX3_status) (maxL := 1) (ret := (some .int)) (by decide) rfl (Nat.le_of_ble_eq_true rfl) ?_
  intro p e s m below meth c A ls hx hb hr hlk hml hts hown hnm hA hK hP hD hS hN hl
  have hl : lv_has ls 1 [(0, .ref (ad (20, 0, 0)))] := hl
  have hwX3 : ∀ w ∈ u_ws RX3 TX3 17, w ∈ wsX3_status := by decide +kernel
  refine lv_aload_n hx hb dX3_status_0 rfl (lv_at hl 0 rfl) ?_
  refine zw_getf (r := (20, 0, 0)) (v := .int (σ (0, 0, 0) 9)) (C := RX3) (T := TX3) (N := 17) (ci := 3) hx hb hts hwX3 hown hK hP (hM 0 (by decide)) rfl rfl 16 (by decide) (hts (.fieldLink RX3 44 "FourTrackDeckModel" "status" "I") (by decide +kernel)) (fun _ h9 => h9) rfl dX3_status_1 ?_
  exact zw_iret hx hb hr hlk hK hP hD hS dX3_status_4 rfl rfl
set_option maxHeartbeats 4000000 in
set_option maxRecDepth 100000 in
theorem cm_act {l : Launch} {dC : Nat → ClassId} {dI : Nat → Nat → Nat} {cA : Nat → ClassId} {ad : zw_R → Nat} {R : List zw_R} {nr : Nat} {len : Nat → Nat} {σ : sp_S} {cD : zw_R → va_E} (hM : zm_R R) (hnr : nr ≤ 8) (hlen : ∀ i, i < nr → len i ≤ 64) (p0 : Int32) (h : sp_v nr (σ (0, 0, 0) 1) p0) (hmo : sp_t (σ (3, 0, 0) p0.toNatClampNeg)) : zw_M l yX3_act wsX3_act { frames := 2, cells := 0, slots := 0, locals := 45 } (ze_E dC dI cA) [.ref (ad (20, 0, 0)), .int p0] ad R (ze_X cD (ze_M cA ad len σ)) (some (.int ((sp_mv nr len σ p0).1))) (ze_X cD (ze_M cA ad len (sp_mv nr len σ p0).2)) := by
  refine zw_body (cc := cX3_act) (maxL := 4) (ret := (some .int)) (by decide) rfl (Nat.le_of_ble_eq_true rfl) ?_
  intro p e s m below meth c A ls hx hb hr hlk hml hts hown hnm hA hK hP hD hS hN hl
  have hl : lv_has ls 4 [(0, .ref (ad (20, 0, 0))), (1, .int p0)] := hl
  have hwX3 : ∀ w ∈ u_ws RX3 TX3 17, w ∈ wsX3_act := by decide +kernel
  refine lv_aload_n hx hb dX3_act_0 rfl (lv_at hl 0 rfl) ?_
  refine zw_getf (r := (20, 0, 0)) (v := .ref (ad (25, 0, 0))) (C := RX3) (T := TX3) (N := 17) (ci := 3) hx hb hts hwX3 hown hK hP (hM 0 (by decide)) rfl rfl 7 (by decide) (hts (.fieldLink RX3 26 "FourTrackDeckModel" "mode" "[I") (by decide +kernel)) (fun _ h9 => h9) rfl dX3_act_1 ?_
  refine lv_iload_n hx hb dX3_act_4 rfl (lv_at hl 1 rfl) ?_
  refine zw_iald (r := (25, 0, 0)) hx hb hK hP (hM 5 (by decide)) 0 rfl rfl (ze_ti h.2) dX3_act_5 ?_
  refine lv_if_ne (tgt := 11) hx hb dX3_act_6 (by decide) (fun c_1 => ?_) (fun c_1 => ?_)
  · refine lv_aload_n hx hb dX3_act_11 rfl (lv_at hl 0 rfl) ?_
    refine lv_aload_n hx hb dX3_act_12 rfl (lv_at hl 0 rfl) ?_
    refine zw_getf (r := (20, 0, 0)) (v := .int (σ (0, 0, 0) 1)) (C := RX3) (T := TX3) (N := 17) (ci := 3) hx hb hts hwX3 hown hK hP (hM 0 (by decide)) rfl rfl 4 (by decide) (hts (.fieldLink RX3 19 "FourTrackDeckModel" "onDeck" "I") (by decide +kernel)) (fun _ h9 => h9) rfl dX3_act_13 ?_
    refine lv_iload_n hx hb dX3_act_16 rfl (lv_at hl 1 rfl) ?_
    refine lv_aload_n hx hb dX3_act_17 rfl (lv_at hl 0 rfl) ?_
    refine lv_iload_n hx hb dX3_act_18 rfl (lv_at hl 1 rfl) ?_
    refine zw_cV (r := (20, 0, 0)) (As := [.int p0]) (rest := [.int p0, .int (σ (0, 0, 0) 1), .ref (ad (20, 0, 0))]) (st1 := [.int (σ (0, 0, 0) 2 + σ (2, 0, 0) p0.toNatClampNeg), .int p0, .int (σ (0, 0, 0) 1), .ref (ad (20, 0, 0))]) ⟨hx, hb, hml, hown, hts⟩ (cm_place (σ := σ) hM p0 h.2) (cwV 1 hts gX3_act_X3_place rfl rfl rfl (by decide +kernel) ⟨Nat.le_of_ble_eq_true rfl, Nat.le_of_ble_eq_true rfl⟩) (hM 0 (by decide)) rfl rfl rfl hK hP hD hS hA hN rfl hl.1 rfl (Nat.le_of_ble_eq_true rfl) rfl dX3_act_19 ⟨Nat.zero_le _, Nat.zero_le _⟩ (fun H locs hP hD hS => ?_)
    refine zw_cV (r := (20, 0, 0)) (As := [.int (σ (0, 0, 0) 1), .int p0, .int (σ (0, 0, 0) 2 + σ (2, 0, 0) p0.toNatClampNeg)]) (rest := []) (st1 := [.int (sp_f len σ (σ (0, 0, 0) 1).toNatClampNeg p0.toNatClampNeg (σ (0, 0, 0) 2 + σ (2, 0, 0) p0.toNatClampNeg))]) ⟨hx, hb, hml, hown, hts⟩ (cm_fault (σ := σ) hM hnr (σ (0, 0, 0) 1) p0 (σ (0, 0, 0) 2 + σ (2, 0, 0) p0.toNatClampNeg) h.1 h.2) (cwV 3 hts gX3_act_X3_fault rfl rfl rfl (by decide +kernel) ⟨Nat.le_of_ble_eq_true rfl, Nat.le_of_ble_eq_true rfl⟩) (hM 0 (by decide)) rfl rfl rfl hK hP hD hS hA hN rfl hl.1 rfl (Nat.le_of_ble_eq_true rfl) rfl dX3_act_22 ⟨Nat.zero_le _, Nat.zero_le _⟩ (fun H locs hP hD hS => ?_)
    refine lv_istore_n (lv' := [(2, .int (sp_f len σ (σ (0, 0, 0) 1).toNatClampNeg p0.toNatClampNeg (σ (0, 0, 0) 2 + σ (2, 0, 0) p0.toNatClampNeg))), (0, .ref (ad (20, 0, 0))), (1, .int p0)]) hx hb dX3_act_25 rfl hl (by decide) rfl (fun ls hl => ?_)
    refine lv_iload_n hx hb dX3_act_26 rfl (lv_at hl 0 rfl) ?_
    refine lv_if_eq (tgt := 32) hx hb dX3_act_27 (by decide) (fun c_2 => ?_) (fun c_2 => ?_)
    · refine lv_aload_n hx hb dX3_act_32 rfl (lv_at hl 1 rfl) ?_
      refine lv_aload_n hx hb dX3_act_33 rfl (lv_at hl 1 rfl) ?_
      refine zw_getf (r := (20, 0, 0)) (v := .int (σ (0, 0, 0) 1)) (C := RX3) (T := TX3) (N := 17) (ci := 3) hx hb hts hwX3 hown hK hP (hM 0 (by decide)) rfl rfl 4 (by decide) (hts (.fieldLink RX3 19 "FourTrackDeckModel" "onDeck" "I") (by decide +kernel)) (fun _ h9 => h9) rfl dX3_act_34 ?_
      refine lv_iload_n hx hb dX3_act_37 rfl (lv_at hl 2 rfl) ?_
      refine lv_aload_n hx hb dX3_act_38 rfl (lv_at hl 1 rfl) ?_
      refine lv_iload_n hx hb dX3_act_39 rfl (lv_at hl 2 rfl) ?_
      refine zw_cV (r := (20, 0, 0)) (As := [.int p0]) (rest := [.int p0, .int (σ (0, 0, 0) 1), .ref (ad (20, 0, 0))]) (st1 := [.int (σ (0, 0, 0) 2 + σ (2, 0, 0) p0.toNatClampNeg), .int p0, .int (σ (0, 0, 0) 1), .ref (ad (20, 0, 0))]) ⟨hx, hb, hml, hown, hts⟩ (cm_place (σ := σ) hM p0 h.2) (cwV 1 hts gX3_act_X3_place rfl rfl rfl (by decide +kernel) ⟨Nat.le_of_ble_eq_true rfl, Nat.le_of_ble_eq_true rfl⟩) (hM 0 (by decide)) rfl rfl rfl hK hP hD hS hA hN rfl hl.1 rfl (Nat.le_of_ble_eq_true rfl) rfl dX3_act_40 ⟨Nat.zero_le _, Nat.zero_le _⟩ (fun H locs hP hD hS => ?_)
      refine zw_cV (r := (20, 0, 0)) (As := [.int (σ (0, 0, 0) 1), .int p0, .int (σ (0, 0, 0) 2 + σ (2, 0, 0) p0.toNatClampNeg)]) (rest := []) (st1 := [.int ((4 * (σ (0, 0, 0) 1) + p0) * 64 + (σ (0, 0, 0) 2 + σ (2, 0, 0) p0.toNatClampNeg))]) ⟨hx, hb, hml, hown, hts⟩ (cm_at (σ := σ) (σ (0, 0, 0) 1) p0 (σ (0, 0, 0) 2 + σ (2, 0, 0) p0.toNatClampNeg)) (cwV 3 hts gX3_act_X3_at rfl rfl rfl (by decide +kernel) ⟨Nat.le_of_ble_eq_true rfl, Nat.le_of_ble_eq_true rfl⟩) (hM 0 (by decide)) rfl rfl rfl hK hP hD hS hA hN rfl hl.1 rfl (Nat.le_of_ble_eq_true rfl) rfl dX3_act_43 ⟨Nat.zero_le _, Nat.zero_le _⟩ (fun H locs hP hD hS => ?_)
      refine lv_istore_n (lv' := [(3, .int ((4 * (σ (0, 0, 0) 1) + p0) * 64 + (σ (0, 0, 0) 2 + σ (2, 0, 0) p0.toNatClampNeg))), (2, .int (sp_f len σ (σ (0, 0, 0) 1).toNatClampNeg p0.toNatClampNeg (σ (0, 0, 0) 2 + σ (2, 0, 0) p0.toNatClampNeg))), (0, .ref (ad (20, 0, 0))), (1, .int p0)]) hx hb dX3_act_46 rfl hl (by decide) rfl (fun ls hl => ?_)
      refine lv_aload_n hx hb dX3_act_47 rfl (lv_at hl 2 rfl) ?_
      refine zw_getf (r := (20, 0, 0)) (v := .ref (ad (25, 0, 0))) (C := RX3) (T := TX3) (N := 17) (ci := 3) hx hb hts hwX3 hown hK hP (hM 0 (by decide)) rfl rfl 7 (by decide) (hts (.fieldLink RX3 26 "FourTrackDeckModel" "mode" "[I") (by decide +kernel)) (fun _ h9 => h9) rfl dX3_act_48 ?_
      refine lv_iload_n hx hb dX3_act_51 rfl (lv_at hl 3 rfl) ?_
      refine zw_iald (r := (25, 0, 0)) hx hb hK hP (hM 5 (by decide)) 0 rfl rfl (ze_ti h.2) dX3_act_52 ?_
      refine lv_iconst (v := 1) hx hb dX3_act_53 (by decide) ?_
      refine lv_icmp_ne (tgt := 74) hx hb dX3_act_54 (by decide) (fun c_3 => ?_) (fun c_3 => ?_)
      · refine lv_aload_n hx hb dX3_act_74 rfl (lv_at hl 2 rfl) ?_
        refine zw_getf (r := (20, 0, 0)) (v := .ref (ad (23, 0, 0))) (C := RX3) (T := TX3) (N := 17) (ci := 3) hx hb hts hwX3 hown hK hP (hM 0 (by decide)) rfl rfl 3 (by decide) (hts (.fieldLink RX3 16 "FourTrackDeckModel" "number" "[I") (by decide +kernel)) (fun _ h9 => h9) rfl dX3_act_75 ?_
        refine lv_iload_n hx hb dX3_act_78 rfl (lv_at hl 0 rfl) ?_
        refine lv_aload_n hx hb dX3_act_79 rfl (lv_at hl 2 rfl) ?_
        refine lv_iload_n hx hb dX3_act_80 rfl (lv_at hl 3 rfl) ?_
        refine lv_aload_n hx hb dX3_act_81 rfl (lv_at hl 2 rfl) ?_
        refine zw_getf (r := (20, 0, 0)) (v := .ref (ad (25, 0, 0))) (C := RX3) (T := TX3) (N := 17) (ci := 3) hx hb hts hwX3 hown hK hP (hM 0 (by decide)) rfl rfl 7 (by decide) (hts (.fieldLink RX3 26 "FourTrackDeckModel" "mode" "[I") (by decide +kernel)) (fun _ h9 => h9) rfl dX3_act_82 ?_
        refine lv_iload_n hx hb dX3_act_85 rfl (lv_at hl 3 rfl) ?_
        refine zw_iald (r := (25, 0, 0)) hx hb hK hP (hM 5 (by decide)) 0 rfl rfl (ze_ti h.2) dX3_act_86 ?_
        refine lv_iconst (v := 2) hx hb dX3_act_87 (by decide) ?_
        refine lv_icmp_ne (tgt := 98) hx hb dX3_act_88 (by decide) (fun c_4 => ?_) (fun c_4 => ?_)
        · refine lv_aload_n hx hb dX3_act_98 rfl (lv_at hl 2 rfl) ?_
          refine zw_getf (r := (20, 0, 0)) (v := .ref (ad (23, 0, 0))) (C := RX3) (T := TX3) (N := 17) (ci := 3) hx hb hts hwX3 hown hK hP (hM 0 (by decide)) rfl rfl 3 (by decide) (hts (.fieldLink RX3 16 "FourTrackDeckModel" "number" "[I") (by decide +kernel)) (fun _ h9 => h9) rfl dX3_act_99 ?_
          refine lv_iload_n hx hb dX3_act_102 rfl (lv_at hl 0 rfl) ?_
          refine zw_ialdv (r := (23, 0, 0)) (v := (σ (9, (σ (0, 0, 0) 1).toNatClampNeg, p0.toNatClampNeg) (σ (0, 0, 0) 2 + σ (2, 0, 0) p0.toNatClampNeg).toNatClampNeg)) hx hb hK hP (hM 3 (by decide)) 0 rfl rfl (zm_at h.1 hnr h.2 (ze_fi (hlen _ (ze_vr h.1 hnr)) c_2) (hlen _ (ze_vr h.1 hnr))).2.1 (zm_rd h.1 hnr h.2 (ze_fi (hlen _ (ze_vr h.1 hnr)) c_2) (hlen _ (ze_vr h.1 hnr))) dX3_act_103 ?_
          refine lv_aload_n hx hb dX3_act_104 rfl (lv_at hl 2 rfl) ?_
          refine zw_getf (r := (20, 0, 0)) (v := .int (σ (0, 0, 0) 3)) (C := RX3) (T := TX3) (N := 17) (ci := 3) hx hb hts hwX3 hown hK hP (hM 0 (by decide)) rfl rfl 9 (by decide) (hts (.fieldLink RX3 78 "FourTrackDeckModel" "s" "I") (by decide +kernel)) (fun _ h9 => h9) rfl dX3_act_105 ?_
          refine lv_iadd hx hb dX3_act_108 ?_
          refine zw_cV (r := (20, 0, 0)) (As := [.int p0, .int ((σ (9, (σ (0, 0, 0) 1).toNatClampNeg, p0.toNatClampNeg) (σ (0, 0, 0) 2 + σ (2, 0, 0) p0.toNatClampNeg).toNatClampNeg) + (σ (0, 0, 0) 3))]) (rest := [.int ((4 * (σ (0, 0, 0) 1) + p0) * 64 + (σ (0, 0, 0) 2 + σ (2, 0, 0) p0.toNatClampNeg)), .ref (ad (23, 0, 0))]) (st1 := [.int (sp_as p0.toNatClampNeg ((σ (9, (σ (0, 0, 0) 1).toNatClampNeg, p0.toNatClampNeg) (σ (0, 0, 0) 2 + σ (2, 0, 0) p0.toNatClampNeg).toNatClampNeg) + (σ (0, 0, 0) 3))), .int ((4 * (σ (0, 0, 0) 1) + p0) * 64 + (σ (0, 0, 0) 2 + σ (2, 0, 0) p0.toNatClampNeg)), .ref (ad (23, 0, 0))]) ⟨hx, hb, hml, hown, hts⟩ (cm_fit (σ := σ) p0 ((σ (9, (σ (0, 0, 0) 1).toNatClampNeg, p0.toNatClampNeg) (σ (0, 0, 0) 2 + σ (2, 0, 0) p0.toNatClampNeg).toNatClampNeg) + (σ (0, 0, 0) 3)) h.2) (cwV 2 hts gX3_act_X3_fit rfl rfl rfl (by decide +kernel) ⟨Nat.le_of_ble_eq_true rfl, Nat.le_of_ble_eq_true rfl⟩) (hM 0 (by decide)) rfl rfl rfl hK hP hD hS hA hN rfl hl.1 rfl (Nat.le_of_ble_eq_true rfl) rfl dX3_act_109 ⟨Nat.zero_le _, Nat.zero_le _⟩ (fun H locs hP hD hS => ?_)
          refine zw_iast (r := (23, 0, 0)) hx hb hK hP hD hS (hM 3 (by decide)) 0 rfl rfl (zm_at h.1 hnr h.2 (ze_fi (hlen _ (ze_vr h.1 hnr)) c_2) (hlen _ (ze_vr h.1 hnr))).2.1 dX3_act_112 (cu1 := ze_X cD (ze_M cA ad len (sp_s σ (9, (σ (0, 0, 0) 1).toNatClampNeg, p0.toNatClampNeg) (σ (0, 0, 0) 2 + σ (2, 0, 0) p0.toNatClampNeg).toNatClampNeg (sp_as p0.toNatClampNeg ((σ (9, (σ (0, 0, 0) 1).toNatClampNeg, p0.toNatClampNeg) (σ (0, 0, 0) 2 + σ (2, 0, 0) p0.toNatClampNeg).toNatClampNeg) + (σ (0, 0, 0) 3)))))) (zm_N (zm_at h.1 hnr h.2 (ze_fi (hlen _ (ze_vr h.1 hnr)) c_2) (hlen _ (ze_vr h.1 hnr))).1 (ze_vt h.2) (zm_at h.1 hnr h.2 (ze_fi (hlen _ (ze_vr h.1 hnr)) c_2) (hlen _ (ze_vr h.1 hnr))).2.2) (fun H locs hP hD hS => ?_)
          refine lv_aload_n hx hb dX3_act_113 rfl (lv_at hl 2 rfl) ?_
          refine lv_dup hx hb dX3_act_114 rfl ?_
          refine zw_getf (r := (20, 0, 0)) (v := .int ((sp_s σ (9, (σ (0, 0, 0) 1).toNatClampNeg, p0.toNatClampNeg) (σ (0, 0, 0) 2 + σ (2, 0, 0) p0.toNatClampNeg).toNatClampNeg (sp_as p0.toNatClampNeg ((σ (9, (σ (0, 0, 0) 1).toNatClampNeg, p0.toNatClampNeg) (σ (0, 0, 0) 2 + σ (2, 0, 0) p0.toNatClampNeg).toNatClampNeg) + (σ (0, 0, 0) 3)))) (0, 0, 0) 3)) (C := RX3) (T := TX3) (N := 17) (ci := 3) hx hb hts hwX3 hown hK hP (hM 0 (by decide)) rfl rfl 9 (by decide) (hts (.fieldLink RX3 78 "FourTrackDeckModel" "s" "I") (by decide +kernel)) (fun _ h9 => h9) rfl dX3_act_115 ?_
          refine lv_aload_n hx hb dX3_act_118 rfl (lv_at hl 2 rfl) ?_
          refine zw_getf (r := (20, 0, 0)) (v := .int ((sp_s σ (9, (σ (0, 0, 0) 1).toNatClampNeg, p0.toNatClampNeg) (σ (0, 0, 0) 2 + σ (2, 0, 0) p0.toNatClampNeg).toNatClampNeg (sp_as p0.toNatClampNeg ((σ (9, (σ (0, 0, 0) 1).toNatClampNeg, p0.toNatClampNeg) (σ (0, 0, 0) 2 + σ (2, 0, 0) p0.toNatClampNeg).toNatClampNeg) + (σ (0, 0, 0) 3)))) (0, 0, 0) 4)) (C := RX3) (T := TX3) (N := 17) (ci := 3) hx hb hts hwX3 hown hK hP (hM 0 (by decide)) rfl rfl 10 (by decide) (hts (.fieldLink RX3 81 "FourTrackDeckModel" "step" "I") (by decide +kernel)) (fun _ h9 => h9) rfl dX3_act_119 ?_
          refine lv_iadd hx hb dX3_act_122 ?_
          refine zw_putf (r := (20, 0, 0)) (v := .int (((sp_s σ (9, (σ (0, 0, 0) 1).toNatClampNeg, p0.toNatClampNeg) (σ (0, 0, 0) 2 + σ (2, 0, 0) p0.toNatClampNeg).toNatClampNeg (sp_as p0.toNatClampNeg ((σ (9, (σ (0, 0, 0) 1).toNatClampNeg, p0.toNatClampNeg) (σ (0, 0, 0) 2 + σ (2, 0, 0) p0.toNatClampNeg).toNatClampNeg) + (σ (0, 0, 0) 3)))) (0, 0, 0) 3) + ((sp_s σ (9, (σ (0, 0, 0) 1).toNatClampNeg, p0.toNatClampNeg) (σ (0, 0, 0) 2 + σ (2, 0, 0) p0.toNatClampNeg).toNatClampNeg (sp_as p0.toNatClampNeg ((σ (9, (σ (0, 0, 0) 1).toNatClampNeg, p0.toNatClampNeg) (σ (0, 0, 0) 2 + σ (2, 0, 0) p0.toNatClampNeg).toNatClampNeg) + (σ (0, 0, 0) 3)))) (0, 0, 0) 4))) (C := RX3) (T := TX3) (N := 17) (ci := 3) hx hb hts hwX3 tyX3 tyX3_ok nmX3 hown hK hP hD hS (hM 0 (by decide)) rfl rfl 9 (by decide) (hts (.fieldLink RX3 78 "FourTrackDeckModel" "s" "I") (by decide +kernel)) (fun _ h9 => h9) rfl (ty := .int) (by decide +kernel) rfl rfl (Nat.le_of_ble_eq_true rfl) dX3_act_123 (cu1 := ze_X cD (ze_M cA ad len (sp_s (sp_s σ (9, (σ (0, 0, 0) 1).toNatClampNeg, p0.toNatClampNeg) (σ (0, 0, 0) 2 + σ (2, 0, 0) p0.toNatClampNeg).toNatClampNeg (sp_as p0.toNatClampNeg ((σ (9, (σ (0, 0, 0) 1).toNatClampNeg, p0.toNatClampNeg) (σ (0, 0, 0) 2 + σ (2, 0, 0) p0.toNatClampNeg).toNatClampNeg) + (σ (0, 0, 0) 3)))) (0, 0, 0) 3 (((sp_s σ (9, (σ (0, 0, 0) 1).toNatClampNeg, p0.toNatClampNeg) (σ (0, 0, 0) 2 + σ (2, 0, 0) p0.toNatClampNeg).toNatClampNeg (sp_as p0.toNatClampNeg ((σ (9, (σ (0, 0, 0) 1).toNatClampNeg, p0.toNatClampNeg) (σ (0, 0, 0) 2 + σ (2, 0, 0) p0.toNatClampNeg).toNatClampNeg) + (σ (0, 0, 0) 3)))) (0, 0, 0) 3) + ((sp_s σ (9, (σ (0, 0, 0) 1).toNatClampNeg, p0.toNatClampNeg) (σ (0, 0, 0) 2 + σ (2, 0, 0) p0.toNatClampNeg).toNatClampNeg (sp_as p0.toNatClampNeg ((σ (9, (σ (0, 0, 0) 1).toNatClampNeg, p0.toNatClampNeg) (σ (0, 0, 0) 2 + σ (2, 0, 0) p0.toNatClampNeg).toNatClampNeg) + (σ (0, 0, 0) 3)))) (0, 0, 0) 4))))) (zm_D rfl) (fun H locs hP hD hS => ?_)
          refine lv_iconst (v := 0) hx hb dX3_act_126 (by decide) ?_
          exact zw_iret hx hb hr hlk hK hP hD hS dX3_act_127 (by simp only [sp_mv, sp_n, sp_put, if_pos h, if_neg c_1, if_pos c_2, if_neg c_3, if_neg c_4, if_pos (ze_t9 hmo c_1 c_3 c_4), ite_self] <;> rfl) (by simp only [sp_mv, sp_n, sp_put, if_pos h, if_neg c_1, if_pos c_2, if_neg c_3, if_neg c_4, if_pos (ze_t9 hmo c_1 c_3 c_4), ite_self] <;> rfl)
        · refine lv_aload_n hx hb dX3_act_91 rfl (lv_at hl 2 rfl) ?_
          refine zw_getf (r := (20, 0, 0)) (v := .int (σ (0, 0, 0) 3)) (C := RX3) (T := TX3) (N := 17) (ci := 3) hx hb hts hwX3 hown hK hP (hM 0 (by decide)) rfl rfl 9 (by decide) (hts (.fieldLink RX3 78 "FourTrackDeckModel" "s" "I") (by decide +kernel)) (fun _ h9 => h9) rfl dX3_act_92 ?_
          refine lv_goto (tgt := 109) hx hb dX3_act_95 (by decide) ?_
          refine zw_cV (r := (20, 0, 0)) (As := [.int p0, .int (σ (0, 0, 0) 3)]) (rest := [.int ((4 * (σ (0, 0, 0) 1) + p0) * 64 + (σ (0, 0, 0) 2 + σ (2, 0, 0) p0.toNatClampNeg)), .ref (ad (23, 0, 0))]) (st1 := [.int (sp_as p0.toNatClampNeg (σ (0, 0, 0) 3)), .int ((4 * (σ (0, 0, 0) 1) + p0) * 64 + (σ (0, 0, 0) 2 + σ (2, 0, 0) p0.toNatClampNeg)), .ref (ad (23, 0, 0))]) ⟨hx, hb, hml, hown, hts⟩ (cm_fit (σ := σ) p0 (σ (0, 0, 0) 3) h.2) (cwV 2 hts gX3_act_X3_fit rfl rfl rfl (by decide +kernel) ⟨Nat.le_of_ble_eq_true rfl, Nat.le_of_ble_eq_true rfl⟩) (hM 0 (by decide)) rfl rfl rfl hK hP hD hS hA hN rfl hl.1 rfl (Nat.le_of_ble_eq_true rfl) rfl dX3_act_109 ⟨Nat.zero_le _, Nat.zero_le _⟩ (fun H locs hP hD hS => ?_)
          refine zw_iast (r := (23, 0, 0)) hx hb hK hP hD hS (hM 3 (by decide)) 0 rfl rfl (zm_at h.1 hnr h.2 (ze_fi (hlen _ (ze_vr h.1 hnr)) c_2) (hlen _ (ze_vr h.1 hnr))).2.1 dX3_act_112 (cu1 := ze_X cD (ze_M cA ad len (sp_s σ (9, (σ (0, 0, 0) 1).toNatClampNeg, p0.toNatClampNeg) (σ (0, 0, 0) 2 + σ (2, 0, 0) p0.toNatClampNeg).toNatClampNeg (sp_as p0.toNatClampNeg (σ (0, 0, 0) 3))))) (zm_N (zm_at h.1 hnr h.2 (ze_fi (hlen _ (ze_vr h.1 hnr)) c_2) (hlen _ (ze_vr h.1 hnr))).1 (ze_vt h.2) (zm_at h.1 hnr h.2 (ze_fi (hlen _ (ze_vr h.1 hnr)) c_2) (hlen _ (ze_vr h.1 hnr))).2.2) (fun H locs hP hD hS => ?_)
          refine lv_aload_n hx hb dX3_act_113 rfl (lv_at hl 2 rfl) ?_
          refine lv_dup hx hb dX3_act_114 rfl ?_
          refine zw_getf (r := (20, 0, 0)) (v := .int ((sp_s σ (9, (σ (0, 0, 0) 1).toNatClampNeg, p0.toNatClampNeg) (σ (0, 0, 0) 2 + σ (2, 0, 0) p0.toNatClampNeg).toNatClampNeg (sp_as p0.toNatClampNeg (σ (0, 0, 0) 3))) (0, 0, 0) 3)) (C := RX3) (T := TX3) (N := 17) (ci := 3) hx hb hts hwX3 hown hK hP (hM 0 (by decide)) rfl rfl 9 (by decide) (hts (.fieldLink RX3 78 "FourTrackDeckModel" "s" "I") (by decide +kernel)) (fun _ h9 => h9) rfl dX3_act_115 ?_
          refine lv_aload_n hx hb dX3_act_118 rfl (lv_at hl 2 rfl) ?_
          refine zw_getf (r := (20, 0, 0)) (v := .int ((sp_s σ (9, (σ (0, 0, 0) 1).toNatClampNeg, p0.toNatClampNeg) (σ (0, 0, 0) 2 + σ (2, 0, 0) p0.toNatClampNeg).toNatClampNeg (sp_as p0.toNatClampNeg (σ (0, 0, 0) 3))) (0, 0, 0) 4)) (C := RX3) (T := TX3) (N := 17) (ci := 3) hx hb hts hwX3 hown hK hP (hM 0 (by decide)) rfl rfl 10 (by decide) (hts (.fieldLink RX3 81 "FourTrackDeckModel" "step" "I") (by decide +kernel)) (fun _ h9 => h9) rfl dX3_act_119 ?_
          refine lv_iadd hx hb dX3_act_122 ?_
          refine zw_putf (r := (20, 0, 0)) (v := .int (((sp_s σ (9, (σ (0, 0, 0) 1).toNatClampNeg, p0.toNatClampNeg) (σ (0, 0, 0) 2 + σ (2, 0, 0) p0.toNatClampNeg).toNatClampNeg (sp_as p0.toNatClampNeg (σ (0, 0, 0) 3))) (0, 0, 0) 3) + ((sp_s σ (9, (σ (0, 0, 0) 1).toNatClampNeg, p0.toNatClampNeg) (σ (0, 0, 0) 2 + σ (2, 0, 0) p0.toNatClampNeg).toNatClampNeg (sp_as p0.toNatClampNeg (σ (0, 0, 0) 3))) (0, 0, 0) 4))) (C := RX3) (T := TX3) (N := 17) (ci := 3) hx hb hts hwX3 tyX3 tyX3_ok nmX3 hown hK hP hD hS (hM 0 (by decide)) rfl rfl 9 (by decide) (hts (.fieldLink RX3 78 "FourTrackDeckModel" "s" "I") (by decide +kernel)) (fun _ h9 => h9) rfl (ty := .int) (by decide +kernel) rfl rfl (Nat.le_of_ble_eq_true rfl) dX3_act_123 (cu1 := ze_X cD (ze_M cA ad len (sp_s (sp_s σ (9, (σ (0, 0, 0) 1).toNatClampNeg, p0.toNatClampNeg) (σ (0, 0, 0) 2 + σ (2, 0, 0) p0.toNatClampNeg).toNatClampNeg (sp_as p0.toNatClampNeg (σ (0, 0, 0) 3))) (0, 0, 0) 3 (((sp_s σ (9, (σ (0, 0, 0) 1).toNatClampNeg, p0.toNatClampNeg) (σ (0, 0, 0) 2 + σ (2, 0, 0) p0.toNatClampNeg).toNatClampNeg (sp_as p0.toNatClampNeg (σ (0, 0, 0) 3))) (0, 0, 0) 3) + ((sp_s σ (9, (σ (0, 0, 0) 1).toNatClampNeg, p0.toNatClampNeg) (σ (0, 0, 0) 2 + σ (2, 0, 0) p0.toNatClampNeg).toNatClampNeg (sp_as p0.toNatClampNeg (σ (0, 0, 0) 3))) (0, 0, 0) 4))))) (zm_D rfl) (fun H locs hP hD hS => ?_)
          refine lv_iconst (v := 0) hx hb dX3_act_126 (by decide) ?_
          exact zw_iret hx hb hr hlk hK hP hD hS dX3_act_127 (by simp only [sp_mv, sp_n, sp_put, if_pos h, if_neg c_1, if_pos c_2, if_neg c_3, if_pos c_4, if_neg (show ¬ σ (3, 0, 0) p0.toNatClampNeg = 3 from by rw [c_4]; decide), ite_self] <;> rfl) (by simp only [sp_mv, sp_n, sp_put, if_pos h, if_neg c_1, if_pos c_2, if_neg c_3, if_pos c_4, if_neg (show ¬ σ (3, 0, 0) p0.toNatClampNeg = 3 from by rw [c_4]; decide), ite_self] <;> rfl)
      · refine lv_aload_n hx hb dX3_act_57 rfl (lv_at hl 2 rfl) ?_
        refine zw_getf (r := (20, 0, 0)) (v := .ref (ad (26, 0, 0))) (C := RX3) (T := TX3) (N := 17) (ci := 3) hx hb hts hwX3 hown hK hP (hM 0 (by decide)) rfl rfl 8 (by decide) (hts (.fieldLink RX3 29 "FourTrackDeckModel" "meter" "[I") (by decide +kernel)) (fun _ h9 => h9) rfl dX3_act_58 ?_
        refine lv_iload_n hx hb dX3_act_61 rfl (lv_at hl 3 rfl) ?_
        refine lv_dup2_11 hx hb dX3_act_62 rfl rfl ?_
        refine zw_iald (r := (26, 0, 0)) hx hb hK hP (hM 6 (by decide)) 0 rfl rfl (ze_ti h.2) dX3_act_63 ?_
        refine lv_aload_n hx hb dX3_act_64 rfl (lv_at hl 2 rfl) ?_
        refine zw_getf (r := (20, 0, 0)) (v := .ref (ad (23, 0, 0))) (C := RX3) (T := TX3) (N := 17) (ci := 3) hx hb hts hwX3 hown hK hP (hM 0 (by decide)) rfl rfl 3 (by decide) (hts (.fieldLink RX3 16 "FourTrackDeckModel" "number" "[I") (by decide +kernel)) (fun _ h9 => h9) rfl dX3_act_65 ?_
        refine lv_iload_n hx hb dX3_act_68 rfl (lv_at hl 0 rfl) ?_
        refine zw_ialdv (r := (23, 0, 0)) (v := (σ (9, (σ (0, 0, 0) 1).toNatClampNeg, p0.toNatClampNeg) (σ (0, 0, 0) 2 + σ (2, 0, 0) p0.toNatClampNeg).toNatClampNeg)) hx hb hK hP (hM 3 (by decide)) 0 rfl rfl (zm_at h.1 hnr h.2 (ze_fi (hlen _ (ze_vr h.1 hnr)) c_2) (hlen _ (ze_vr h.1 hnr))).2.1 (zm_rd h.1 hnr h.2 (ze_fi (hlen _ (ze_vr h.1 hnr)) c_2) (hlen _ (ze_vr h.1 hnr))) dX3_act_69 ?_
        refine lv_iadd hx hb dX3_act_70 ?_
        refine zw_iast (r := (26, 0, 0)) hx hb hK hP hD hS (hM 6 (by decide)) 0 rfl rfl (ze_ti h.2) dX3_act_71 (cu1 := ze_X cD (ze_M cA ad len (sp_s σ (4, 0, 0) p0.toNatClampNeg ((σ (4, 0, 0) p0.toNatClampNeg) + (σ (9, (σ (0, 0, 0) 1).toNatClampNeg, p0.toNatClampNeg) (σ (0, 0, 0) 2 + σ (2, 0, 0) p0.toNatClampNeg).toNatClampNeg))))) (zm_A4 rfl) (fun H locs hP hD hS => ?_)
        refine lv_iconst (v := 0) hx hb dX3_act_72 (by decide) ?_
        exact zw_iret hx hb hr hlk hK hP hD hS dX3_act_73 (by simp only [sp_mv, sp_n, sp_put, if_pos h, if_neg c_1, if_pos c_2, if_pos c_3, ite_self] <;> rfl) (by simp only [sp_mv, sp_n, sp_put, if_pos h, if_neg c_1, if_pos c_2, if_pos c_3, ite_self] <;> rfl)
    · refine lv_iload_n hx hb dX3_act_30 rfl (lv_at hl 0 rfl) ?_
      exact zw_iret hx hb hr hlk hK hP hD hS dX3_act_31 (by simp only [sp_mv, sp_n, sp_put, if_pos h, if_neg c_1, if_neg c_2, ite_self] <;> rfl) (by simp only [sp_mv, sp_n, sp_put, if_pos h, if_neg c_1, if_neg c_2, ite_self] <;> rfl)
  · refine lv_iconst (v := 0) hx hb dX3_act_9 (by decide) ?_
    exact zw_iret hx hb hr hlk hK hP hD hS dX3_act_10 (by simp only [sp_mv, sp_n, sp_put, if_pos h, if_pos c_1, ite_self] <;> rfl) (by simp only [sp_mv, sp_n, sp_put, if_pos h, if_pos c_1, ite_self] <;> rfl)
