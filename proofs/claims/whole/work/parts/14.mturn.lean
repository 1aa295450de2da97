theorem sp_sl_hit {len : Nat → Nat} {σ : sp_S} {i t m : Nat} {a v k : Int32} (hf : sp_f len σ i t (a + k) = 0) (hv : σ (9, i, t) (a + k).toNatClampNeg = v) (hm : 0 < m) : sp_sl len i t a v m k σ = (k, sp_e σ 0) := by
  obtain ⟨n, rfl⟩ : ∃ n, m = n + 1 := ⟨m - 1, by omega⟩
  simp only [sp_sl, sp_n, if_pos hf, if_pos hv]
theorem sp_sl_next {len : Nat → Nat} {σ : sp_S} {i t m : Nat} {a v k : Int32} (hf : sp_f len σ i t (a + k) = 0) (hv : ¬ σ (9, i, t) (a + k).toNatClampNeg = v) : sp_sl len i t a v (m + 1) k σ = sp_sl len i t a v m (k + 1) σ := by
  simp only [sp_sl, sp_n, if_pos hf, if_neg hv]
theorem sp_sl_end {len : Nat → Nat} {σ : sp_S} {i t : Nat} {a v k : Int32} (h8 : ¬ σ (8, i, t) 1 = 0) (he : ¬ (0 ≤ a + k ∧ a + k < nI (len i))) (m : Nat) : sp_sl len i t a v m k σ = (-1, sp_e σ 3) := by
  cases m with
  | zero => rfl
  | succ n =>
    have e : sp_f len σ i t (a + k) = 3 := by unfold sp_f; rw [if_neg h8, if_neg he]
    simp only [sp_sl, e]
    rfl
theorem sp_f_there {len : Nat → Nat} {σ : sp_S} {i t : Nat} {p : Int32} (h : sp_f len σ i t p = 0) : ¬ σ (8, i, t) 1 = 0 := by
  intro q
  unfold sp_f at h
  rw [if_pos q] at h
  exact absurd h (by decide)
theorem sp_f_in {len : Nat → Nat} {σ : sp_S} {i t : Nat} {p : Int32} (h8 : ¬ σ (8, i, t) 1 = 0) (h0 : 0 ≤ p) (h1 : p < nI (len i)) : sp_f len σ i t p = 0 := by
  unfold sp_f
  rw [if_neg h8, if_pos ⟨h0, h1⟩]
theorem sp_scan_0 {nr : Nat} {len : Nat → Nat} {σ : sp_S} {p0 p1 : Int32} (h : sp_v nr (σ (0, 0, 0) 1) p0) (c : ¬ sp_f len σ (σ (0, 0, 0) 1).toNatClampNeg p0.toNatClampNeg (σ (0, 0, 0) 2 + σ (2, 0, 0) p0.toNatClampNeg) = 0) : sp_scan nr len σ p0 p1 = (-1, sp_e σ (sp_f len σ (σ (0, 0, 0) 1).toNatClampNeg p0.toNatClampNeg (σ (0, 0, 0) 2 + σ (2, 0, 0) p0.toNatClampNeg))) := by
  have e : (σ (0, 0, 0) 2 + σ (2, 0, 0) p0.toNatClampNeg) + 0 = (σ (0, 0, 0) 2 + σ (2, 0, 0) p0.toNatClampNeg) := Int32.add_zero _
  unfold sp_scan
  rw [if_pos h]
  show sp_sl _ _ _ _ _ (63 + 1) 0 _ = _
  simp only [sp_sl, e, if_neg c]
set_option maxHeartbeats 4000000 in
set_option maxRecDepth 100000 in
theorem cm_turn {l : Launch} {dC : Nat → ClassId} {dI : Nat → Nat → Nat} {cA : Nat → ClassId} {ad : zw_R → Nat} {R : List zw_R} {nr : Nat} {len : Nat → Nat} {σ : sp_S} {cD : zw_R → va_E} (hM : zm_R R) (hnr : nr ≤ 8) (hlen : ∀ i, i < nr → len i ≤ 64) (hod : σ (0, 0, 0) 1 = -1 ∨ sp_r nr (σ (0, 0, 0) 1)) (hF : sp_F σ) (p0 p1 : Int32) : zw_M l yX3_turn wsX3_turn { frames := 2, cells := 0, slots := 0, locals := 45 } (ze_E dC dI cA) [.ref (ad (20, 0, 0)), .int p0, .int p1] ad R (ze_X cD (ze_M cA ad len σ)) (some (.int ((sp_turn nr len σ p0 p1).1))) (ze_X cD (ze_M cA ad len (sp_turn nr len σ p0 p1).2)) := by
  refine zw_body (cc := cX3_turn) (maxL := 9) (ret := (some .int)) (by decide) rfl (Nat.le_of_ble_eq_true rfl) ?_
  intro p e s m below meth c A ls hx hb hr hlk hml hts hown hnm hA hK hP hD hS hN hl
  have hl : lv_has ls 9 [(0, .ref (ad (20, 0, 0))), (1, .int p0), (2, .int p1)] := hl
  have hwX3 : ∀ w ∈ u_ws RX3 TX3 17, w ∈ wsX3_turn := by decide +kernel
  refine lv_aload_n hx hb dX3_turn_0 rfl (lv_at hl 0 rfl) ?_
  refine lv_iload_n hx hb dX3_turn_1 rfl (lv_at hl 1 rfl) ?_
  rcases Decidable.em (sp_t p0) with h_1 | h_1
  · refine zw_cV (r := (20, 0, 0)) (As := [.int p0]) (rest := []) (st1 := [.int 1]) ⟨hx, hb, hml, hown, hts⟩ (cm_isTrack_1 (σ := σ) p0 h_1) (cwV 1 hts gX3_turn_X3_isTrack rfl rfl rfl (by decide +kernel) ⟨Nat.le_of_ble_eq_true rfl, Nat.le_of_ble_eq_true rfl⟩) (hM 0 (by decide)) rfl rfl rfl hK hP hD hS hA hN rfl hl.1 rfl (Nat.le_of_ble_eq_true rfl) rfl dX3_turn_2 ⟨Nat.zero_le _, Nat.zero_le _⟩ (fun H locs hP hD hS => ?_)
    refine lv_if_eq (tgt := 18) hx hb dX3_turn_5 (by decide) (fun c_2 => absurd c_2 (by decide)) (fun c_2 => ?_)
    refine lv_iload_n hx hb dX3_turn_8 rfl (lv_at hl 2 rfl) ?_
    refine lv_if_lt (tgt := 18) hx hb dX3_turn_9 (by decide) (fun c_3 => ?_) (fun c_3 => ?_)
    · refine lv_aload_n hx hb dX3_turn_18 rfl (lv_at hl 0 rfl) ?_
      refine lv_iconst (v := 1) hx hb dX3_turn_19 (by decide) ?_
      refine lv_iconst (v := 0) hx hb dX3_turn_20 (by decide) ?_
      refine zw_cV (r := (20, 0, 0)) (As := [.int 1, .int 0]) (rest := []) (st1 := [.int 0]) ⟨hx, hb, hml, hown, hts⟩ (cm_fails (σ := σ) hM 1 0) (cwV 2 hts gX3_turn_X3_fails rfl rfl rfl (by decide +kernel) ⟨Nat.le_of_ble_eq_true rfl, Nat.le_of_ble_eq_true rfl⟩) (hM 0 (by decide)) rfl rfl rfl hK hP hD hS hA hN rfl hl.1 rfl (Nat.le_of_ble_eq_true rfl) rfl dX3_turn_21 ⟨Nat.zero_le _, Nat.zero_le _⟩ (fun H locs hP hD hS => ?_)
      exact zw_iret hx hb hr hlk hK hP hD hS dX3_turn_24 (by simp only [sp_turn, if_neg (show ¬ sp_w p1 0 64 from fun q => Int32.not_lt.mpr q.1 c_3), if_pos h_1, if_pos c_3, ite_self] <;> rfl) (by simp only [sp_turn, if_neg (show ¬ sp_w p1 0 64 from fun q => Int32.not_lt.mpr q.1 c_3), if_pos h_1, if_pos c_3, ite_self] <;> rfl)
    · refine lv_iload_n hx hb dX3_turn_12 rfl (lv_at hl 2 rfl) ?_
      refine lv_bipush (v := 64) hx hb dX3_turn_13 (by decide) ?_
      refine lv_icmp_le (tgt := 25) hx hb dX3_turn_15 (by decide) (fun c_4 => ?_) (fun c_4 => ?_)
      · refine lv_aload_n hx hb dX3_turn_25 rfl (lv_at hl 0 rfl) ?_
        refine zw_getf (r := (20, 0, 0)) (v := .int (σ (0, 0, 0) 1)) (C := RX3) (T := TX3) (N := 17) (ci := 3) hx hb hts hwX3 hown hK hP (hM 0 (by decide)) rfl rfl 4 (by decide) (hts (.fieldLink RX3 19 "FourTrackDeckModel" "onDeck" "I") (by decide +kernel)) (fun _ h9 => h9) rfl dX3_turn_26 ?_
        refine lv_iconst (v := (-1)) hx hb dX3_turn_29 (by decide) ?_
        refine lv_icmp_ne (tgt := 40) hx hb dX3_turn_30 (by decide) (fun c_5 => ?_) (fun c_5 => ?_)
        · refine lv_aload_n hx hb dX3_turn_40 rfl (lv_at hl 0 rfl) ?_
          refine lv_iload_n hx hb dX3_turn_41 rfl (lv_at hl 1 rfl) ?_
          refine zw_cV (r := (20, 0, 0)) (As := [.int p0]) (rest := []) (st1 := [.int (σ (0, 0, 0) 2 + σ (2, 0, 0) p0.toNatClampNeg)]) ⟨hx, hb, hml, hown, hts⟩ (cm_place (σ := σ) hM p0 h_1) (cwV 1 hts gX3_turn_X3_place rfl rfl rfl (by decide +kernel) ⟨Nat.le_of_ble_eq_true rfl, Nat.le_of_ble_eq_true rfl⟩) (hM 0 (by decide)) rfl rfl rfl hK hP hD hS hA hN rfl hl.1 rfl (Nat.le_of_ble_eq_true rfl) rfl dX3_turn_42 ⟨Nat.zero_le _, Nat.zero_le _⟩ (fun H locs hP hD hS => ?_)
          refine lv_istore_n (lv' := [(3, .int (σ (0, 0, 0) 2 + σ (2, 0, 0) p0.toNatClampNeg)), (0, .ref (ad (20, 0, 0))), (1, .int p0), (2, .int p1)]) hx hb dX3_turn_45 rfl hl (by decide) rfl (fun ls hl => ?_)
          refine lv_iconst (v := 0) hx hb dX3_turn_46 (by decide) ?_
          refine lv_istore (lv' := [(4, .int 0), (3, .int (σ (0, 0, 0) 2 + σ (2, 0, 0) p0.toNatClampNeg)), (0, .ref (ad (20, 0, 0))), (1, .int p0), (2, .int p1)]) hx hb dX3_turn_47 hl (by decide) rfl (fun ls hl => ?_)
          have h0 : (0 : Int32) ≤ p1 := Int32.not_lt.mp c_3
          have eN : p1 / 2 = nI (p1.toNatClampNeg / 2) := (ze_half h0 c_4).1
          have hNb := ze_nb (n := 64) rfl h0 c_4
          have key : ∀ (mm j : Nat) (k : Int32) (τ : sp_S) (H : Heap) (locs : List Loc) (ls : Array Slot), k = nI j → j + mm = (p1.toNatClampNeg / 2) → sp_turn nr len σ p0 p1 = sp_ul len (σ (0, 0, 0) 1).toNatClampNeg p0.toNatClampNeg (σ (0, 0, 0) 2 + σ (2, 0, 0) p0.toNatClampNeg) ((σ (0, 0, 0) 2 + σ (2, 0, 0) p0.toNatClampNeg) + p1 - 1) mm k τ → (sp_F τ ∧ τ (0, 0, 0) 1 = σ (0, 0, 0) 1) → va_P (ze_E dC dI cA).1 (ze_E dC dI cA).2.1 (zw_l ad R (ze_X cD (ze_M cA ad len τ))) H → va_D A (zw_l ad R (ze_X cD (ze_M cA ad len τ))) → va_S A s.heap H locs → lv_has ls 9 [(4, .int k), (3, .int (σ (0, 0, 0) 2 + σ (2, 0, 0) p0.toNatClampNeg)), (0, .ref (ad (20, 0, 0))), (1, .int p0), (2, .int p1)] → W p l e ({ frames := 2, cells := 0, slots := 0, locals := 45 } : Room) s m [Value.ref (ad (20, 0, 0)), Value.int p0, Value.int p1].toArray below meth c H locs 0 0 (MQ below (zw_Q (some (.int (sp_turn nr len σ p0 p1).1)) (zw_B (ze_E dC dI cA) A ad R (ze_X cD (ze_M cA ad len (sp_turn nr len σ p0 p1).2))) A) [Value.ref (ad (20, 0, 0)), Value.int p0, Value.int p1].toArray s 0 0 A) (F0 m 49 ls []) := by
            intro mm
            induction mm with
            | zero =>
              intro j k τ H locs ls hk hj hE hJ hP hD hS hl
              have hge : (p1 / 2) ≤ k := by rw [hk, eN]; exact nI_le (by omega) (by omega)
              refine lv_iload hx hb dX3_turn_49 (lv_at hl 0 rfl) ?_
              refine lv_iload_n hx hb dX3_turn_51 rfl (lv_at hl 4 rfl) ?_
              refine lv_iconst (v := 2) hx hb dX3_turn_52 (by decide) ?_
              refine lv_idiv hx hb dX3_turn_53 (by decide) ?_
              refine lv_icmp_ge (tgt := 182) hx hb dX3_turn_54 (by decide) (fun c_6 => ?_) (fun c_6 => absurd hge c_6)
              refine lv_aload_n hx hb dX3_turn_182 rfl (lv_at hl 2 rfl) ?_
              refine lv_iload_n hx hb dX3_turn_183 rfl (lv_at hl 4 rfl) ?_
              refine lv_iconst (v := 2) hx hb dX3_turn_184 (by decide) ?_
              refine lv_idiv hx hb dX3_turn_185 (by decide) ?_
              refine zw_cV (r := (20, 0, 0)) (As := [.int (p1 / 2)]) (rest := []) (st1 := [.int (p1 / 2)]) ⟨hx, hb, hml, hown, hts⟩ (cm_done (σ := τ) hM (p1 / 2)) (cwV 1 hts gX3_turn_X3_done rfl rfl rfl (by decide +kernel) ⟨Nat.le_of_ble_eq_true rfl, Nat.le_of_ble_eq_true rfl⟩) (hM 0 (by decide)) rfl rfl rfl hK hP hD hS hA hN rfl hl.1 rfl (Nat.le_of_ble_eq_true rfl) rfl dX3_turn_186 ⟨Nat.zero_le _, Nat.zero_le _⟩ (fun H locs hP hD hS => ?_)
              exact zw_iret hx hb hr hlk hK hP hD hS dX3_turn_189 (by rw [hE]; simp only [sp_ul]; rw [hk, show j = (p1.toNatClampNeg / 2) by omega, ← eN]) (by rw [hE]; simp only [sp_ul] <;> rfl)
            | succ mm ih =>
              intro j k τ H locs ls hk hj hE hJ hP hD hS hl
              have hlt : ¬ (p1 / 2) ≤ k := by rw [hk, eN]; exact nI_ge (by omega) (by omega)
              refine lv_iload hx hb dX3_turn_49 (lv_at hl 0 rfl) ?_
              refine lv_iload_n hx hb dX3_turn_51 rfl (lv_at hl 4 rfl) ?_
              refine lv_iconst (v := 2) hx hb dX3_turn_52 (by decide) ?_
              refine lv_idiv hx hb dX3_turn_53 (by decide) ?_
              refine lv_icmp_ge (tgt := 182) hx hb dX3_turn_54 (by decide) (fun c_7 => absurd c_7 hlt) (fun c_7 => ?_)
              refine lv_aload_n hx hb dX3_turn_57 rfl (lv_at hl 2 rfl) ?_
              refine lv_aload_n hx hb dX3_turn_58 rfl (lv_at hl 2 rfl) ?_
              refine zw_getf (r := (20, 0, 0)) (v := .int (σ (0, 0, 0) 1)) (C := RX3) (T := TX3) (N := 17) (ci := 3) hx hb hts hwX3 hown hK hP (hM 0 (by decide)) rfl rfl 4 (by decide) (hts (.fieldLink RX3 19 "FourTrackDeckModel" "onDeck" "I") (by decide +kernel)) (fun _ h9 => h9) (show some (Value.int (τ (0, 0, 0) 1)) = some (Value.int (σ (0, 0, 0) 1)) by rw [hJ.2]) dX3_turn_59 ?_
              refine lv_iload_n hx hb dX3_turn_62 rfl (lv_at hl 3 rfl) ?_
              refine lv_iload_n hx hb dX3_turn_63 rfl (lv_at hl 1 rfl) ?_
              refine lv_iload hx hb dX3_turn_64 (lv_at hl 0 rfl) ?_
              refine lv_iadd hx hb dX3_turn_66 ?_
              refine zw_cV (r := (20, 0, 0)) (As := [.int (σ (0, 0, 0) 1), .int p0, .int ((σ (0, 0, 0) 2 + σ (2, 0, 0) p0.toNatClampNeg) + k)]) (rest := []) (st1 := [.int (sp_f len τ (σ (0, 0, 0) 1).toNatClampNeg p0.toNatClampNeg ((σ (0, 0, 0) 2 + σ (2, 0, 0) p0.toNatClampNeg) + k))]) ⟨hx, hb, hml, hown, hts⟩ (cm_fault (σ := τ) hM hnr (σ (0, 0, 0) 1) p0 ((σ (0, 0, 0) 2 + σ (2, 0, 0) p0.toNatClampNeg) + k) (hod.resolve_left c_5) h_1) (cwV 3 hts gX3_turn_X3_fault rfl rfl rfl (by decide +kernel) ⟨Nat.le_of_ble_eq_true rfl, Nat.le_of_ble_eq_true rfl⟩) (hM 0 (by decide)) rfl rfl rfl hK hP hD hS hA hN rfl hl.1 rfl (Nat.le_of_ble_eq_true rfl) rfl dX3_turn_67 ⟨Nat.zero_le _, Nat.zero_le _⟩ (fun H locs hP hD hS => ?_)
              refine lv_istore (lv' := [(5, .int (sp_f len τ (σ (0, 0, 0) 1).toNatClampNeg p0.toNatClampNeg ((σ (0, 0, 0) 2 + σ (2, 0, 0) p0.toNatClampNeg) + k))), (4, .int k), (3, .int (σ (0, 0, 0) 2 + σ (2, 0, 0) p0.toNatClampNeg)), (0, .ref (ad (20, 0, 0))), (1, .int p0), (2, .int p1)]) hx hb dX3_turn_70 hl (by decide) rfl (fun ls hl => ?_)
              refine lv_iload hx hb dX3_turn_72 (lv_at hl 0 rfl) ?_
              refine lv_if_ne (tgt := 96) hx hb dX3_turn_74 (by decide) (fun c_8 => ?_) (fun c_8 => ?_)
              · refine lv_iload hx hb dX3_turn_96 (lv_at hl 0 rfl) ?_
                refine lv_if_eq (tgt := 110) hx hb dX3_turn_98 (by decide) (fun c_9 => absurd c_9 c_8) (fun c_9 => ?_)
                refine lv_aload_n hx hb dX3_turn_101 rfl (lv_at hl 3 rfl) ?_
                refine lv_iload hx hb dX3_turn_102 (lv_at hl 0 rfl) ?_
                refine lv_iload hx hb dX3_turn_104 (lv_at hl 1 rfl) ?_
                refine zw_cV (r := (20, 0, 0)) (As := [.int (sp_f len τ (σ (0, 0, 0) 1).toNatClampNeg p0.toNatClampNeg ((σ (0, 0, 0) 2 + σ (2, 0, 0) p0.toNatClampNeg) + k)), .int k]) (rest := []) (st1 := [.int k]) ⟨hx, hb, hml, hown, hts⟩ (cm_fails (σ := τ) hM (sp_f len τ (σ (0, 0, 0) 1).toNatClampNeg p0.toNatClampNeg ((σ (0, 0, 0) 2 + σ (2, 0, 0) p0.toNatClampNeg) + k)) k) (cwV 2 hts gX3_turn_X3_fails rfl rfl rfl (by decide +kernel) ⟨Nat.le_of_ble_eq_true rfl, Nat.le_of_ble_eq_true rfl⟩) (hM 0 (by decide)) rfl rfl rfl hK hP hD hS hA hN rfl hl.1 rfl (Nat.le_of_ble_eq_true rfl) rfl dX3_turn_106 ⟨Nat.zero_le _, Nat.zero_le _⟩ (fun H locs hP hD hS => ?_)
                exact zw_iret hx hb hr hlk hK hP hD hS dX3_turn_109 (by rw [hE]; simp only [sp_ul, if_neg c_8] <;> rfl) (by rw [hE]; simp only [sp_ul, if_neg c_8] <;> rfl)
              · refine lv_aload_n hx hb dX3_turn_77 rfl (lv_at hl 3 rfl) ?_
                refine lv_aload_n hx hb dX3_turn_78 rfl (lv_at hl 3 rfl) ?_
                refine zw_getf (r := (20, 0, 0)) (v := .int (σ (0, 0, 0) 1)) (C := RX3) (T := TX3) (N := 17) (ci := 3) hx hb hts hwX3 hown hK hP (hM 0 (by decide)) rfl rfl 4 (by decide) (hts (.fieldLink RX3 19 "FourTrackDeckModel" "onDeck" "I") (by decide +kernel)) (fun _ h9 => h9) (show some (Value.int (τ (0, 0, 0) 1)) = some (Value.int (σ (0, 0, 0) 1)) by rw [hJ.2]) dX3_turn_79 ?_
                refine lv_iload_n hx hb dX3_turn_82 rfl (lv_at hl 4 rfl) ?_
                refine lv_iload_n hx hb dX3_turn_83 rfl (lv_at hl 2 rfl) ?_
                refine lv_iload_n hx hb dX3_turn_84 rfl (lv_at hl 5 rfl) ?_
                refine lv_iadd hx hb dX3_turn_85 ?_
                refine lv_iconst (v := 1) hx hb dX3_turn_86 (by decide) ?_
                refine lv_isub hx hb dX3_turn_87 ?_
                refine lv_iload hx hb dX3_turn_88 (lv_at hl 1 rfl) ?_
                refine lv_isub hx hb dX3_turn_90 ?_
                refine zw_cV (r := (20, 0, 0)) (As := [.int (σ (0, 0, 0) 1), .int p0, .int ((((σ (0, 0, 0) 2 + σ (2, 0, 0) p0.toNatClampNeg) + p1) - 1) - k)]) (rest := []) (st1 := [.int (sp_f len τ (σ (0, 0, 0) 1).toNatClampNeg p0.toNatClampNeg ((((σ (0, 0, 0) 2 + σ (2, 0, 0) p0.toNatClampNeg) + p1) - 1) - k))]) ⟨hx, hb, hml, hown, hts⟩ (cm_fault (σ := τ) hM hnr (σ (0, 0, 0) 1) p0 ((((σ (0, 0, 0) 2 + σ (2, 0, 0) p0.toNatClampNeg) + p1) - 1) - k) (hod.resolve_left c_5) h_1) (cwV 3 hts gX3_turn_X3_fault rfl rfl rfl (by decide +kernel) ⟨Nat.le_of_ble_eq_true rfl, Nat.le_of_ble_eq_true rfl⟩) (hM 0 (by decide)) rfl rfl rfl hK hP hD hS hA hN rfl hl.1 rfl (Nat.le_of_ble_eq_true rfl) rfl dX3_turn_91 ⟨Nat.zero_le _, Nat.zero_le _⟩ (fun H locs hP hD hS => ?_)
                refine lv_istore (lv' := [(5, .int (sp_f len τ (σ (0, 0, 0) 1).toNatClampNeg p0.toNatClampNeg ((((σ (0, 0, 0) 2 + σ (2, 0, 0) p0.toNatClampNeg) + p1) - 1) - k))), (4, .int k), (3, .int (σ (0, 0, 0) 2 + σ (2, 0, 0) p0.toNatClampNeg)), (0, .ref (ad (20, 0, 0))), (1, .int p0), (2, .int p1)]) hx hb dX3_turn_94 hl (by decide) rfl (fun ls hl => ?_)
                refine lv_iload hx hb dX3_turn_96 (lv_at hl 0 rfl) ?_
                refine lv_if_eq (tgt := 110) hx hb dX3_turn_98 (by decide) (fun c_10 => ?_) (fun c_10 => ?_)
                · refine lv_aload_n hx hb dX3_turn_110 rfl (lv_at hl 3 rfl) ?_
                  refine lv_aload_n hx hb dX3_turn_111 rfl (lv_at hl 3 rfl) ?_
                  refine zw_getf (r := (20, 0, 0)) (v := .int (σ (0, 0, 0) 1)) (C := RX3) (T := TX3) (N := 17) (ci := 3) hx hb hts hwX3 hown hK hP (hM 0 (by decide)) rfl rfl 4 (by decide) (hts (.fieldLink RX3 19 "FourTrackDeckModel" "onDeck" "I") (by decide +kernel)) (fun _ h9 => h9) (show some (Value.int (τ (0, 0, 0) 1)) = some (Value.int (σ (0, 0, 0) 1)) by rw [hJ.2]) dX3_turn_112 ?_
                  refine lv_iload_n hx hb dX3_turn_115 rfl (lv_at hl 4 rfl) ?_
                  refine lv_iload_n hx hb dX3_turn_116 rfl (lv_at hl 2 rfl) ?_
                  refine lv_iload hx hb dX3_turn_117 (lv_at hl 1 rfl) ?_
                  refine lv_iadd hx hb dX3_turn_119 ?_
                  refine zw_cV (r := (20, 0, 0)) (As := [.int (σ (0, 0, 0) 1), .int p0, .int ((σ (0, 0, 0) 2 + σ (2, 0, 0) p0.toNatClampNeg) + k)]) (rest := []) (st1 := [.int ((4 * (σ (0, 0, 0) 1) + p0) * 64 + ((σ (0, 0, 0) 2 + σ (2, 0, 0) p0.toNatClampNeg) + k))]) ⟨hx, hb, hml, hown, hts⟩ (cm_at (σ := τ) (σ (0, 0, 0) 1) p0 ((σ (0, 0, 0) 2 + σ (2, 0, 0) p0.toNatClampNeg) + k)) (cwV 3 hts gX3_turn_X3_at rfl rfl rfl (by decide +kernel) ⟨Nat.le_of_ble_eq_true rfl, Nat.le_of_ble_eq_true rfl⟩) (hM 0 (by decide)) rfl rfl rfl hK hP hD hS hA hN rfl hl.1 rfl (Nat.le_of_ble_eq_true rfl) rfl dX3_turn_120 ⟨Nat.zero_le _, Nat.zero_le _⟩ (fun H locs hP hD hS => ?_)
                  refine lv_istore (lv' := [(6, .int ((4 * (σ (0, 0, 0) 1) + p0) * 64 + ((σ (0, 0, 0) 2 + σ (2, 0, 0) p0.toNatClampNeg) + k))), (5, .int (sp_f len τ (σ (0, 0, 0) 1).toNatClampNeg p0.toNatClampNeg ((((σ (0, 0, 0) 2 + σ (2, 0, 0) p0.toNatClampNeg) + p1) - 1) - k))), (4, .int k), (3, .int (σ (0, 0, 0) 2 + σ (2, 0, 0) p0.toNatClampNeg)), (0, .ref (ad (20, 0, 0))), (1, .int p0), (2, .int p1)]) hx hb dX3_turn_123 hl (by decide) rfl (fun ls hl => ?_)
                  refine lv_aload_n hx hb dX3_turn_125 rfl (lv_at hl 4 rfl) ?_
                  refine lv_aload_n hx hb dX3_turn_126 rfl (lv_at hl 4 rfl) ?_
                  refine zw_getf (r := (20, 0, 0)) (v := .int (σ (0, 0, 0) 1)) (C := RX3) (T := TX3) (N := 17) (ci := 3) hx hb hts hwX3 hown hK hP (hM 0 (by decide)) rfl rfl 4 (by decide) (hts (.fieldLink RX3 19 "FourTrackDeckModel" "onDeck" "I") (by decide +kernel)) (fun _ h9 => h9) (show some (Value.int (τ (0, 0, 0) 1)) = some (Value.int (σ (0, 0, 0) 1)) by rw [hJ.2]) dX3_turn_127 ?_
                  refine lv_iload_n hx hb dX3_turn_130 rfl (lv_at hl 5 rfl) ?_
                  refine lv_iload_n hx hb dX3_turn_131 rfl (lv_at hl 3 rfl) ?_
                  refine lv_iload_n hx hb dX3_turn_132 rfl (lv_at hl 6 rfl) ?_
                  refine lv_iadd hx hb dX3_turn_133 ?_
                  refine lv_iconst (v := 1) hx hb dX3_turn_134 (by decide) ?_
                  refine lv_isub hx hb dX3_turn_135 ?_
                  refine lv_iload hx hb dX3_turn_136 (lv_at hl 2 rfl) ?_
                  refine lv_isub hx hb dX3_turn_138 ?_
                  refine zw_cV (r := (20, 0, 0)) (As := [.int (σ (0, 0, 0) 1), .int p0, .int ((((σ (0, 0, 0) 2 + σ (2, 0, 0) p0.toNatClampNeg) + p1) - 1) - k)]) (rest := []) (st1 := [.int ((4 * (σ (0, 0, 0) 1) + p0) * 64 + ((((σ (0, 0, 0) 2 + σ (2, 0, 0) p0.toNatClampNeg) + p1) - 1) - k))]) ⟨hx, hb, hml, hown, hts⟩ (cm_at (σ := τ) (σ (0, 0, 0) 1) p0 ((((σ (0, 0, 0) 2 + σ (2, 0, 0) p0.toNatClampNeg) + p1) - 1) - k)) (cwV 3 hts gX3_turn_X3_at rfl rfl rfl (by decide +kernel) ⟨Nat.le_of_ble_eq_true rfl, Nat.le_of_ble_eq_true rfl⟩) (hM 0 (by decide)) rfl rfl rfl hK hP hD hS hA hN rfl hl.1 rfl (Nat.le_of_ble_eq_true rfl) rfl dX3_turn_139 ⟨Nat.zero_le _, Nat.zero_le _⟩ (fun H locs hP hD hS => ?_)
                  refine lv_istore (lv' := [(7, .int ((4 * (σ (0, 0, 0) 1) + p0) * 64 + ((((σ (0, 0, 0) 2 + σ (2, 0, 0) p0.toNatClampNeg) + p1) - 1) - k))), (6, .int ((4 * (σ (0, 0, 0) 1) + p0) * 64 + ((σ (0, 0, 0) 2 + σ (2, 0, 0) p0.toNatClampNeg) + k))), (5, .int (sp_f len τ (σ (0, 0, 0) 1).toNatClampNeg p0.toNatClampNeg ((((σ (0, 0, 0) 2 + σ (2, 0, 0) p0.toNatClampNeg) + p1) - 1) - k))), (4, .int k), (3, .int (σ (0, 0, 0) 2 + σ (2, 0, 0) p0.toNatClampNeg)), (0, .ref (ad (20, 0, 0))), (1, .int p0), (2, .int p1)]) hx hb dX3_turn_142 hl (by decide) rfl (fun ls hl => ?_)
                  refine lv_aload_n hx hb dX3_turn_144 rfl (lv_at hl 5 rfl) ?_
                  refine zw_getf (r := (20, 0, 0)) (v := .ref (ad (23, 0, 0))) (C := RX3) (T := TX3) (N := 17) (ci := 3) hx hb hts hwX3 hown hK hP (hM 0 (by decide)) rfl rfl 3 (by decide) (hts (.fieldLink RX3 16 "FourTrackDeckModel" "number" "[I") (by decide +kernel)) (fun _ h9 => h9) rfl dX3_turn_145 ?_
                  refine lv_iload hx hb dX3_turn_148 (lv_at hl 1 rfl) ?_
                  refine zw_ialdv (r := (23, 0, 0)) (v := (τ (9, (σ (0, 0, 0) 1).toNatClampNeg, p0.toNatClampNeg) ((σ (0, 0, 0) 2 + σ (2, 0, 0) p0.toNatClampNeg) + k).toNatClampNeg)) hx hb hK hP (hM 3 (by decide)) 0 rfl rfl (zm_at (hod.resolve_left c_5) hnr h_1 (ze_fi (hlen _ (ze_vr (hod.resolve_left c_5) hnr)) c_8) (hlen _ (ze_vr (hod.resolve_left c_5) hnr))).2.1 (zm_rd (hod.resolve_left c_5) hnr h_1 (ze_fi (hlen _ (ze_vr (hod.resolve_left c_5) hnr)) c_8) (hlen _ (ze_vr (hod.resolve_left c_5) hnr))) dX3_turn_150 ?_
                  refine lv_istore (lv' := [(8, .int (τ (9, (σ (0, 0, 0) 1).toNatClampNeg, p0.toNatClampNeg) ((σ (0, 0, 0) 2 + σ (2, 0, 0) p0.toNatClampNeg) + k).toNatClampNeg)), (7, .int ((4 * (σ (0, 0, 0) 1) + p0) * 64 + ((((σ (0, 0, 0) 2 + σ (2, 0, 0) p0.toNatClampNeg) + p1) - 1) - k))), (6, .int ((4 * (σ (0, 0, 0) 1) + p0) * 64 + ((σ (0, 0, 0) 2 + σ (2, 0, 0) p0.toNatClampNeg) + k))), (5, .int (sp_f len τ (σ (0, 0, 0) 1).toNatClampNeg p0.toNatClampNeg ((((σ (0, 0, 0) 2 + σ (2, 0, 0) p0.toNatClampNeg) + p1) - 1) - k))), (4, .int k), (3, .int (σ (0, 0, 0) 2 + σ (2, 0, 0) p0.toNatClampNeg)), (0, .ref (ad (20, 0, 0))), (1, .int p0), (2, .int p1)]) hx hb dX3_turn_151 hl (by decide) rfl (fun ls hl => ?_)
                  refine lv_aload_n hx hb dX3_turn_153 rfl (lv_at hl 6 rfl) ?_
                  refine zw_getf (r := (20, 0, 0)) (v := .ref (ad (23, 0, 0))) (C := RX3) (T := TX3) (N := 17) (ci := 3) hx hb hts hwX3 hown hK hP (hM 0 (by decide)) rfl rfl 3 (by decide) (hts (.fieldLink RX3 16 "FourTrackDeckModel" "number" "[I") (by decide +kernel)) (fun _ h9 => h9) rfl dX3_turn_154 ?_
                  refine lv_iload hx hb dX3_turn_157 (lv_at hl 2 rfl) ?_
                  refine lv_aload_n hx hb dX3_turn_159 rfl (lv_at hl 6 rfl) ?_
                  refine zw_getf (r := (20, 0, 0)) (v := .ref (ad (23, 0, 0))) (C := RX3) (T := TX3) (N := 17) (ci := 3) hx hb hts hwX3 hown hK hP (hM 0 (by decide)) rfl rfl 3 (by decide) (hts (.fieldLink RX3 16 "FourTrackDeckModel" "number" "[I") (by decide +kernel)) (fun _ h9 => h9) rfl dX3_turn_160 ?_
                  refine lv_iload hx hb dX3_turn_163 (lv_at hl 1 rfl) ?_
                  refine zw_ialdv (r := (23, 0, 0)) (v := (τ (9, (σ (0, 0, 0) 1).toNatClampNeg, p0.toNatClampNeg) ((((σ (0, 0, 0) 2 + σ (2, 0, 0) p0.toNatClampNeg) + p1) - 1) - k).toNatClampNeg)) hx hb hK hP (hM 3 (by decide)) 0 rfl rfl (zm_at (hod.resolve_left c_5) hnr h_1 (ze_fi (hlen _ (ze_vr (hod.resolve_left c_5) hnr)) c_10) (hlen _ (ze_vr (hod.resolve_left c_5) hnr))).2.1 (zm_rd (hod.resolve_left c_5) hnr h_1 (ze_fi (hlen _ (ze_vr (hod.resolve_left c_5) hnr)) c_10) (hlen _ (ze_vr (hod.resolve_left c_5) hnr))) dX3_turn_165 ?_
                  refine zw_iast (r := (23, 0, 0)) hx hb hK hP hD hS (hM 3 (by decide)) 0 rfl rfl (zm_at (hod.resolve_left c_5) hnr h_1 (ze_fi (hlen _ (ze_vr (hod.resolve_left c_5) hnr)) c_8) (hlen _ (ze_vr (hod.resolve_left c_5) hnr))).2.1 dX3_turn_166 (cu1 := ze_X cD (ze_M cA ad len (sp_s τ (9, (σ (0, 0, 0) 1).toNatClampNeg, p0.toNatClampNeg) ((σ (0, 0, 0) 2 + σ (2, 0, 0) p0.toNatClampNeg) + k).toNatClampNeg (τ (9, (σ (0, 0, 0) 1).toNatClampNeg, p0.toNatClampNeg) ((((σ (0, 0, 0) 2 + σ (2, 0, 0) p0.toNatClampNeg) + p1) - 1) - k).toNatClampNeg)))) (zm_N (zm_at (hod.resolve_left c_5) hnr h_1 (ze_fi (hlen _ (ze_vr (hod.resolve_left c_5) hnr)) c_8) (hlen _ (ze_vr (hod.resolve_left c_5) hnr))).1 (ze_vt h_1) (zm_at (hod.resolve_left c_5) hnr h_1 (ze_fi (hlen _ (ze_vr (hod.resolve_left c_5) hnr)) c_8) (hlen _ (ze_vr (hod.resolve_left c_5) hnr))).2.2) (fun H locs hP hD hS => ?_)
                  refine lv_aload_n hx hb dX3_turn_167 rfl (lv_at hl 6 rfl) ?_
                  refine zw_getf (r := (20, 0, 0)) (v := .ref (ad (23, 0, 0))) (C := RX3) (T := TX3) (N := 17) (ci := 3) hx hb hts hwX3 hown hK hP (hM 0 (by decide)) rfl rfl 3 (by decide) (hts (.fieldLink RX3 16 "FourTrackDeckModel" "number" "[I") (by decide +kernel)) (fun _ h9 => h9) rfl dX3_turn_168 ?_
                  refine lv_iload hx hb dX3_turn_171 (lv_at hl 1 rfl) ?_
                  refine lv_iload hx hb dX3_turn_173 (lv_at hl 0 rfl) ?_
                  refine zw_iast (r := (23, 0, 0)) hx hb hK hP hD hS (hM 3 (by decide)) 0 rfl rfl (zm_at (hod.resolve_left c_5) hnr h_1 (ze_fi (hlen _ (ze_vr (hod.resolve_left c_5) hnr)) c_10) (hlen _ (ze_vr (hod.resolve_left c_5) hnr))).2.1 dX3_turn_175 (cu1 := ze_X cD (ze_M cA ad len (sp_s (sp_s τ (9, (σ (0, 0, 0) 1).toNatClampNeg, p0.toNatClampNeg) ((σ (0, 0, 0) 2 + σ (2, 0, 0) p0.toNatClampNeg) + k).toNatClampNeg (τ (9, (σ (0, 0, 0) 1).toNatClampNeg, p0.toNatClampNeg) ((((σ (0, 0, 0) 2 + σ (2, 0, 0) p0.toNatClampNeg) + p1) - 1) - k).toNatClampNeg)) (9, (σ (0, 0, 0) 1).toNatClampNeg, p0.toNatClampNeg) ((((σ (0, 0, 0) 2 + σ (2, 0, 0) p0.toNatClampNeg) + p1) - 1) - k).toNatClampNeg (τ (9, (σ (0, 0, 0) 1).toNatClampNeg, p0.toNatClampNeg) ((σ (0, 0, 0) 2 + σ (2, 0, 0) p0.toNatClampNeg) + k).toNatClampNeg)))) (zm_N (zm_at (hod.resolve_left c_5) hnr h_1 (ze_fi (hlen _ (ze_vr (hod.resolve_left c_5) hnr)) c_10) (hlen _ (ze_vr (hod.resolve_left c_5) hnr))).1 (ze_vt h_1) (zm_at (hod.resolve_left c_5) hnr h_1 (ze_fi (hlen _ (ze_vr (hod.resolve_left c_5) hnr)) c_10) (hlen _ (ze_vr (hod.resolve_left c_5) hnr))).2.2) (fun H locs hP hD hS => ?_)
                  refine lv_iinc (v := (k + 1)) (lv' := [(4, .int (k + 1)), (8, .int (τ (9, (σ (0, 0, 0) 1).toNatClampNeg, p0.toNatClampNeg) ((σ (0, 0, 0) 2 + σ (2, 0, 0) p0.toNatClampNeg) + k).toNatClampNeg)), (7, .int ((4 * (σ (0, 0, 0) 1) + p0) * 64 + ((((σ (0, 0, 0) 2 + σ (2, 0, 0) p0.toNatClampNeg) + p1) - 1) - k))), (6, .int ((4 * (σ (0, 0, 0) 1) + p0) * 64 + ((σ (0, 0, 0) 2 + σ (2, 0, 0) p0.toNatClampNeg) + k))), (5, .int (sp_f len τ (σ (0, 0, 0) 1).toNatClampNeg p0.toNatClampNeg ((((σ (0, 0, 0) 2 + σ (2, 0, 0) p0.toNatClampNeg) + p1) - 1) - k))), (3, .int (σ (0, 0, 0) 2 + σ (2, 0, 0) p0.toNatClampNeg)), (0, .ref (ad (20, 0, 0))), (1, .int p0), (2, .int p1)]) hx hb dX3_turn_176 hl (k := 4) rfl rfl (by decide) rfl (fun ls hl => ?_)
                  refine lv_goto (tgt := 49) hx hb dX3_turn_179 (by decide) ?_
                  exact ih (j + 1) (k + 1) (sp_s (sp_s τ (9, (σ (0, 0, 0) 1).toNatClampNeg, p0.toNatClampNeg) ((σ (0, 0, 0) 2 + σ (2, 0, 0) p0.toNatClampNeg) + k).toNatClampNeg (τ (9, (σ (0, 0, 0) 1).toNatClampNeg, p0.toNatClampNeg) ((((σ (0, 0, 0) 2 + σ (2, 0, 0) p0.toNatClampNeg) + p1) - 1) - k).toNatClampNeg)) (9, (σ (0, 0, 0) 1).toNatClampNeg, p0.toNatClampNeg) ((((σ (0, 0, 0) 2 + σ (2, 0, 0) p0.toNatClampNeg) + p1) - 1) - k).toNatClampNeg (τ (9, (σ (0, 0, 0) 1).toNatClampNeg, p0.toNatClampNeg) ((σ (0, 0, 0) 2 + σ (2, 0, 0) p0.toNatClampNeg) + k).toNatClampNeg)) _ _ _ (by rw [hk, nI_1]) (by omega) (hE.trans (by simp only [sp_ul, if_pos c_8, if_pos c_10]; rw [sp_ex hJ.1 c_8 c_10])) ⟨(by rw [← sp_ex hJ.1 c_8 c_10]; exact sp_F_put (sp_F_put hJ.1)), hJ.2⟩ hP hD hS (lv_sub hl [0, 5, 6, 7, 8] rfl)
                · refine lv_aload_n hx hb dX3_turn_101 rfl (lv_at hl 3 rfl) ?_
                  refine lv_iload hx hb dX3_turn_102 (lv_at hl 0 rfl) ?_
                  refine lv_iload hx hb dX3_turn_104 (lv_at hl 1 rfl) ?_
                  refine zw_cV (r := (20, 0, 0)) (As := [.int (sp_f len τ (σ (0, 0, 0) 1).toNatClampNeg p0.toNatClampNeg ((((σ (0, 0, 0) 2 + σ (2, 0, 0) p0.toNatClampNeg) + p1) - 1) - k)), .int k]) (rest := []) (st1 := [.int k]) ⟨hx, hb, hml, hown, hts⟩ (cm_fails (σ := τ) hM (sp_f len τ (σ (0, 0, 0) 1).toNatClampNeg p0.toNatClampNeg ((((σ (0, 0, 0) 2 + σ (2, 0, 0) p0.toNatClampNeg) + p1) - 1) - k)) k) (cwV 2 hts gX3_turn_X3_fails rfl rfl rfl (by decide +kernel) ⟨Nat.le_of_ble_eq_true rfl, Nat.le_of_ble_eq_true rfl⟩) (hM 0 (by decide)) rfl rfl rfl hK hP hD hS hA hN rfl hl.1 rfl (Nat.le_of_ble_eq_true rfl) rfl dX3_turn_106 ⟨Nat.zero_le _, Nat.zero_le _⟩ (fun H locs hP hD hS => ?_)
                  exact zw_iret hx hb hr hlk hK hP hD hS dX3_turn_109 (by rw [hE]; simp only [sp_ul, if_pos c_8, if_neg c_10] <;> rfl) (by rw [hE]; simp only [sp_ul, if_pos c_8, if_neg c_10] <;> rfl)
          exact key (p1.toNatClampNeg / 2) 0 0 σ _ _ _ nI_0.symm (by omega) (by simp only [sp_turn, if_pos h_1, if_neg c_3, if_pos c_4, if_neg c_5, if_pos (show sp_w p1 0 64 from ⟨Int32.not_lt.mp c_3, c_4⟩), if_pos (show sp_v nr (σ (0, 0, 0) 1) p0 from ⟨hod.resolve_left c_5, h_1⟩)] <;> rfl) ⟨hF, rfl⟩ hP hD hS hl
        · refine lv_aload_n hx hb dX3_turn_33 rfl (lv_at hl 0 rfl) ?_
          refine lv_iconst (v := 5) hx hb dX3_turn_34 (by decide) ?_
          refine lv_iconst (v := 0) hx hb dX3_turn_35 (by decide) ?_
          refine zw_cV (r := (20, 0, 0)) (As := [.int 5, .int 0]) (rest := []) (st1 := [.int 0]) ⟨hx, hb, hml, hown, hts⟩ (cm_fails (σ := σ) hM 5 0) (cwV 2 hts gX3_turn_X3_fails rfl rfl rfl (by decide +kernel) ⟨Nat.le_of_ble_eq_true rfl, Nat.le_of_ble_eq_true rfl⟩) (hM 0 (by decide)) rfl rfl rfl hK hP hD hS hA hN rfl hl.1 rfl (Nat.le_of_ble_eq_true rfl) rfl dX3_turn_36 ⟨Nat.zero_le _, Nat.zero_le _⟩ (fun H locs hP hD hS => ?_)
          exact zw_iret hx hb hr hlk hK hP hD hS dX3_turn_39 (by simp only [sp_turn, if_pos (show sp_w p1 0 64 from ⟨Int32.not_lt.mp c_3, c_4⟩), if_neg (show ¬ sp_v nr (σ (0, 0, 0) 1) p0 from fun q => ze_rn q.1 c_5), if_pos h_1, if_neg c_3, if_pos c_4, if_pos c_5, ite_self] <;> rfl) (by simp only [sp_turn, if_pos (show sp_w p1 0 64 from ⟨Int32.not_lt.mp c_3, c_4⟩), if_neg (show ¬ sp_v nr (σ (0, 0, 0) 1) p0 from fun q => ze_rn q.1 c_5), if_pos h_1, if_neg c_3, if_pos c_4, if_pos c_5, ite_self] <;> rfl)
      · refine lv_aload_n hx hb dX3_turn_18 rfl (lv_at hl 0 rfl) ?_
        refine lv_iconst (v := 1) hx hb dX3_turn_19 (by decide) ?_
        refine lv_iconst (v := 0) hx hb dX3_turn_20 (by decide) ?_
        refine zw_cV (r := (20, 0, 0)) (As := [.int 1, .int 0]) (rest := []) (st1 := [.int 0]) ⟨hx, hb, hml, hown, hts⟩ (cm_fails (σ := σ) hM 1 0) (cwV 2 hts gX3_turn_X3_fails rfl rfl rfl (by decide +kernel) ⟨Nat.le_of_ble_eq_true rfl, Nat.le_of_ble_eq_true rfl⟩) (hM 0 (by decide)) rfl rfl rfl hK hP hD hS hA hN rfl hl.1 rfl (Nat.le_of_ble_eq_true rfl) rfl dX3_turn_21 ⟨Nat.zero_le _, Nat.zero_le _⟩ (fun H locs hP hD hS => ?_)
        exact zw_iret hx hb hr hlk hK hP hD hS dX3_turn_24 (by simp only [sp_turn, if_neg (show ¬ sp_w p1 0 64 from fun q => c_4 q.2), if_pos h_1, if_neg c_3, if_neg c_4, ite_self] <;> rfl) (by simp only [sp_turn, if_neg (show ¬ sp_w p1 0 64 from fun q => c_4 q.2), if_pos h_1, if_neg c_3, if_neg c_4, ite_self] <;> rfl)
  · refine zw_cV (r := (20, 0, 0)) (As := [.int p0]) (rest := []) (st1 := [.int 0]) ⟨hx, hb, hml, hown, hts⟩ (cm_isTrack_0 (σ := σ) p0 h_1) (cwV 1 hts gX3_turn_X3_isTrack rfl rfl rfl (by decide +kernel) ⟨Nat.le_of_ble_eq_true rfl, Nat.le_of_ble_eq_true rfl⟩) (hM 0 (by decide)) rfl rfl rfl hK hP hD hS hA hN rfl hl.1 rfl (Nat.le_of_ble_eq_true rfl) rfl dX3_turn_2 ⟨Nat.zero_le _, Nat.zero_le _⟩ (fun H locs hP hD hS => ?_)
    refine lv_if_eq (tgt := 18) hx hb dX3_turn_5 (by decide) (fun c_11 => ?_) (fun c_11 => absurd (by decide) c_11)
    refine lv_aload_n hx hb dX3_turn_18 rfl (lv_at hl 0 rfl) ?_
    refine lv_iconst (v := 1) hx hb dX3_turn_19 (by decide) ?_
    refine lv_iconst (v := 0) hx hb dX3_turn_20 (by decide) ?_
    refine zw_cV (r := (20, 0, 0)) (As := [.int 1, .int 0]) (rest := []) (st1 := [.int 0]) ⟨hx, hb, hml, hown, hts⟩ (cm_fails (σ := σ) hM 1 0) (cwV 2 hts gX3_turn_X3_fails rfl rfl rfl (by decide +kernel) ⟨Nat.le_of_ble_eq_true rfl, Nat.le_of_ble_eq_true rfl⟩) (hM 0 (by decide)) rfl rfl rfl hK hP hD hS hA hN rfl hl.1 rfl (Nat.le_of_ble_eq_true rfl) rfl dX3_turn_21 ⟨Nat.zero_le _, Nat.zero_le _⟩ (fun H locs hP hD hS => ?_)
    exact zw_iret hx hb hr hlk hK hP hD hS dX3_turn_24 (by simp only [sp_turn, if_neg (show ¬ sp_v nr (σ (0, 0, 0) 1) p0 from fun q => h_1 q.2), if_neg h_1, ite_self] <;> rfl) (by simp only [sp_turn, if_neg (show ¬ sp_v nr (σ (0, 0, 0) 1) p0 from fun q => h_1 q.2), if_neg h_1, ite_self] <;> rfl)
set_option maxHeartbeats 4000000 in
set_option maxRecDepth 100000 in
theorem cm_scan {l : Launch} {dC : Nat → ClassId} {dI : Nat → Nat → Nat} {cA : Nat → ClassId} {ad : zw_R → Nat} {R : List zw_R} {nr : Nat} {len : Nat → Nat} {σ : sp_S} {cD : zw_R → va_E} (hM : zm_R R) (hnr : nr ≤ 8) (hlen : ∀ i, i < nr → len i ≤ 64) (hod : σ (0, 0, 0) 1 = -1 ∨ sp_r nr (σ (0, 0, 0) 1)) (p0 p1 : Int32) : zw_M l yX3_scan wsX3_scan { frames := 3, cells := 0, slots := 0, locals := 66 } (ze_E dC dI cA) [.ref (ad (20, 0, 0)), .int p0, .int p1] ad R (ze_X cD (ze_M cA ad len σ)) (some (.int ((sp_scan nr len σ p0 p1).1))) (ze_X cD (ze_M cA ad len (sp_scan nr len σ p0 p1).2)) := by
  refine zw_body (cc := cX3_scan) (maxL := 6) (ret := (some .int)) (by decide) rfl (Nat.le_of_ble_eq_true rfl) ?_
  intro p e s m below meth c A ls hx hb hr hlk hml hts hown hnm hA hK hP hD hS hN hl
  have hl : lv_has ls 6 [(0, .ref (ad (20, 0, 0))), (1, .int p0), (2, .int p1)] := hl
  have hwX3 : ∀ w ∈ u_ws RX3 TX3 17, w ∈ wsX3_scan := by decide +kernel
  refine lv_aload_n hx hb dX3_scan_0 rfl (lv_at hl 0 rfl) ?_
  refine lv_iload_n hx hb dX3_scan_1 rfl (lv_at hl 1 rfl) ?_
  rcases Decidable.em (sp_v nr (σ (0, 0, 0) 1) p0) with h_1 | h_1
  · refine zw_cV (r := (20, 0, 0)) (As := [.int p0]) (rest := []) (st1 := [.int (sp_f len σ (σ (0, 0, 0) 1).toNatClampNeg p0.toNatClampNeg (σ (0, 0, 0) 2 + σ (2, 0, 0) p0.toNatClampNeg))]) ⟨hx, hb, hml, hown, hts⟩ (cm_headFault_v (σ := σ) hM hnr p0 h_1) (cwV 1 hts gX3_scan_X3_headFault rfl rfl rfl (by decide +kernel) ⟨Nat.le_of_ble_eq_true rfl, Nat.le_of_ble_eq_true rfl⟩) (hM 0 (by decide)) rfl rfl rfl hK hP hD hS hA hN rfl hl.1 rfl (Nat.le_of_ble_eq_true rfl) rfl dX3_scan_2 ⟨Nat.zero_le _, Nat.zero_le _⟩ (fun H locs hP hD hS => ?_)
    refine lv_istore_n (lv' := [(3, .int (sp_f len σ (σ (0, 0, 0) 1).toNatClampNeg p0.toNatClampNeg (σ (0, 0, 0) 2 + σ (2, 0, 0) p0.toNatClampNeg))), (0, .ref (ad (20, 0, 0))), (1, .int p0), (2, .int p1)]) hx hb dX3_scan_5 rfl hl (by decide) rfl (fun ls hl => ?_)
    refine lv_iload_n hx hb dX3_scan_6 rfl (lv_at hl 0 rfl) ?_
    refine lv_if_eq (tgt := 17) hx hb dX3_scan_7 (by decide) (fun c_2 => ?_) (fun c_2 => ?_)
    · refine lv_aload_n hx hb dX3_scan_17 rfl (lv_at hl 1 rfl) ?_
      refine lv_iload_n hx hb dX3_scan_18 rfl (lv_at hl 2 rfl) ?_
      refine zw_cV (r := (20, 0, 0)) (As := [.int p0]) (rest := []) (st1 := [.int (σ (0, 0, 0) 2 + σ (2, 0, 0) p0.toNatClampNeg)]) ⟨hx, hb, hml, hown, hts⟩ (cm_place (σ := σ) hM p0 h_1.2) (cwV 1 hts gX3_scan_X3_place rfl rfl rfl (by decide +kernel) ⟨Nat.le_of_ble_eq_true rfl, Nat.le_of_ble_eq_true rfl⟩) (hM 0 (by decide)) rfl rfl rfl hK hP hD hS hA hN rfl hl.1 rfl (Nat.le_of_ble_eq_true rfl) rfl dX3_scan_19 ⟨Nat.zero_le _, Nat.zero_le _⟩ (fun H locs hP hD hS => ?_)
      refine lv_istore (lv' := [(4, .int (σ (0, 0, 0) 2 + σ (2, 0, 0) p0.toNatClampNeg)), (3, .int (sp_f len σ (σ (0, 0, 0) 1).toNatClampNeg p0.toNatClampNeg (σ (0, 0, 0) 2 + σ (2, 0, 0) p0.toNatClampNeg))), (0, .ref (ad (20, 0, 0))), (1, .int p0), (2, .int p1)]) hx hb dX3_scan_22 hl (by decide) rfl (fun ls hl => ?_)
      refine lv_iload hx hb dX3_scan_24 (lv_at hl 0 rfl) ?_
      refine lv_istore (lv' := [(5, .int (σ (0, 0, 0) 2 + σ (2, 0, 0) p0.toNatClampNeg)), (4, .int (σ (0, 0, 0) 2 + σ (2, 0, 0) p0.toNatClampNeg)), (3, .int (sp_f len σ (σ (0, 0, 0) 1).toNatClampNeg p0.toNatClampNeg (σ (0, 0, 0) 2 + σ (2, 0, 0) p0.toNatClampNeg))), (0, .ref (ad (20, 0, 0))), (1, .int p0), (2, .int p1)]) hx hb dX3_scan_26 hl (by decide) rfl (fun ls hl => ?_)
      have hi := ze_vr h_1.1 hnr
      have hln := hlen _ hi
      have h8 := sp_f_there c_2
      obtain ⟨b0, hb0, eb⟩ := vp_in_of (ze_fi hln c_2) (by omega)
      have key : ∀ (mm j : Nat) (k : Int32) (H : Heap) (locs : List Loc) (ls : Array Slot), k = nI (b0 + j) → b0 + j + mm = len (σ (0, 0, 0) 1).toNatClampNeg → sp_scan nr len σ p0 p1 = sp_sl len (σ (0, 0, 0) 1).toNatClampNeg p0.toNatClampNeg (σ (0, 0, 0) 2 + σ (2, 0, 0) p0.toNatClampNeg) p1 (64 - j) (nI j) σ → va_P (ze_E dC dI cA).1 (ze_E dC dI cA).2.1 (zw_l ad R (ze_X cD (ze_M cA ad len σ))) H → va_D A (zw_l ad R (ze_X cD (ze_M cA ad len σ))) → va_S A s.heap H locs → lv_has ls 6 [(5, .int k), (4, .int (σ (0, 0, 0) 2 + σ (2, 0, 0) p0.toNatClampNeg)), (3, .int (sp_f len σ (σ (0, 0, 0) 1).toNatClampNeg p0.toNatClampNeg (σ (0, 0, 0) 2 + σ (2, 0, 0) p0.toNatClampNeg))), (0, .ref (ad (20, 0, 0))), (1, .int p0), (2, .int p1)] → W p l e ({ frames := 3, cells := 0, slots := 0, locals := 66 } : Room) s m [Value.ref (ad (20, 0, 0)), Value.int p0, Value.int p1].toArray below meth c H locs 0 0 (MQ below (zw_Q (some (.int (sp_scan nr len σ p0 p1).1)) (zw_B (ze_E dC dI cA) A ad R (ze_X cD (ze_M cA ad len (sp_scan nr len σ p0 p1).2))) A) [Value.ref (ad (20, 0, 0)), Value.int p0, Value.int p1].toArray s 0 0 A) (F0 m 28 ls []) := by
        intro mm
        induction mm with
        | zero =>
          intro j k H locs ls hk hj hE hP hD hS hl
          have ek : (σ (0, 0, 0) 2 + σ (2, 0, 0) p0.toNatClampNeg) + nI j = k := by rw [eb, hk, nI_add]
          have hge : nI (len (σ (0, 0, 0) 1).toNatClampNeg) ≤ k := by rw [hk]; exact nI_le (by omega) (by omega)
          have hs := hE.trans (sp_sl_end h8 (by rw [ek]; exact fun q => Int32.not_lt.mpr hge q.2) _)
          refine lv_iload hx hb dX3_scan_28 (lv_at hl 0 rfl) ?_
          refine lv_aload_n hx hb dX3_scan_30 rfl (lv_at hl 3 rfl) ?_
          refine zw_getf (r := (20, 0, 0)) (v := .ref (ad (21, 0, 0))) (C := RX3) (T := TX3) (N := 17) (ci := 3) hx hb hts hwX3 hown hK hP (hM 0 (by decide)) rfl rfl 1 (by decide) (hts (.fieldLink RX3 7 "FourTrackDeckModel" "length" "[I") (by decide +kernel)) (fun _ h9 => h9) rfl dX3_scan_31 ?_
          refine lv_aload_n hx hb dX3_scan_34 rfl (lv_at hl 3 rfl) ?_
          refine zw_getf (r := (20, 0, 0)) (v := .int (σ (0, 0, 0) 1)) (C := RX3) (T := TX3) (N := 17) (ci := 3) hx hb hts hwX3 hown hK hP (hM 0 (by decide)) rfl rfl 4 (by decide) (hts (.fieldLink RX3 19 "FourTrackDeckModel" "onDeck" "I") (by decide +kernel)) (fun _ h9 => h9) rfl dX3_scan_35 ?_
          refine zw_iald (r := (21, 0, 0)) hx hb hK hP (hM 1 (by decide)) 0 rfl rfl (ze_r8 h_1.1 hnr).1 dX3_scan_38 ?_
          refine lv_icmp_ge (tgt := 78) hx hb dX3_scan_39 (by decide) (fun c_3 => ?_) (fun c_3 => absurd hge c_3)
          refine lv_aload_n hx hb dX3_scan_78 rfl (lv_at hl 3 rfl) ?_
          refine lv_iconst (v := 3) hx hb dX3_scan_79 (by decide) ?_
          refine lv_iconst (v := (-1)) hx hb dX3_scan_80 (by decide) ?_
          refine zw_cV (r := (20, 0, 0)) (As := [.int 3, .int (-1)]) (rest := []) (st1 := [.int (-1)]) ⟨hx, hb, hml, hown, hts⟩ (cm_fails (σ := σ) hM 3 (-1)) (cwV 2 hts gX3_scan_X3_fails rfl rfl rfl (by decide +kernel) ⟨Nat.le_of_ble_eq_true rfl, Nat.le_of_ble_eq_true rfl⟩) (hM 0 (by decide)) rfl rfl rfl hK hP hD hS hA hN rfl hl.1 rfl (Nat.le_of_ble_eq_true rfl) rfl dX3_scan_81 ⟨Nat.zero_le _, Nat.zero_le _⟩ (fun H locs hP hD hS => ?_)
          exact zw_iret hx hb hr hlk hK hP hD hS dX3_scan_84 (by rw [hs]) (by rw [hs])
        | succ mm ih =>
          intro j k H locs ls hk hj hE hP hD hS hl
          have ek : (σ (0, 0, 0) 2 + σ (2, 0, 0) p0.toNatClampNeg) + nI j = k := by rw [eb, hk, nI_add]
          have hlt : ¬ nI (len (σ (0, 0, 0) 1).toNatClampNeg) ≤ k := by rw [hk]; exact nI_ge (by omega) (by omega)
          have hin : vp_in k (len (σ (0, 0, 0) 1).toNatClampNeg) := by rw [hk]; exact vp_in_nI (by omega) (by omega)
          have hf : sp_f len σ (σ (0, 0, 0) 1).toNatClampNeg p0.toNatClampNeg ((σ (0, 0, 0) 2 + σ (2, 0, 0) p0.toNatClampNeg) + nI j) = 0 := by rw [ek]; exact sp_f_in h8 (by rw [hk]; exact nI_pos' (by omega)) (Int32.not_le.mp hlt)
          refine lv_iload hx hb dX3_scan_28 (lv_at hl 0 rfl) ?_
          refine lv_aload_n hx hb dX3_scan_30 rfl (lv_at hl 3 rfl) ?_
          refine zw_getf (r := (20, 0, 0)) (v := .ref (ad (21, 0, 0))) (C := RX3) (T := TX3) (N := 17) (ci := 3) hx hb hts hwX3 hown hK hP (hM 0 (by decide)) rfl rfl 1 (by decide) (hts (.fieldLink RX3 7 "FourTrackDeckModel" "length" "[I") (by decide +kernel)) (fun _ h9 => h9) rfl dX3_scan_31 ?_
          refine lv_aload_n hx hb dX3_scan_34 rfl (lv_at hl 3 rfl) ?_
          refine zw_getf (r := (20, 0, 0)) (v := .int (σ (0, 0, 0) 1)) (C := RX3) (T := TX3) (N := 17) (ci := 3) hx hb hts hwX3 hown hK hP (hM 0 (by decide)) rfl rfl 4 (by decide) (hts (.fieldLink RX3 19 "FourTrackDeckModel" "onDeck" "I") (by decide +kernel)) (fun _ h9 => h9) rfl dX3_scan_35 ?_
          refine zw_iald (r := (21, 0, 0)) hx hb hK hP (hM 1 (by decide)) 0 rfl rfl (ze_r8 h_1.1 hnr).1 dX3_scan_38 ?_
          refine lv_icmp_ge (tgt := 78) hx hb dX3_scan_39 (by decide) (fun c_4 => absurd c_4 hlt) (fun c_4 => ?_)
          refine lv_aload_n hx hb dX3_scan_42 rfl (lv_at hl 3 rfl) ?_
          refine zw_getf (r := (20, 0, 0)) (v := .ref (ad (23, 0, 0))) (C := RX3) (T := TX3) (N := 17) (ci := 3) hx hb hts hwX3 hown hK hP (hM 0 (by decide)) rfl rfl 3 (by decide) (hts (.fieldLink RX3 16 "FourTrackDeckModel" "number" "[I") (by decide +kernel)) (fun _ h9 => h9) rfl dX3_scan_43 ?_
          refine lv_aload_n hx hb dX3_scan_46 rfl (lv_at hl 3 rfl) ?_
          refine lv_aload_n hx hb dX3_scan_47 rfl (lv_at hl 3 rfl) ?_
          refine zw_getf (r := (20, 0, 0)) (v := .int (σ (0, 0, 0) 1)) (C := RX3) (T := TX3) (N := 17) (ci := 3) hx hb hts hwX3 hown hK hP (hM 0 (by decide)) rfl rfl 4 (by decide) (hts (.fieldLink RX3 19 "FourTrackDeckModel" "onDeck" "I") (by decide +kernel)) (fun _ h9 => h9) rfl dX3_scan_48 ?_
          refine lv_iload_n hx hb dX3_scan_51 rfl (lv_at hl 4 rfl) ?_
          refine lv_iload hx hb dX3_scan_52 (lv_at hl 0 rfl) ?_
          refine zw_cV (r := (20, 0, 0)) (As := [.int (σ (0, 0, 0) 1), .int p0, .int k]) (rest := [.ref (ad (23, 0, 0))]) (st1 := [.int ((4 * (σ (0, 0, 0) 1) + p0) * 64 + k), .ref (ad (23, 0, 0))]) ⟨hx, hb, hml, hown, hts⟩ (cm_at (σ := σ) (σ (0, 0, 0) 1) p0 k) (cwV 3 hts gX3_scan_X3_at rfl rfl rfl (by decide +kernel) ⟨Nat.le_of_ble_eq_true rfl, Nat.le_of_ble_eq_true rfl⟩) (hM 0 (by decide)) rfl rfl rfl hK hP hD hS hA hN rfl hl.1 rfl (Nat.le_of_ble_eq_true rfl) rfl dX3_scan_54 ⟨Nat.zero_le _, Nat.zero_le _⟩ (fun H locs hP hD hS => ?_)
          refine zw_ialdv (r := (23, 0, 0)) (v := (σ (9, (σ (0, 0, 0) 1).toNatClampNeg, p0.toNatClampNeg) k.toNatClampNeg)) hx hb hK hP (hM 3 (by decide)) 0 rfl rfl (zm_at h_1.1 hnr h_1.2 hin hln).2.1 (zm_rd h_1.1 hnr h_1.2 hin hln) dX3_scan_57 ?_
          refine lv_iload_n hx hb dX3_scan_58 rfl (lv_at hl 5 rfl) ?_
          refine lv_icmp_ne (tgt := 72) hx hb dX3_scan_59 (by decide) (fun c_5 => ?_) (fun c_5 => ?_)
          · refine lv_iinc (v := (k + 1)) (lv' := [(5, .int (k + 1)), (4, .int (σ (0, 0, 0) 2 + σ (2, 0, 0) p0.toNatClampNeg)), (3, .int (sp_f len σ (σ (0, 0, 0) 1).toNatClampNeg p0.toNatClampNeg (σ (0, 0, 0) 2 + σ (2, 0, 0) p0.toNatClampNeg))), (0, .ref (ad (20, 0, 0))), (1, .int p0), (2, .int p1)]) hx hb dX3_scan_72 hl (k := 0) rfl rfl (by decide) rfl (fun ls hl => ?_)
            refine lv_goto (tgt := 28) hx hb dX3_scan_75 (by decide) ?_
            exact ih (j + 1) (k + 1) _ _ _ (by rw [hk, nI_1]; rfl) (by omega) (hE.trans (by rw [show 64 - j = (64 - (j + 1)) + 1 by omega, sp_sl_next hf (by rw [ek]; exact c_5), nI_1])) hP hD hS (lv_sub hl [0, 1, 2, 3, 4, 5] rfl)
          · refine lv_aload_n hx hb dX3_scan_62 rfl (lv_at hl 3 rfl) ?_
            refine lv_iload hx hb dX3_scan_63 (lv_at hl 0 rfl) ?_
            refine lv_iload hx hb dX3_scan_65 (lv_at hl 1 rfl) ?_
            refine lv_isub hx hb dX3_scan_67 ?_
            refine zw_cV (r := (20, 0, 0)) (As := [.int (k - (σ (0, 0, 0) 2 + σ (2, 0, 0) p0.toNatClampNeg))]) (rest := []) (st1 := [.int (k - (σ (0, 0, 0) 2 + σ (2, 0, 0) p0.toNatClampNeg))]) ⟨hx, hb, hml, hown, hts⟩ (cm_done (σ := σ) hM (k - (σ (0, 0, 0) 2 + σ (2, 0, 0) p0.toNatClampNeg))) (cwV 1 hts gX3_scan_X3_done rfl rfl rfl (by decide +kernel) ⟨Nat.le_of_ble_eq_true rfl, Nat.le_of_ble_eq_true rfl⟩) (hM 0 (by decide)) rfl rfl rfl hK hP hD hS hA hN rfl hl.1 rfl (Nat.le_of_ble_eq_true rfl) rfl dX3_scan_68 ⟨Nat.zero_le _, Nat.zero_le _⟩ (fun H locs hP hD hS => ?_)
            exact zw_iret hx hb hr hlk hK hP hD hS dX3_scan_71 (by rw [hE.trans (sp_sl_hit hf (by rw [ek]; exact c_5) (by omega))]; exact congrArg (fun z => some (Value.int z)) (by rw [← ek, Int32.add_comm]; exact (Int32.add_sub_cancel _ _).symm)) (by rw [hE.trans (sp_sl_hit hf (by rw [ek]; exact c_5) (by omega))])
      exact key (len (σ (0, 0, 0) 1).toNatClampNeg - b0) 0 (σ (0, 0, 0) 2 + σ (2, 0, 0) p0.toNatClampNeg) _ _ _ (by rw [eb]; rfl) (by omega) (by simp only [sp_scan, if_pos h_1, if_pos c_2] <;> rfl) hP hD hS hl
    · refine lv_aload_n hx hb dX3_scan_10 rfl (lv_at hl 1 rfl) ?_
      refine lv_iload_n hx hb dX3_scan_11 rfl (lv_at hl 0 rfl) ?_
      refine lv_iconst (v := (-1)) hx hb dX3_scan_12 (by decide) ?_
      refine zw_cV (r := (20, 0, 0)) (As := [.int (sp_f len σ (σ (0, 0, 0) 1).toNatClampNeg p0.toNatClampNeg (σ (0, 0, 0) 2 + σ (2, 0, 0) p0.toNatClampNeg)), .int (-1)]) (rest := []) (st1 := [.int (-1)]) ⟨hx, hb, hml, hown, hts⟩ (cm_fails (σ := σ) hM (sp_f len σ (σ (0, 0, 0) 1).toNatClampNeg p0.toNatClampNeg (σ (0, 0, 0) 2 + σ (2, 0, 0) p0.toNatClampNeg)) (-1)) (cwV 2 hts gX3_scan_X3_fails rfl rfl rfl (by decide +kernel) ⟨Nat.le_of_ble_eq_true rfl, Nat.le_of_ble_eq_true rfl⟩) (hM 0 (by decide)) rfl rfl rfl hK hP hD hS hA hN rfl hl.1 rfl (Nat.le_of_ble_eq_true rfl) rfl dX3_scan_13 ⟨Nat.zero_le _, Nat.zero_le _⟩ (fun H locs hP hD hS => ?_)
      exact zw_iret hx hb hr hlk hK hP hD hS dX3_scan_16 (by rw [sp_scan_0 h_1 c_2]) (by rw [sp_scan_0 h_1 c_2])
  rcases Decidable.em (sp_t p0) with h_6 | h_6
  · refine zw_cV (r := (20, 0, 0)) (As := [.int p0]) (rest := []) (st1 := [.int 5]) ⟨hx, hb, hml, hown, hts⟩ (cm_headFault_5 (σ := σ) hM p0 h_6 (hod.resolve_right (fun q => h_1 ⟨q, h_6⟩))) (cwV 1 hts gX3_scan_X3_headFault rfl rfl rfl (by decide +kernel) ⟨Nat.le_of_ble_eq_true rfl, Nat.le_of_ble_eq_true rfl⟩) (hM 0 (by decide)) rfl rfl rfl hK hP hD hS hA hN rfl hl.1 rfl (Nat.le_of_ble_eq_true rfl) rfl dX3_scan_2 ⟨Nat.zero_le _, Nat.zero_le _⟩ (fun H locs hP hD hS => ?_)
    refine lv_istore_n (lv' := [(3, .int 5), (0, .ref (ad (20, 0, 0))), (1, .int p0), (2, .int p1)]) hx hb dX3_scan_5 rfl hl (by decide) rfl (fun ls hl => ?_)
    refine lv_iload_n hx hb dX3_scan_6 rfl (lv_at hl 0 rfl) ?_
    refine lv_if_eq (tgt := 17) hx hb dX3_scan_7 (by decide) (fun c_7 => absurd c_7 (by decide)) (fun c_7 => ?_)
    refine lv_aload_n hx hb dX3_scan_10 rfl (lv_at hl 1 rfl) ?_
    refine lv_iload_n hx hb dX3_scan_11 rfl (lv_at hl 0 rfl) ?_
    refine lv_iconst (v := (-1)) hx hb dX3_scan_12 (by decide) ?_
    refine zw_cV (r := (20, 0, 0)) (As := [.int 5, .int (-1)]) (rest := []) (st1 := [.int (-1)]) ⟨hx, hb, hml, hown, hts⟩ (cm_fails (σ := σ) hM 5 (-1)) (cwV 2 hts gX3_scan_X3_fails rfl rfl rfl (by decide +kernel) ⟨Nat.le_of_ble_eq_true rfl, Nat.le_of_ble_eq_true rfl⟩) (hM 0 (by decide)) rfl rfl rfl hK hP hD hS hA hN rfl hl.1 rfl (Nat.le_of_ble_eq_true rfl) rfl dX3_scan_13 ⟨Nat.zero_le _, Nat.zero_le _⟩ (fun H locs hP hD hS => ?_)
    exact zw_iret hx hb hr hlk hK hP hD hS dX3_scan_16 (by simp only [sp_scan, if_neg h_1, if_pos h_6, ite_self] <;> rfl) (by simp only [sp_scan, if_neg h_1, if_pos h_6, ite_self] <;> rfl)
  · refine zw_cV (r := (20, 0, 0)) (As := [.int p0]) (rest := []) (st1 := [.int 1]) ⟨hx, hb, hml, hown, hts⟩ (cm_headFault_1 (σ := σ) hM p0 h_6) (cwV 1 hts gX3_scan_X3_headFault rfl rfl rfl (by decide +kernel) ⟨Nat.le_of_ble_eq_true rfl, Nat.le_of_ble_eq_true rfl⟩) (hM 0 (by decide)) rfl rfl rfl hK hP hD hS hA hN rfl hl.1 rfl (Nat.le_of_ble_eq_true rfl) rfl dX3_scan_2 ⟨Nat.zero_le _, Nat.zero_le _⟩ (fun H locs hP hD hS => ?_)
    refine lv_istore_n (lv' := [(3, .int 1), (0, .ref (ad (20, 0, 0))), (1, .int p0), (2, .int p1)]) hx hb dX3_scan_5 rfl hl (by decide) rfl (fun ls hl => ?_)
    refine lv_iload_n hx hb dX3_scan_6 rfl (lv_at hl 0 rfl) ?_
    refine lv_if_eq (tgt := 17) hx hb dX3_scan_7 (by decide) (fun c_8 => absurd c_8 (by decide)) (fun c_8 => ?_)
    refine lv_aload_n hx hb dX3_scan_10 rfl (lv_at hl 1 rfl) ?_
    refine lv_iload_n hx hb dX3_scan_11 rfl (lv_at hl 0 rfl) ?_
    refine lv_iconst (v := (-1)) hx hb dX3_scan_12 (by decide) ?_
    refine zw_cV (r := (20, 0, 0)) (As := [.int 1, .int (-1)]) (rest := []) (st1 := [.int (-1)]) ⟨hx, hb, hml, hown, hts⟩ (cm_fails (σ := σ) hM 1 (-1)) (cwV 2 hts gX3_scan_X3_fails rfl rfl rfl (by decide +kernel) ⟨Nat.le_of_ble_eq_true rfl, Nat.le_of_ble_eq_true rfl⟩) (hM 0 (by decide)) rfl rfl rfl hK hP hD hS hA hN rfl hl.1 rfl (Nat.le_of_ble_eq_true rfl) rfl dX3_scan_13 ⟨Nat.zero_le _, Nat.zero_le _⟩ (fun H locs hP hD hS => ?_)
    exact zw_iret hx hb hr hlk hK hP hD hS dX3_scan_16 (by simp only [sp_scan, if_neg h_1, if_neg h_6, ite_self] <;> rfl) (by simp only [sp_scan, if_neg h_1, if_neg h_6, ite_self] <;> rfl)
