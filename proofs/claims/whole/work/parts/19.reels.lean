theorem sp_reel_ok {nr : Nat} {len : Nat → Nat} {σ : sp_S} {p0 p1 : Int32} (h1 : sp_w p0 1 64) (h2 : sp_w p1 0 15) (h3 : nr < 8) : sp_reel nr len σ p0 p1 = (nI nr, nr + 1, va_up len nr p0.toNatClampNeg, sp_e (sp_s (sp_fl σ nr p1) (0, 0, 0) 0 (nI nr + 1)) 0) := by
  unfold sp_reel
  rw [if_pos h1, if_pos h2, if_pos h3]
theorem zm_L {cA : Nat → ClassId} {ad : zw_R → Nat} {len : Nat → Nat} {σ : sp_S} {cD : zw_R → va_E} {n k : Nat} {p0 : Int32} (hk : k = n) (h : nI p0.toNatClampNeg = p0) : ze_X cD (ze_M cA ad (va_up len n p0.toNatClampNeg) σ) = zw_u (ze_X cD (ze_M cA ad len σ)) (21, 0, 0) (.inl (cA 0, 8, .inl (upd (fun i => nI (len i)) k p0))) := by
  refine zm_X rfl ?_ (fun q h => ?_)
  · show (Sum.inl (cA 0, 8, Sum.inl (fun i => nI (va_up len n p0.toNatClampNeg i))) : va_E) = _
    congr 4
    funext i
    unfold upd va_up
    by_cases hi : i = n
    · rw [if_pos hi, if_pos (by omega), h]
    · rw [if_neg hi, if_neg (by omega)]
  · unfold ze_M
    split
    all_goals first | rfl | exact absurd rfl h
theorem sp_b_fl {σ : sp_S} {n : Nat} {p1 : Int32} (h : sp_w p1 0 15) : sp_b (sp_fl σ n p1) n = p1 := by
  obtain ⟨j, hj, e⟩ := nI_of2 (x := p1) (M := 15) (n := 15) rfl (Int32.not_lt.mpr h.1) h.2
  have z8 : ∀ t : Nat, sp_fl σ n p1 (8, n, t) 1 = sp_bt p1 t := fun t => by
    unfold sp_fl
    rw [if_pos ⟨rfl, rfl⟩]
    rfl
  unfold sp_b
  rw [z8, z8, z8, z8, e]
  have key : ∀ j : Nat, j < 16 → (if sp_bt (nI j) 0 = 0 then 0 else 1) + (if sp_bt (nI j) 1 = 0 then 0 else 2) + (if sp_bt (nI j) 2 = 0 then 0 else 4) + (if sp_bt (nI j) 3 = 0 then 0 else 8) = nI j := by decide +kernel
  exact key j (by omega)
theorem zm_Fl {cA : Nat → ClassId} {ad : zw_R → Nat} {len : Nat → Nat} {σ : sp_S} {cD : zw_R → va_E} {n k : Nat} {p1 : Int32} (hk : k = n) (h : sp_w p1 0 15) : ze_X cD (ze_M cA ad len (sp_fl σ n p1)) = zw_u (ze_X cD (ze_M cA ad len σ)) (22, 0, 0) (.inl (cA 0, 8, .inl (upd (fun i => sp_b σ i) k p1))) := by
  refine zm_X rfl ?_ (fun q h => ?_)
  · show (Sum.inl (cA 0, 8, Sum.inl (fun i => sp_b (sp_fl σ n p1) i)) : va_E) = _
    congr 4
    funext i
    unfold upd
    by_cases hi : i = n
    · rw [if_pos (by omega), hi, sp_b_fl h]
    · rw [if_neg (by omega)]
      have z8 : ∀ t : Nat, sp_fl σ n p1 (8, i, t) = σ (8, i, t) := fun t => by
        unfold sp_fl
        rw [if_neg (fun w => hi w.2)]
      unfold sp_b
      rw [z8, z8, z8, z8]
  · unfold ze_M
    split
    all_goals first | rfl | exact absurd rfl h
set_option maxHeartbeats 4000000 in
set_option maxRecDepth 100000 in
/-- reel -/
theorem cd_reel {l : Launch} {dC : Nat → ClassId} {dI : Nat → Nat → Nat} {cA : Nat → ClassId} {ad : zw_R → Nat} {R : List zw_R} {nr : Nat} {len : Nat → Nat} {σ : sp_S} {cM : zw_R → va_E} (hR : ze_R nr R) (hI : sp_I nr len σ) (hZ : ze_Z nr R) (p0 p1 : Int32) : zw_G l yX2_reel wsX2_reel { frames := 3, cells := 10, slots := 273, locals := 66 } (ze_E dC dI cA) [.ref (ad (0, 0, 0)), .int p0, .int p1] ad R (ze_X (ze_D cA ad nr len σ) cM) (some (.int ((sp_reel nr len σ p0 p1).1))) (zr_B cA ad R cM (sp_reel nr len σ p0 p1)) 10 273 := by
  refine zw_bodyG (cc := cX2_reel) (maxL := 4) (ret := (some .int)) (by decide) rfl (Nat.le_of_ble_eq_true rfl) ?_
  intro p e s m below meth c A ls hx hb hr hlk hml hts hown hnm hA hK hP hD hS hN hl
  have hl : lv_has ls 4 [(0, .ref (ad (0, 0, 0))), (1, .int p0), (2, .int p1)] := hl
  have hwX0 : ∀ w ∈ u_ws RX0 TX0 1, w ∈ wsX2_reel := by decide +kernel
  have hwX2 : ∀ w ∈ u_ws RX2 TX2 15, w ∈ wsX2_reel := by decide +kernel
  refine lv_iload_n hx hb dX2_reel_0 rfl (lv_at hl 1 rfl) ?_
  refine lv_iconst (v := 1) hx hb dX2_reel_1 (by decide) ?_
  refine lv_bipush (v := 64) hx hb dX2_reel_2 (by decide) ?_
  rcases Decidable.em (sp_w p0 1 64) with h_1 | h_1
  · refine zw_cS (As := [.int p0, .int 1, .int 64]) (rest := []) (st1 := [.int 1]) ⟨hx, hb, hml, hown, hts⟩ (cd_isWithin_1 p0 1 64 h_1) (va_cwS 3 hts gX2_reel_X2_isWithin rfl rfl rfl (by decide +kernel) ⟨Nat.le_of_ble_eq_true rfl, Nat.le_of_ble_eq_true rfl⟩) hK hP hD hS hA hN rfl hl.1 rfl (Nat.le_of_ble_eq_true rfl) rfl dX2_reel_4 ⟨Nat.zero_le _, Nat.zero_le _⟩ (fun H locs hP hD hS => ?_)
    refine lv_if_eq (tgt := 20) hx hb dX2_reel_7 (by decide) (fun c_2 => absurd c_2 (by decide)) (fun c_2 => ?_)
    refine lv_iload_n hx hb dX2_reel_10 rfl (lv_at hl 2 rfl) ?_
    refine lv_iconst (v := 0) hx hb dX2_reel_11 (by decide) ?_
    refine lv_bipush (v := 15) hx hb dX2_reel_12 (by decide) ?_
    rcases Decidable.em (sp_w p1 0 15) with h_3 | h_3
    · refine zw_cS (As := [.int p1, .int 0, .int 15]) (rest := []) (st1 := [.int 1]) ⟨hx, hb, hml, hown, hts⟩ (cd_isWithin_1 p1 0 15 h_3) (va_cwS 3 hts gX2_reel_X2_isWithin rfl rfl rfl (by decide +kernel) ⟨Nat.le_of_ble_eq_true rfl, Nat.le_of_ble_eq_true rfl⟩) hK hP hD hS hA hN rfl hl.1 rfl (Nat.le_of_ble_eq_true rfl) rfl dX2_reel_14 ⟨Nat.zero_le _, Nat.zero_le _⟩ (fun H locs hP hD hS => ?_)
      refine lv_if_ne (tgt := 27) hx hb dX2_reel_17 (by decide) (fun c_4 => ?_) (fun c_4 => absurd c_4 (by decide))
      refine lv_aload_n hx hb dX2_reel_27 rfl (lv_at hl 0 rfl) ?_
      refine zw_getf (r := (0, 0, 0)) (v := .int (σ (0, 0, 0) 0)) (C := RX2) (T := TX2) (N := 15) (ci := 2) hx hb hts hwX2 hown hK hP (hR.1 0 (by decide)) rfl rfl 1 (by decide) (hts (.fieldLink RX2 15 "FourTrackDeck" "reelsMade" "I") (by decide +kernel)) (fun _ h9 => h9) rfl dX2_reel_28 ?_
      refine lv_aload_n hx hb dX2_reel_31 rfl (lv_at hl 0 rfl) ?_
      refine zw_getf (r := (0, 0, 0)) (v := .ref (ad (1, 0, 0))) (C := RX2) (T := TX2) (N := 15) (ci := 2) hx hb hts hwX2 hown hK hP (hR.1 0 (by decide)) rfl rfl 0 (by decide) (hts (.fieldLink RX2 11 "FourTrackDeck" "reels" "[LFourTrackDeck$Reel;") (by decide +kernel)) (fun _ h9 => h9) rfl dX2_reel_32 ?_
      refine zw_alen (r := (1, 0, 0)) (v := 8) hx hb hK hP (hR.1 1 (by decide)) 1 rfl rfl rfl dX2_reel_35 ?_
      refine lv_icmp_lt (tgt := 46) hx hb dX2_reel_36 (by decide) (fun c_5 => ?_) (fun c_5 => ?_)
      · refine lv_aload_n hx hb dX2_reel_46 rfl (lv_at hl 0 rfl) ?_
        refine zw_getf (r := (0, 0, 0)) (v := .int (σ (0, 0, 0) 0)) (C := RX2) (T := TX2) (N := 15) (ci := 2) hx hb hts hwX2 hown hK hP (hR.1 0 (by decide)) rfl rfl 1 (by decide) (hts (.fieldLink RX2 15 "FourTrackDeck" "reelsMade" "I") (by decide +kernel)) (fun _ h9 => h9) rfl dX2_reel_47 ?_
        refine lv_istore_n (lv' := [(3, .int (σ (0, 0, 0) 0)), (0, .ref (ad (0, 0, 0))), (1, .int p0), (2, .int p1)]) hx hb dX2_reel_50 rfl hl (by decide) rfl (fun ls hl => ?_)
        refine lv_aload_n hx hb dX2_reel_51 rfl (lv_at hl 1 rfl) ?_
        refine zw_getf (r := (0, 0, 0)) (v := .ref (ad (1, 0, 0))) (C := RX2) (T := TX2) (N := 15) (ci := 2) hx hb hts hwX2 hown hK hP (hR.1 0 (by decide)) rfl rfl 0 (by decide) (hts (.fieldLink RX2 11 "FourTrackDeck" "reels" "[LFourTrackDeck$Reel;") (by decide +kernel)) (fun _ h9 => h9) rfl dX2_reel_52 ?_
        refine lv_iload_n hx hb dX2_reel_55 rfl (lv_at hl 0 rfl) ?_
        have hn8 : nr < 8 := (nI_ltI (b := 8) (by have := hI.1; omega) (by decide)).mp (hI.2.1 ▸ c_5)
        have h30 := ze_Z30 hZ
        refine zw_new (r := (30, 0, 0)) (ci := 0) (fs := [.null]) (C := RX0) (T := TX0) (N := 1) hx hb hts hwX0 tyX0 tyX0_ok hown (hts (.classLink RX2 9 RX0) (by decide +kernel)) (hts (.instantiable RX0 1) (by decide +kernel)) (hts (.initialized RX0) (by decide +kernel)) hK hP hD hS hA (zw_nm h30 (by decide)) rfl (fun j hj => match j, hj with | 0, _ => rfl | k + 1, h => absurd h (by omega)) (Nat.le_of_ble_eq_true rfl) (Nat.le_of_ble_eq_true rfl) dX2_reel_56 (fun q_1 H hP hD hS => ?_)
        refine W.widen (k := 1) (n := 1) (by omega) (by omega) ?_
        refine lv_dup hx hb dX2_reel_59 rfl ?_
        refine lv_iload_n hx hb dX2_reel_60 rfl (lv_at hl 2 rfl) ?_
        refine lv_iload_n hx hb dX2_reel_61 rfl (lv_at hl 3 rfl) ?_
        refine zw_cIN (ad := (zw_u ad (30, 0, 0) q_1)) (r := (30, 0, 0)) (As := [.int p0, .int p1]) (rest := [.ref q_1, .int (σ (0, 0, 0) 0), .ref (ad (1, 0, 0))]) (st1 := [.ref q_1, .int (σ (0, 0, 0) 0), .ref (ad (1, 0, 0))]) ⟨hx, hb, hml, hown, hts⟩ (cd_rinit (ad := (zw_u ad (30, 0, 0) q_1)) (List.mem_append_right _ (List.mem_singleton.mpr rfl)) (zw_ltp h30 (by decide)) rfl p0 p1 h_1) ⟨va_cnB (host := "FourTrackDeck") 2 hts gX2_reel_X0_init_n67 rfl rfl rfl (hN.2.1 ("FourTrackDeck", 67, yX0_init, "FourTrackDeck") (by decide +kernel)) (hts (.initialized RX0) (by decide +kernel)) (by decide +kernel) ⟨Nat.le_of_ble_eq_true rfl, Nat.le_of_ble_eq_true rfl⟩, rfl, hts (.instanceMethod yX0_init) (by decide +kernel)⟩ hK hP hD hS hA hN rfl hl.1 rfl (Nat.le_of_ble_eq_true rfl) rfl dX2_reel_62 ⟨Nat.le_of_ble_eq_true rfl, Nat.le_of_ble_eq_true rfl⟩ (fun ad' R' cu' H locs hB hP hD hS => ?_)
        obtain ⟨x, y, z, hL⟩ := hB
        rw [hL, zr_lab hZ (fun t j => hI.2.2.2.2.2.2.2.1 nr t j (by rw [(hI.2.2.2.2.2.2.2.2 nr (Nat.le_refl nr)).1]; exact Nat.zero_le j))] at hP hD
        refine W.widen (k := 10) (n := 273) (by omega) (by omega) ?_
        have hR1 := zr_RR hR
        have hR2 := zr_RO hR
        have e6 : zr_ad ad nr q_1 x y z (6, nr, 0) = q_1 := if_pos rfl
        rw [← e6]
        refine zw_astq (ad := (zr_ad ad nr q_1 x y z)) (r := (1, 0, 0)) (rk := (6, nr, 0)) hx hb hK hP hD hS (hR2.1 1 (by decide)) (hR1.2 nr (Nat.lt_succ_self nr)).1 1 0 rfl rfl rfl rfl (by rw [hI.2.1]; exact vp_in_nI hn8 (by decide)) dX2_reel_65 (cu1 := zw_u (ze_X (ze_D cA (zr_ad ad nr q_1 x y z) nr (va_up len nr p0.toNatClampNeg) (sp_fl σ nr p1)) cM) (1, 0, 0) (.inl (cA 1, 8, .inr (.inr (.inr (.inr (va_up (fun j => if j < nr then some ((zr_ad ad nr q_1 x y z) (6, j, 0)) else none) (σ (0, 0, 0) 0).toNatClampNeg (some ((zr_ad ad nr q_1 x y z) (6, nr, 0)))))))))) rfl (fun H locs hP hD hS => ?_)
        rw [zr_up (by rw [hI.2.1, nI_clamp (by omega)]) (zr_ZZ hZ)] at hP hD
        have hR := hR1
        refine lv_aload_n hx hb dX2_reel_66 rfl (lv_at hl 1 rfl) ?_
        refine lv_iload_n hx hb dX2_reel_67 rfl (lv_at hl 0 rfl) ?_
        refine lv_iconst (v := 1) hx hb dX2_reel_68 (by decide) ?_
        refine lv_iadd hx hb dX2_reel_69 ?_
        refine zw_putf (ad := (zr_ad ad nr q_1 x y z)) (r := (0, 0, 0)) (v := .int ((σ (0, 0, 0) 0) + 1)) (C := RX2) (T := TX2) (N := 15) (ci := 2) hx hb hts hwX2 tyX2 tyX2_ok nmX2 hown hK hP hD hS (hR.1 0 (by decide)) rfl rfl 1 (by decide) (hts (.fieldLink RX2 15 "FourTrackDeck" "reelsMade" "I") (by decide +kernel)) (fun _ h9 => h9) rfl (ty := .int) (by decide +kernel) rfl rfl (Nat.le_of_ble_eq_true rfl) dX2_reel_70 (cu1 := ze_X (ze_D cA (zr_ad ad nr q_1 x y z) (nr + 1) (va_up len nr p0.toNatClampNeg) (sp_s (sp_fl σ nr p1) (0, 0, 0) 0 ((σ (0, 0, 0) 0) + 1))) cM) (ze_up rfl rfl) (fun H locs hP hD hS => ?_)
        refine lv_aload_n hx hb dX2_reel_73 rfl (lv_at hl 1 rfl) ?_
        refine lv_iconst (v := 0) hx hb dX2_reel_74 (by decide) ?_
        refine lv_iload_n hx hb dX2_reel_75 rfl (lv_at hl 0 rfl) ?_
        refine zw_cV (ad := (zr_ad ad nr q_1 x y z)) (r := (0, 0, 0)) (As := [.int 0, .int (σ (0, 0, 0) 0)]) (rest := []) (st1 := [.int (σ (0, 0, 0) 0)]) ⟨hx, hb, hml, hown, hts⟩ (cd_end (σ := (sp_s (sp_fl σ nr p1) (0, 0, 0) 0 ((σ (0, 0, 0) 0) + 1))) hR 0 (σ (0, 0, 0) 0)) (cwV 2 hts gX2_reel_X2_end rfl rfl rfl (by decide +kernel) ⟨Nat.le_of_ble_eq_true rfl, Nat.le_of_ble_eq_true rfl⟩) (hR.1 0 (by decide)) rfl rfl rfl hK hP hD hS hA hN rfl hl.1 rfl (Nat.le_of_ble_eq_true rfl) rfl dX2_reel_76 ⟨Nat.le_of_ble_eq_true rfl, Nat.le_of_ble_eq_true rfl⟩ (fun H locs hP hD hS => ?_)
        refine W.widen (k := 10) (n := 273) (by omega) (by omega) ?_
        exact zw_iretG hx hb hr hlk hK hP hD hS dX2_reel_79 (by rw [sp_reel_ok h_1 h_3 hn8, hI.2.1]) (by rw [sp_reel_ok h_1 h_3 hn8]; exact ⟨zr_adf, fun r h => List.mem_append_left _ h, hR, zr_ZZ hZ, by rw [hI.2.1]⟩)
      · refine lv_aload_n hx hb dX2_reel_39 rfl (lv_at hl 0 rfl) ?_
        refine lv_iconst (v := 5) hx hb dX2_reel_40 (by decide) ?_
        refine lv_iconst (v := (-1)) hx hb dX2_reel_41 (by decide) ?_
        refine zw_cV (r := (0, 0, 0)) (As := [.int 5, .int (-1)]) (rest := []) (st1 := [.int (-1)]) ⟨hx, hb, hml, hown, hts⟩ (cd_end (σ := σ) hR 5 (-1)) (cwV 2 hts gX2_reel_X2_end rfl rfl rfl (by decide +kernel) ⟨Nat.le_of_ble_eq_true rfl, Nat.le_of_ble_eq_true rfl⟩) (hR.1 0 (by decide)) rfl rfl rfl hK hP hD hS hA hN rfl hl.1 rfl (Nat.le_of_ble_eq_true rfl) rfl dX2_reel_42 ⟨Nat.zero_le _, Nat.zero_le _⟩ (fun H locs hP hD hS => ?_)
        refine W.widen (k := 10) (n := 273) (by omega) (by omega) ?_
        exact zw_iretG hx hb hr hlk hK hP hD hS dX2_reel_45 (by rw [show sp_reel nr len σ p0 p1 = (-1, nr, len, sp_e σ 5) from by simp only [sp_reel, if_pos h_1, if_pos h_3]; rw [if_neg (fun q => c_5 (by rw [hI.2.1]; exact nI_lt q (by decide)))]]) (by rw [show sp_reel nr len σ p0 p1 = (-1, nr, len, sp_e σ 5) from by simp only [sp_reel, if_pos h_1, if_pos h_3]; rw [if_neg (fun q => c_5 (by rw [hI.2.1]; exact nI_lt q (by decide)))]]; exact ⟨fun _ _ => rfl, fun _ h => h, hR, hZ, rfl⟩)
    · refine zw_cS (As := [.int p1, .int 0, .int 15]) (rest := []) (st1 := [.int 0]) ⟨hx, hb, hml, hown, hts⟩ (cd_isWithin_0 p1 0 15 h_3) (va_cwS 3 hts gX2_reel_X2_isWithin rfl rfl rfl (by decide +kernel) ⟨Nat.le_of_ble_eq_true rfl, Nat.le_of_ble_eq_true rfl⟩) hK hP hD hS hA hN rfl hl.1 rfl (Nat.le_of_ble_eq_true rfl) rfl dX2_reel_14 ⟨Nat.zero_le _, Nat.zero_le _⟩ (fun H locs hP hD hS => ?_)
      refine lv_if_ne (tgt := 27) hx hb dX2_reel_17 (by decide) (fun c_6 => absurd (by decide) c_6) (fun c_6 => ?_)
      refine lv_aload_n hx hb dX2_reel_20 rfl (lv_at hl 0 rfl) ?_
      refine lv_iconst (v := 1) hx hb dX2_reel_21 (by decide) ?_
      refine lv_iconst (v := (-1)) hx hb dX2_reel_22 (by decide) ?_
      refine zw_cV (r := (0, 0, 0)) (As := [.int 1, .int (-1)]) (rest := []) (st1 := [.int (-1)]) ⟨hx, hb, hml, hown, hts⟩ (cd_end (σ := σ) hR 1 (-1)) (cwV 2 hts gX2_reel_X2_end rfl rfl rfl (by decide +kernel) ⟨Nat.le_of_ble_eq_true rfl, Nat.le_of_ble_eq_true rfl⟩) (hR.1 0 (by decide)) rfl rfl rfl hK hP hD hS hA hN rfl hl.1 rfl (Nat.le_of_ble_eq_true rfl) rfl dX2_reel_23 ⟨Nat.zero_le _, Nat.zero_le _⟩ (fun H locs hP hD hS => ?_)
      refine W.widen (k := 10) (n := 273) (by omega) (by omega) ?_
      exact zw_iretG hx hb hr hlk hK hP hD hS dX2_reel_26 (by rw [show sp_reel nr len σ p0 p1 = (-1, nr, len, sp_e σ 1) from by simp only [sp_reel, if_pos h_1, if_neg h_3, ite_self]]) (by rw [show sp_reel nr len σ p0 p1 = (-1, nr, len, sp_e σ 1) from by simp only [sp_reel, if_pos h_1, if_neg h_3, ite_self]]; exact ⟨fun _ _ => rfl, fun _ h => h, hR, hZ, rfl⟩)
  · refine zw_cS (As := [.int p0, .int 1, .int 64]) (rest := []) (st1 := [.int 0]) ⟨hx, hb, hml, hown, hts⟩ (cd_isWithin_0 p0 1 64 h_1) (va_cwS 3 hts gX2_reel_X2_isWithin rfl rfl rfl (by decide +kernel) ⟨Nat.le_of_ble_eq_true rfl, Nat.le_of_ble_eq_true rfl⟩) hK hP hD hS hA hN rfl hl.1 rfl (Nat.le_of_ble_eq_true rfl) rfl dX2_reel_4 ⟨Nat.zero_le _, Nat.zero_le _⟩ (fun H locs hP hD hS => ?_)
    refine lv_if_eq (tgt := 20) hx hb dX2_reel_7 (by decide) (fun c_7 => ?_) (fun c_7 => absurd (by decide) c_7)
    refine lv_aload_n hx hb dX2_reel_20 rfl (lv_at hl 0 rfl) ?_
    refine lv_iconst (v := 1) hx hb dX2_reel_21 (by decide) ?_
    refine lv_iconst (v := (-1)) hx hb dX2_reel_22 (by decide) ?_
    refine zw_cV (r := (0, 0, 0)) (As := [.int 1, .int (-1)]) (rest := []) (st1 := [.int (-1)]) ⟨hx, hb, hml, hown, hts⟩ (cd_end (σ := σ) hR 1 (-1)) (cwV 2 hts gX2_reel_X2_end rfl rfl rfl (by decide +kernel) ⟨Nat.le_of_ble_eq_true rfl, Nat.le_of_ble_eq_true rfl⟩) (hR.1 0 (by decide)) rfl rfl rfl hK hP hD hS hA hN rfl hl.1 rfl (Nat.le_of_ble_eq_true rfl) rfl dX2_reel_23 ⟨Nat.zero_le _, Nat.zero_le _⟩ (fun H locs hP hD hS => ?_)
    refine W.widen (k := 10) (n := 273) (by omega) (by omega) ?_
    exact zw_iretG hx hb hr hlk hK hP hD hS dX2_reel_26 (by rw [show sp_reel nr len σ p0 p1 = (-1, nr, len, sp_e σ 1) from by simp only [sp_reel, if_neg h_1, ite_self]]) (by rw [show sp_reel nr len σ p0 p1 = (-1, nr, len, sp_e σ 1) from by simp only [sp_reel, if_neg h_1, ite_self]]; exact ⟨fun _ _ => rfl, fun _ h => h, hR, hZ, rfl⟩)
set_option maxHeartbeats 4000000 in
set_option maxRecDepth 100000 in
/-- the reference: reel -/
theorem cm_reel {l : Launch} {dC : Nat → ClassId} {dI : Nat → Nat → Nat} {cA : Nat → ClassId} {ad : zw_R → Nat} {R : List zw_R} {nr : Nat} {len : Nat → Nat} {σ : sp_S} {cD : zw_R → va_E} (hM : zm_R R) (hI : sp_I nr len σ) (p0 p1 : Int32) : zw_M l yX3_reel wsX3_reel { frames := 1, cells := 0, slots := 0, locals := 22 } (ze_E dC dI cA) [.ref (ad (20, 0, 0)), .int p0, .int p1] ad R (ze_X cD (ze_M cA ad len σ)) (some (.int ((sp_reel nr len σ p0 p1).1))) (ze_X cD (ze_M cA ad (sp_reel nr len σ p0 p1).2.2.1 (sp_reel nr len σ p0 p1).2.2.2)) := by
  refine zw_body (cc := cX3_reel) (maxL := 3) (ret := (some .int)) (by decide) rfl (Nat.le_of_ble_eq_true rfl) ?_
  intro p e s m below meth c A ls hx hb hr hlk hml hts hown hnm hA hK hP hD hS hN hl
  have hl : lv_has ls 3 [(0, .ref (ad (20, 0, 0))), (1, .int p0), (2, .int p1)] := hl
  have hwX3 : ∀ w ∈ u_ws RX3 TX3 17, w ∈ wsX3_reel := by decide +kernel
  refine lv_iload_n hx hb dX3_reel_0 rfl (lv_at hl 1 rfl) ?_
  refine lv_iconst (v := 1) hx hb dX3_reel_1 (by decide) ?_
  refine lv_icmp_lt (tgt := 21) hx hb dX3_reel_2 (by decide) (fun c_1 => ?_) (fun c_1 => ?_)
  · refine lv_aload_n hx hb dX3_reel_21 rfl (lv_at hl 0 rfl) ?_
    refine lv_iconst (v := 1) hx hb dX3_reel_22 (by decide) ?_
    refine lv_iconst (v := (-1)) hx hb dX3_reel_23 (by decide) ?_
    refine zw_cV (r := (20, 0, 0)) (As := [.int 1, .int (-1)]) (rest := []) (st1 := [.int (-1)]) ⟨hx, hb, hml, hown, hts⟩ (cm_fails (σ := σ) hM 1 (-1)) (cwV 2 hts gX3_reel_X3_fails rfl rfl rfl (by decide +kernel) ⟨Nat.le_of_ble_eq_true rfl, Nat.le_of_ble_eq_true rfl⟩) (hM 0 (by decide)) rfl rfl rfl hK hP hD hS hA hN rfl hl.1 rfl (Nat.le_of_ble_eq_true rfl) rfl dX3_reel_24 ⟨Nat.zero_le _, Nat.zero_le _⟩ (fun H locs hP hD hS => ?_)
    exact zw_iret hx hb hr hlk hK hP hD hS dX3_reel_27 (by rw [show sp_reel nr len σ p0 p1 = (-1, nr, len, sp_e σ 1) from by simp only [sp_reel, if_neg (show ¬ sp_w p0 1 64 from fun q => Int32.not_lt.mpr q.1 c_1), ite_self]]) (by rw [show sp_reel nr len σ p0 p1 = (-1, nr, len, sp_e σ 1) from by simp only [sp_reel, if_neg (show ¬ sp_w p0 1 64 from fun q => Int32.not_lt.mpr q.1 c_1), ite_self]])
  · refine lv_iload_n hx hb dX3_reel_5 rfl (lv_at hl 1 rfl) ?_
    refine lv_bipush (v := 64) hx hb dX3_reel_6 (by decide) ?_
    refine lv_icmp_gt (tgt := 21) hx hb dX3_reel_8 (by decide) (fun c_2 => ?_) (fun c_2 => ?_)
    · refine lv_aload_n hx hb dX3_reel_21 rfl (lv_at hl 0 rfl) ?_
      refine lv_iconst (v := 1) hx hb dX3_reel_22 (by decide) ?_
      refine lv_iconst (v := (-1)) hx hb dX3_reel_23 (by decide) ?_
      refine zw_cV (r := (20, 0, 0)) (As := [.int 1, .int (-1)]) (rest := []) (st1 := [.int (-1)]) ⟨hx, hb, hml, hown, hts⟩ (cm_fails (σ := σ) hM 1 (-1)) (cwV 2 hts gX3_reel_X3_fails rfl rfl rfl (by decide +kernel) ⟨Nat.le_of_ble_eq_true rfl, Nat.le_of_ble_eq_true rfl⟩) (hM 0 (by decide)) rfl rfl rfl hK hP hD hS hA hN rfl hl.1 rfl (Nat.le_of_ble_eq_true rfl) rfl dX3_reel_24 ⟨Nat.zero_le _, Nat.zero_le _⟩ (fun H locs hP hD hS => ?_)
      exact zw_iret hx hb hr hlk hK hP hD hS dX3_reel_27 (by rw [show sp_reel nr len σ p0 p1 = (-1, nr, len, sp_e σ 1) from by simp only [sp_reel, if_neg (show ¬ sp_w p0 1 64 from fun q => Int32.not_lt.mpr q.2 c_2), ite_self]]) (by rw [show sp_reel nr len σ p0 p1 = (-1, nr, len, sp_e σ 1) from by simp only [sp_reel, if_neg (show ¬ sp_w p0 1 64 from fun q => Int32.not_lt.mpr q.2 c_2), ite_self]])
    · refine lv_iload_n hx hb dX3_reel_11 rfl (lv_at hl 2 rfl) ?_
      refine lv_if_lt (tgt := 21) hx hb dX3_reel_12 (by decide) (fun c_3 => ?_) (fun c_3 => ?_)
      · refine lv_aload_n hx hb dX3_reel_21 rfl (lv_at hl 0 rfl) ?_
        refine lv_iconst (v := 1) hx hb dX3_reel_22 (by decide) ?_
        refine lv_iconst (v := (-1)) hx hb dX3_reel_23 (by decide) ?_
        refine zw_cV (r := (20, 0, 0)) (As := [.int 1, .int (-1)]) (rest := []) (st1 := [.int (-1)]) ⟨hx, hb, hml, hown, hts⟩ (cm_fails (σ := σ) hM 1 (-1)) (cwV 2 hts gX3_reel_X3_fails rfl rfl rfl (by decide +kernel) ⟨Nat.le_of_ble_eq_true rfl, Nat.le_of_ble_eq_true rfl⟩) (hM 0 (by decide)) rfl rfl rfl hK hP hD hS hA hN rfl hl.1 rfl (Nat.le_of_ble_eq_true rfl) rfl dX3_reel_24 ⟨Nat.zero_le _, Nat.zero_le _⟩ (fun H locs hP hD hS => ?_)
        exact zw_iret hx hb hr hlk hK hP hD hS dX3_reel_27 (by rw [show sp_reel nr len σ p0 p1 = (-1, nr, len, sp_e σ 1) from by simp only [sp_reel, if_pos (show sp_w p0 1 64 from ⟨Int32.not_lt.mp c_1, Int32.not_lt.mp c_2⟩), if_neg (show ¬ sp_w p1 0 15 from fun q => Int32.not_lt.mpr q.1 c_3), ite_self]]) (by rw [show sp_reel nr len σ p0 p1 = (-1, nr, len, sp_e σ 1) from by simp only [sp_reel, if_pos (show sp_w p0 1 64 from ⟨Int32.not_lt.mp c_1, Int32.not_lt.mp c_2⟩), if_neg (show ¬ sp_w p1 0 15 from fun q => Int32.not_lt.mpr q.1 c_3), ite_self]])
      · refine lv_iload_n hx hb dX3_reel_15 rfl (lv_at hl 2 rfl) ?_
        refine lv_bipush (v := 15) hx hb dX3_reel_16 (by decide) ?_
        refine lv_icmp_le (tgt := 28) hx hb dX3_reel_18 (by decide) (fun c_4 => ?_) (fun c_4 => ?_)
        · refine lv_aload_n hx hb dX3_reel_28 rfl (lv_at hl 0 rfl) ?_
          refine zw_getf (r := (20, 0, 0)) (v := .int (σ (0, 0, 0) 0)) (C := RX3) (T := TX3) (N := 17) (ci := 3) hx hb hts hwX3 hown hK hP (hM 0 (by decide)) rfl rfl 0 (by decide) (hts (.fieldLink RX3 47 "FourTrackDeckModel" "reels" "I") (by decide +kernel)) (fun _ h9 => h9) rfl dX3_reel_29 ?_
          refine lv_bipush (v := 8) hx hb dX3_reel_32 (by decide) ?_
          refine lv_icmp_ne (tgt := 44) hx hb dX3_reel_34 (by decide) (fun c_5 => ?_) (fun c_5 => ?_)
          · have hw0 : sp_w p0 1 64 := ⟨Int32.not_lt.mp c_1, Int32.not_lt.mp c_2⟩
            have hw1 : sp_w p1 0 15 := ⟨Int32.not_lt.mp c_3, c_4⟩
            have h0 : (0 : Int32) ≤ p0 := Int32.le_trans (by decide) hw0.1
            have hn8 : nr < 8 := Nat.lt_of_le_of_ne hI.1 (fun q => c_5 (by rw [hI.2.1, q]; rfl))
            refine lv_aload_n hx hb dX3_reel_44 rfl (lv_at hl 0 rfl) ?_
            refine zw_getf (r := (20, 0, 0)) (v := .ref (ad (21, 0, 0))) (C := RX3) (T := TX3) (N := 17) (ci := 3) hx hb hts hwX3 hown hK hP (hM 0 (by decide)) rfl rfl 1 (by decide) (hts (.fieldLink RX3 7 "FourTrackDeckModel" "length" "[I") (by decide +kernel)) (fun _ h9 => h9) rfl dX3_reel_45 ?_
            refine lv_aload_n hx hb dX3_reel_48 rfl (lv_at hl 0 rfl) ?_
            refine zw_getf (r := (20, 0, 0)) (v := .int (σ (0, 0, 0) 0)) (C := RX3) (T := TX3) (N := 17) (ci := 3) hx hb hts hwX3 hown hK hP (hM 0 (by decide)) rfl rfl 0 (by decide) (hts (.fieldLink RX3 47 "FourTrackDeckModel" "reels" "I") (by decide +kernel)) (fun _ h9 => h9) rfl dX3_reel_49 ?_
            refine lv_iload_n hx hb dX3_reel_52 rfl (lv_at hl 1 rfl) ?_
            refine zw_iast (r := (21, 0, 0)) hx hb hK hP hD hS (hM 1 (by decide)) 0 rfl rfl (by rw [hI.2.1]; exact vp_in_nI hn8 (by decide)) dX3_reel_53 (cu1 := ze_X cD (ze_M cA ad (va_up len nr p0.toNatClampNeg) σ)) (zm_L (by rw [hI.2.1, nI_clamp (by omega)]) (ze_nn h0)) (fun H locs hP hD hS => ?_)
            refine lv_aload_n hx hb dX3_reel_54 rfl (lv_at hl 0 rfl) ?_
            refine zw_getf (r := (20, 0, 0)) (v := .ref (ad (22, 0, 0))) (C := RX3) (T := TX3) (N := 17) (ci := 3) hx hb hts hwX3 hown hK hP (hM 0 (by decide)) rfl rfl 2 (by decide) (hts (.fieldLink RX3 13 "FourTrackDeckModel" "there" "[I") (by decide +kernel)) (fun _ h9 => h9) rfl dX3_reel_55 ?_
            refine lv_aload_n hx hb dX3_reel_58 rfl (lv_at hl 0 rfl) ?_
            refine zw_getf (r := (20, 0, 0)) (v := .int (σ (0, 0, 0) 0)) (C := RX3) (T := TX3) (N := 17) (ci := 3) hx hb hts hwX3 hown hK hP (hM 0 (by decide)) rfl rfl 0 (by decide) (hts (.fieldLink RX3 47 "FourTrackDeckModel" "reels" "I") (by decide +kernel)) (fun _ h9 => h9) rfl dX3_reel_59 ?_
            refine lv_iload_n hx hb dX3_reel_62 rfl (lv_at hl 2 rfl) ?_
            refine zw_iast (r := (22, 0, 0)) hx hb hK hP hD hS (hM 2 (by decide)) 0 rfl rfl (by rw [hI.2.1]; exact vp_in_nI hn8 (by decide)) dX3_reel_63 (cu1 := ze_X cD (ze_M cA ad (va_up len nr p0.toNatClampNeg) (sp_fl σ nr p1))) (zm_Fl (by rw [hI.2.1, nI_clamp (by omega)]) hw1) (fun H locs hP hD hS => ?_)
            refine lv_aload_n hx hb dX3_reel_64 rfl (lv_at hl 0 rfl) ?_
            refine lv_dup hx hb dX3_reel_65 rfl ?_
            refine zw_getf (r := (20, 0, 0)) (v := .int ((sp_fl σ nr p1) (0, 0, 0) 0)) (C := RX3) (T := TX3) (N := 17) (ci := 3) hx hb hts hwX3 hown hK hP (hM 0 (by decide)) rfl rfl 0 (by decide) (hts (.fieldLink RX3 47 "FourTrackDeckModel" "reels" "I") (by decide +kernel)) (fun _ h9 => h9) rfl dX3_reel_66 ?_
            refine lv_iconst (v := 1) hx hb dX3_reel_69 (by decide) ?_
            refine lv_iadd hx hb dX3_reel_70 ?_
            refine zw_putf (r := (20, 0, 0)) (v := .int (((sp_fl σ nr p1) (0, 0, 0) 0) + 1)) (C := RX3) (T := TX3) (N := 17) (ci := 3) hx hb hts hwX3 tyX3 tyX3_ok nmX3 hown hK hP hD hS (hM 0 (by decide)) rfl rfl 0 (by decide) (hts (.fieldLink RX3 47 "FourTrackDeckModel" "reels" "I") (by decide +kernel)) (fun _ h9 => h9) rfl (ty := .int) (by decide +kernel) rfl rfl (Nat.le_of_ble_eq_true rfl) dX3_reel_71 (cu1 := ze_X cD (ze_M cA ad (va_up len nr p0.toNatClampNeg) (sp_s (sp_fl σ nr p1) (0, 0, 0) 0 (((sp_fl σ nr p1) (0, 0, 0) 0) + 1)))) (zm_D rfl) (fun H locs hP hD hS => ?_)
            refine lv_aload_n hx hb dX3_reel_74 rfl (lv_at hl 0 rfl) ?_
            refine lv_aload_n hx hb dX3_reel_75 rfl (lv_at hl 0 rfl) ?_
            refine zw_getf (r := (20, 0, 0)) (v := .int ((sp_s (sp_fl σ nr p1) (0, 0, 0) 0 (((sp_fl σ nr p1) (0, 0, 0) 0) + 1)) (0, 0, 0) 0)) (C := RX3) (T := TX3) (N := 17) (ci := 3) hx hb hts hwX3 hown hK hP (hM 0 (by decide)) rfl rfl 0 (by decide) (hts (.fieldLink RX3 47 "FourTrackDeckModel" "reels" "I") (by decide +kernel)) (fun _ h9 => h9) rfl dX3_reel_76 ?_
            refine lv_iconst (v := 1) hx hb dX3_reel_79 (by decide) ?_
            refine lv_isub hx hb dX3_reel_80 ?_
            refine zw_cV (r := (20, 0, 0)) (As := [.int (((sp_s (sp_fl σ nr p1) (0, 0, 0) 0 (((sp_fl σ nr p1) (0, 0, 0) 0) + 1)) (0, 0, 0) 0) - 1)]) (rest := []) (st1 := [.int (((sp_s (sp_fl σ nr p1) (0, 0, 0) 0 (((sp_fl σ nr p1) (0, 0, 0) 0) + 1)) (0, 0, 0) 0) - 1)]) ⟨hx, hb, hml, hown, hts⟩ (cm_done (σ := (sp_s (sp_fl σ nr p1) (0, 0, 0) 0 (((sp_fl σ nr p1) (0, 0, 0) 0) + 1))) hM (((sp_s (sp_fl σ nr p1) (0, 0, 0) 0 (((sp_fl σ nr p1) (0, 0, 0) 0) + 1)) (0, 0, 0) 0) - 1)) (cwV 1 hts gX3_reel_X3_done rfl rfl rfl (by decide +kernel) ⟨Nat.le_of_ble_eq_true rfl, Nat.le_of_ble_eq_true rfl⟩) (hM 0 (by decide)) rfl rfl rfl hK hP hD hS hA hN rfl hl.1 rfl (Nat.le_of_ble_eq_true rfl) rfl dX3_reel_81 ⟨Nat.zero_le _, Nat.zero_le _⟩ (fun H locs hP hD hS => ?_)
            exact zw_iret hx hb hr hlk hK hP hD hS dX3_reel_84 (by rw [sp_reel_ok hw0 hw1 hn8]; exact congrArg (fun z => some (Value.int z)) (by show nI nr = (σ (0, 0, 0) 0 + 1) - 1; rw [hI.2.1, Int32.add_sub_cancel])) (by rw [sp_reel_ok hw0 hw1 hn8, ← hI.2.1]; rfl)
          · refine lv_aload_n hx hb dX3_reel_37 rfl (lv_at hl 0 rfl) ?_
            refine lv_iconst (v := 5) hx hb dX3_reel_38 (by decide) ?_
            refine lv_iconst (v := (-1)) hx hb dX3_reel_39 (by decide) ?_
            refine zw_cV (r := (20, 0, 0)) (As := [.int 5, .int (-1)]) (rest := []) (st1 := [.int (-1)]) ⟨hx, hb, hml, hown, hts⟩ (cm_fails (σ := σ) hM 5 (-1)) (cwV 2 hts gX3_reel_X3_fails rfl rfl rfl (by decide +kernel) ⟨Nat.le_of_ble_eq_true rfl, Nat.le_of_ble_eq_true rfl⟩) (hM 0 (by decide)) rfl rfl rfl hK hP hD hS hA hN rfl hl.1 rfl (Nat.le_of_ble_eq_true rfl) rfl dX3_reel_40 ⟨Nat.zero_le _, Nat.zero_le _⟩ (fun H locs hP hD hS => ?_)
            exact zw_iret hx hb hr hlk hK hP hD hS dX3_reel_43 (by rw [show sp_reel nr len σ p0 p1 = (-1, nr, len, sp_e σ 5) from by simp only [sp_reel, if_pos (show sp_w p0 1 64 from ⟨Int32.not_lt.mp c_1, Int32.not_lt.mp c_2⟩), if_pos (show sp_w p1 0 15 from ⟨Int32.not_lt.mp c_3, c_4⟩)]; rw [if_neg (fun q => by have e : nI nr = nI 8 := hI.2.1.symm.trans c_5; have e2 := (nI_eq (by omega) (by decide)).mp e; omega)]]) (by rw [show sp_reel nr len σ p0 p1 = (-1, nr, len, sp_e σ 5) from by simp only [sp_reel, if_pos (show sp_w p0 1 64 from ⟨Int32.not_lt.mp c_1, Int32.not_lt.mp c_2⟩), if_pos (show sp_w p1 0 15 from ⟨Int32.not_lt.mp c_3, c_4⟩)]; rw [if_neg (fun q => by have e : nI nr = nI 8 := hI.2.1.symm.trans c_5; have e2 := (nI_eq (by omega) (by decide)).mp e; omega)]])
        · refine lv_aload_n hx hb dX3_reel_21 rfl (lv_at hl 0 rfl) ?_
          refine lv_iconst (v := 1) hx hb dX3_reel_22 (by decide) ?_
          refine lv_iconst (v := (-1)) hx hb dX3_reel_23 (by decide) ?_
          refine zw_cV (r := (20, 0, 0)) (As := [.int 1, .int (-1)]) (rest := []) (st1 := [.int (-1)]) ⟨hx, hb, hml, hown, hts⟩ (cm_fails (σ := σ) hM 1 (-1)) (cwV 2 hts gX3_reel_X3_fails rfl rfl rfl (by decide +kernel) ⟨Nat.le_of_ble_eq_true rfl, Nat.le_of_ble_eq_true rfl⟩) (hM 0 (by decide)) rfl rfl rfl hK hP hD hS hA hN rfl hl.1 rfl (Nat.le_of_ble_eq_true rfl) rfl dX3_reel_24 ⟨Nat.zero_le _, Nat.zero_le _⟩ (fun H locs hP hD hS => ?_)
          exact zw_iret hx hb hr hlk hK hP hD hS dX3_reel_27 (by rw [show sp_reel nr len σ p0 p1 = (-1, nr, len, sp_e σ 1) from by simp only [sp_reel, if_pos (show sp_w p0 1 64 from ⟨Int32.not_lt.mp c_1, Int32.not_lt.mp c_2⟩), if_neg (show ¬ sp_w p1 0 15 from fun q => c_4 q.2), ite_self]]) (by rw [show sp_reel nr len σ p0 p1 = (-1, nr, len, sp_e σ 1) from by simp only [sp_reel, if_pos (show sp_w p0 1 64 from ⟨Int32.not_lt.mp c_1, Int32.not_lt.mp c_2⟩), if_neg (show ¬ sp_w p1 0 15 from fun q => c_4 q.2), ite_self]])
