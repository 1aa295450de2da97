def sp_c (σ : sp_S) (a b : Int32) : Int32 := if σ (0, 0, 0) 5 = -1 then 2 else if (0 ≤ a ∧ a < σ (0, 0, 0) 5) ∧ 0 ≤ b ∧ b < σ (0, 0, 0) 6 then 0 else 3
theorem ze_ci {σ : sp_S} {a b : Int32} (h : sp_c σ a b = 0) (h5 : σ (0, 0, 0) 5 ≤ 16) (h6 : σ (0, 0, 0) 6 ≤ 16) : vp_in (a * 16 + b) 256 := by
  unfold sp_c at h
  split at h
  · exact absurd h (by decide)
  · split at h
    · rename_i h2
      obtain ⟨⟨a1, a2⟩, b1, b2⟩ := h2
      obtain ⟨j, hj, ej⟩ := nI_of2 (x := a) (M := 16) (n := 16) rfl (Int32.not_lt.mpr a1) (Int32.le_of_lt (Int32.lt_of_lt_of_le a2 h5))
      obtain ⟨k, hk, ek⟩ := nI_of2 (x := b) (M := 16) (n := 16) rfl (Int32.not_lt.mpr b1) (Int32.le_of_lt (Int32.lt_of_lt_of_le b2 h6))
      have a3 := ze_lt (Int32.lt_of_lt_of_le a2 h5)
      have b3 := ze_lt (Int32.lt_of_lt_of_le b2 h6)
      rw [ej, nI_toInt (by omega)] at a3
      rw [ek, nI_toInt (by omega)] at b3
      have h16 : (16 : Int32).toInt = 16 := rfl
      rw [ej, ek, show (16 : Int32) = nI 16 from rfl, pk_mul, nI_add]
      exact vp_in_nI (by omega) (by decide)
    · exact absurd h (by decide)
def sp_b (σ : sp_S) (i : Nat) : Int32 := (if σ (8, i, 0) 1 = 0 then 0 else 1) + (if σ (8, i, 1) 1 = 0 then 0 else 2) + (if σ (8, i, 2) 1 = 0 then 0 else 4) + (if σ (8, i, 3) 1 = 0 then 0 else 8)
def sp_ct (nr : Nat) (σ : sp_S) (a : Int32) : Int32 := if sp_r nr a then sp_b σ a.toNatClampNeg else -1
def sp_strip (nr : Nat) (len : Nat → Nat) (σ : sp_S) (p0 p1 : Int32) : Int32 × sp_S := if sp_v nr p0 p1 then ((if σ (8, p0.toNatClampNeg, p1.toNatClampNeg) 1 = 0 then 0 else 1), sp_e (sp_s σ (8, p0.toNatClampNeg, p1.toNatClampNeg) 1 0) 0) else (-1, sp_e σ 1)
def sp_thread (nr : Nat) (len : Nat → Nat) (σ : sp_S) (p0 : Int32) : Int32 × sp_S := if p0 = -1 then (σ (0, 0, 0) 1, sp_e (sp_s σ (0, 0, 0) 1 p0) 0) else if sp_r nr p0 then (σ (0, 0, 0) 1, sp_e (sp_s σ (0, 0, 0) 1 p0) 0) else (-1, sp_e σ 1)
def sp_head (nr : Nat) (len : Nat → Nat) (σ : sp_S) (p0 p1 : Int32) : Int32 × sp_S := if sp_t p0 then (if sp_w p1 (-8) 8 then (σ (2, 0, 0) p0.toNatClampNeg, sp_e (sp_s σ (2, 0, 0) p0.toNatClampNeg p1) 0) else (0, sp_e σ 1)) else (0, sp_e σ 1)
def sp_arm (nr : Nat) (len : Nat → Nat) (σ : sp_S) (p0 p1 : Int32) : Int32 × sp_S := if sp_t p0 then (if sp_w p1 0 3 then (σ (3, 0, 0) p0.toNatClampNeg, sp_e (sp_s σ (3, 0, 0) p0.toNatClampNeg p1) 0) else (0, sp_e σ 1)) else (0, sp_e σ 1)
def sp_source (nr : Nat) (len : Nat → Nat) (σ : sp_S) (p0 p1 : Int32) : Int32 × sp_S := (σ (0, 0, 0) 3, sp_e (sp_s (sp_s σ (0, 0, 0) 3 p0) (0, 0, 0) 4 p1) 0)
def sp_wind (nr : Nat) (len : Nat → Nat) (σ : sp_S) (p0 : Int32) : Int32 × sp_S := if sp_w p0 (-1000) 1000 then (σ (0, 0, 0) 2 + p0, sp_e (sp_s σ (0, 0, 0) 2 (σ (0, 0, 0) 2 + p0)) 0) else (σ (0, 0, 0) 2, sp_e σ 1)
def sp_read (nr : Nat) (len : Nat → Nat) (σ : sp_S) (p0 : Int32) : Int32 × sp_S := if sp_v nr (σ (0, 0, 0) 1) p0 then (sp_n len σ (σ (0, 0, 0) 1).toNatClampNeg p0.toNatClampNeg (σ (0, 0, 0) 2 + σ (2, 0, 0) p0.toNatClampNeg), sp_e σ (sp_f len σ (σ (0, 0, 0) 1).toNatClampNeg p0.toNatClampNeg (σ (0, 0, 0) 2 + σ (2, 0, 0) p0.toNatClampNeg))) else (0, sp_e σ (if sp_t p0 then 5 else 1))
def sp_write (nr : Nat) (len : Nat → Nat) (σ : sp_S) (p0 p1 : Int32) : Int32 × sp_S := if sp_v nr (σ (0, 0, 0) 1) p0 then (sp_n len (sp_put len σ (σ (0, 0, 0) 1).toNatClampNeg p0.toNatClampNeg (σ (0, 0, 0) 2 + σ (2, 0, 0) p0.toNatClampNeg) p1) (σ (0, 0, 0) 1).toNatClampNeg p0.toNatClampNeg (σ (0, 0, 0) 2 + σ (2, 0, 0) p0.toNatClampNeg), sp_e (sp_put len σ (σ (0, 0, 0) 1).toNatClampNeg p0.toNatClampNeg (σ (0, 0, 0) 2 + σ (2, 0, 0) p0.toNatClampNeg) p1) (sp_f len (sp_put len σ (σ (0, 0, 0) 1).toNatClampNeg p0.toNatClampNeg (σ (0, 0, 0) 2 + σ (2, 0, 0) p0.toNatClampNeg) p1) (σ (0, 0, 0) 1).toNatClampNeg p0.toNatClampNeg (σ (0, 0, 0) 2 + σ (2, 0, 0) p0.toNatClampNeg))) else (0, sp_e σ (if sp_t p0 then 5 else 1))
def sp_cue (nr : Nat) (len : Nat → Nat) (σ : sp_S) (p0 p1 p2 : Int32) : Int32 × sp_S := if sp_c σ p0 p1 = 0 then (σ (5, 0, 0) (p0 * 16 + p1).toNatClampNeg, sp_e (sp_s σ (5, 0, 0) (p0 * 16 + p1).toNatClampNeg p2) 0) else (0, sp_e σ (sp_c σ p0 p1))
def sp_seek (nr : Nat) (len : Nat → Nat) (σ : sp_S) (p0 p1 : Int32) : Int32 × sp_S := if sp_c σ p0 p1 = 0 then (σ (5, 0, 0) (p0 * 16 + p1).toNatClampNeg, sp_e (sp_s σ (0, 0, 0) 2 (σ (5, 0, 0) (p0 * 16 + p1).toNatClampNeg)) 0) else (σ (0, 0, 0) 2, sp_e σ (sp_c σ p0 p1))
def sp_trip (nr : Nat) (len : Nat → Nat) (σ : sp_S) (p0 : Int32) : Int32 × sp_S := if p0 = 0 then (σ (0, 0, 0) 7, σ) else if p0 = 1 then (σ (0, 0, 0) 8, σ) else (-1, σ)
def sp_meter (nr : Nat) (len : Nat → Nat) (σ : sp_S) (p0 : Int32) : Int32 × sp_S := if sp_t p0 then (σ (4, 0, 0) p0.toNatClampNeg, σ) else (0, σ)
def sp_count (nr : Nat) (len : Nat → Nat) (σ : sp_S) (p0 : Int32) : Int32 × sp_S := if p0 = 0 then (σ (0, 0, 0) 0, σ) else if p0 = 1 then (σ (0, 0, 0) 1, σ) else if p0 = 2 then (σ (0, 0, 0) 2, σ) else if p0 = 3 then (σ (0, 0, 0) 3, σ) else if p0 = 4 then (σ (0, 0, 0) 5, σ) else if p0 = 5 then (σ (0, 0, 0) 6, σ) else if sp_r nr (p0 - 10) then (sp_b σ (p0 - 10).toNatClampNeg, σ) else (-1, σ)
def sp_status (nr : Nat) (len : Nat → Nat) (σ : sp_S) : Int32 × sp_S := (σ (0, 0, 0) 9, σ)
set_option maxHeartbeats 4000000 in
set_option maxRecDepth 100000 in
theorem cd_faultOfCell {l : Launch} {dC : Nat → ClassId} {dI : Nat → Nat → Nat} {cA : Nat → ClassId} {ad : zw_R → Nat} {R : List zw_R} {nr : Nat} {len : Nat → Nat} {σ : sp_S} {cM : zw_R → va_E} (hR : ze_R nr R) (p0 p1 : Int32) : zw_M l yX2_faultOfCell wsX2_faultOfCell { frames := 0, cells := 0, slots := 0, locals := 0 } (ze_E dC dI cA) [.ref (ad (0, 0, 0)), .int p0, .int p1] ad R (ze_X (ze_D cA ad nr len σ) cM) (some (.int (sp_c σ p0 p1))) (ze_X (ze_D cA ad nr len σ) cM) := by
  refine zw_body (cc := cX2_faultOfCell) (maxL := 4) (ret := (some .int)) (by decide) rfl (Nat.le_of_ble_eq_true rfl) ?_
  intro p e s m below meth c A ls hx hb hr hlk hml hts hown hnm hA hK hP hD hS hN hl
  have hl : lv_has ls 4 [(0, .ref (ad (0, 0, 0))), (1, .int p0), (2, .int p1)] := hl
  have hwX2 : ∀ w ∈ u_ws RX2 TX2 15, w ∈ wsX2_faultOfCell := by decide +kernel
  refine lv_aload_n hx hb dX2_faultOfCell_0 rfl (lv_at hl 0 rfl) ?_
  refine zw_getf (r := (0, 0, 0)) (v := .int (σ (0, 0, 0) 5)) (C := RX2) (T := TX2) (N := 15) (ci := 2) hx hb hts hwX2 hown hK hP (hR.1 0 (by decide)) rfl rfl 10 (by decide) (hts (.fieldLink RX2 44 "FourTrackDeck" "sheetRows" "I") (by decide +kernel)) (fun _ h9 => h9) rfl dX2_faultOfCell_1 ?_
  refine lv_iconst (v := (-1)) hx hb dX2_faultOfCell_4 (by decide) ?_
  refine lv_icmp_ne (tgt := 10) hx hb dX2_faultOfCell_5 (by decide) (fun c_1 => ?_) (fun c_1 => ?_)
  · refine lv_iload_n hx hb dX2_faultOfCell_10 rfl (lv_at hl 1 rfl) ?_
    refine lv_if_lt (tgt := 38) hx hb dX2_faultOfCell_11 (by decide) (fun c_2 => ?_) (fun c_2 => ?_)
    · refine lv_iconst (v := 0) hx hb dX2_faultOfCell_38 (by decide) ?_
      refine lv_istore_n (lv' := [(3, .int 0), (0, .ref (ad (0, 0, 0))), (1, .int p0), (2, .int p1)]) hx hb dX2_faultOfCell_39 rfl hl (by decide) rfl (fun ls hl => ?_)
      refine lv_iload_n hx hb dX2_faultOfCell_40 rfl (lv_at hl 0 rfl) ?_
      refine lv_if_eq (tgt := 48) hx hb dX2_faultOfCell_41 (by decide) (fun c_3 => ?_) (fun c_3 => absurd (by decide) c_3)
      refine lv_iconst (v := 3) hx hb dX2_faultOfCell_48 (by decide) ?_
      exact zw_iret hx hb hr hlk hK hP hD hS dX2_faultOfCell_49 (by unfold sp_c; rw [if_neg c_1, if_neg (fun q => Int32.not_lt.mpr q.1.1 c_2)]) rfl
    · refine lv_iload_n hx hb dX2_faultOfCell_14 rfl (lv_at hl 1 rfl) ?_
      refine lv_aload_n hx hb dX2_faultOfCell_15 rfl (lv_at hl 0 rfl) ?_
      refine zw_getf (r := (0, 0, 0)) (v := .int (σ (0, 0, 0) 5)) (C := RX2) (T := TX2) (N := 15) (ci := 2) hx hb hts hwX2 hown hK hP (hR.1 0 (by decide)) rfl rfl 10 (by decide) (hts (.fieldLink RX2 44 "FourTrackDeck" "sheetRows" "I") (by decide +kernel)) (fun _ h9 => h9) rfl dX2_faultOfCell_16 ?_
      refine lv_icmp_ge (tgt := 38) hx hb dX2_faultOfCell_19 (by decide) (fun c_4 => ?_) (fun c_4 => ?_)
      · refine lv_iconst (v := 0) hx hb dX2_faultOfCell_38 (by decide) ?_
        refine lv_istore_n (lv' := [(3, .int 0), (0, .ref (ad (0, 0, 0))), (1, .int p0), (2, .int p1)]) hx hb dX2_faultOfCell_39 rfl hl (by decide) rfl (fun ls hl => ?_)
        refine lv_iload_n hx hb dX2_faultOfCell_40 rfl (lv_at hl 0 rfl) ?_
        refine lv_if_eq (tgt := 48) hx hb dX2_faultOfCell_41 (by decide) (fun c_5 => ?_) (fun c_5 => absurd (by decide) c_5)
        refine lv_iconst (v := 3) hx hb dX2_faultOfCell_48 (by decide) ?_
        exact zw_iret hx hb hr hlk hK hP hD hS dX2_faultOfCell_49 (by unfold sp_c; rw [if_neg c_1, if_neg (fun q => Int32.not_lt.mpr c_4 q.1.2)]) rfl
      · refine lv_iload_n hx hb dX2_faultOfCell_22 rfl (lv_at hl 2 rfl) ?_
        refine lv_if_lt (tgt := 38) hx hb dX2_faultOfCell_23 (by decide) (fun c_6 => ?_) (fun c_6 => ?_)
        · refine lv_iconst (v := 0) hx hb dX2_faultOfCell_38 (by decide) ?_
          refine lv_istore_n (lv' := [(3, .int 0), (0, .ref (ad (0, 0, 0))), (1, .int p0), (2, .int p1)]) hx hb dX2_faultOfCell_39 rfl hl (by decide) rfl (fun ls hl => ?_)
          refine lv_iload_n hx hb dX2_faultOfCell_40 rfl (lv_at hl 0 rfl) ?_
          refine lv_if_eq (tgt := 48) hx hb dX2_faultOfCell_41 (by decide) (fun c_7 => ?_) (fun c_7 => absurd (by decide) c_7)
          refine lv_iconst (v := 3) hx hb dX2_faultOfCell_48 (by decide) ?_
          exact zw_iret hx hb hr hlk hK hP hD hS dX2_faultOfCell_49 (by unfold sp_c; rw [if_neg c_1, if_neg (fun q => Int32.not_lt.mpr q.2.1 c_6)]) rfl
        · refine lv_iload_n hx hb dX2_faultOfCell_26 rfl (lv_at hl 2 rfl) ?_
          refine lv_aload_n hx hb dX2_faultOfCell_27 rfl (lv_at hl 0 rfl) ?_
          refine zw_getf (r := (0, 0, 0)) (v := .int (σ (0, 0, 0) 6)) (C := RX2) (T := TX2) (N := 15) (ci := 2) hx hb hts hwX2 hown hK hP (hR.1 0 (by decide)) rfl rfl 11 (by decide) (hts (.fieldLink RX2 47 "FourTrackDeck" "sheetWidth" "I") (by decide +kernel)) (fun _ h9 => h9) rfl dX2_faultOfCell_28 ?_
          refine lv_icmp_ge (tgt := 38) hx hb dX2_faultOfCell_31 (by decide) (fun c_8 => ?_) (fun c_8 => ?_)
          · refine lv_iconst (v := 0) hx hb dX2_faultOfCell_38 (by decide) ?_
            refine lv_istore_n (lv' := [(3, .int 0), (0, .ref (ad (0, 0, 0))), (1, .int p0), (2, .int p1)]) hx hb dX2_faultOfCell_39 rfl hl (by decide) rfl (fun ls hl => ?_)
            refine lv_iload_n hx hb dX2_faultOfCell_40 rfl (lv_at hl 0 rfl) ?_
            refine lv_if_eq (tgt := 48) hx hb dX2_faultOfCell_41 (by decide) (fun c_9 => ?_) (fun c_9 => absurd (by decide) c_9)
            refine lv_iconst (v := 3) hx hb dX2_faultOfCell_48 (by decide) ?_
            exact zw_iret hx hb hr hlk hK hP hD hS dX2_faultOfCell_49 (by unfold sp_c; rw [if_neg c_1, if_neg (fun q => Int32.not_lt.mpr c_8 q.2.2)]) rfl
          · refine lv_iconst (v := 1) hx hb dX2_faultOfCell_34 (by decide) ?_
            refine lv_goto (tgt := 39) hx hb dX2_faultOfCell_35 (by decide) ?_
            refine lv_istore_n (lv' := [(3, .int 1), (0, .ref (ad (0, 0, 0))), (1, .int p0), (2, .int p1)]) hx hb dX2_faultOfCell_39 rfl hl (by decide) rfl (fun ls hl => ?_)
            refine lv_iload_n hx hb dX2_faultOfCell_40 rfl (lv_at hl 0 rfl) ?_
            refine lv_if_eq (tgt := 48) hx hb dX2_faultOfCell_41 (by decide) (fun c_10 => absurd c_10 (by decide)) (fun c_10 => ?_)
            refine lv_iconst (v := 0) hx hb dX2_faultOfCell_44 (by decide) ?_
            refine lv_goto (tgt := 49) hx hb dX2_faultOfCell_45 (by decide) ?_
            exact zw_iret hx hb hr hlk hK hP hD hS dX2_faultOfCell_49 (by unfold sp_c; rw [if_neg c_1, if_pos ⟨⟨Int32.not_lt.mp c_2, Int32.not_le.mp c_4⟩, Int32.not_lt.mp c_6, Int32.not_le.mp c_8⟩]) rfl
  · refine lv_iconst (v := 2) hx hb dX2_faultOfCell_8 (by decide) ?_
    exact zw_iret hx hb hr hlk hK hP hD hS dX2_faultOfCell_9 (by unfold sp_c; rw [if_pos c_1]) rfl
set_option maxHeartbeats 4000000 in
set_option maxRecDepth 100000 in
theorem cd_bits {l : Launch} {dC : Nat → ClassId} {dI : Nat → Nat → Nat} {cA : Nat → ClassId} {ad : zw_R → Nat} {R : List zw_R} {nr : Nat} {len : Nat → Nat} {σ : sp_S} {cM : zw_R → va_E} (hR : ze_R nr R) (i : Nat) (hi : i < nr) : zw_M l yX0_bitsOfTracks wsX0_bitsOfTracks { frames := 0, cells := 0, slots := 0, locals := 0 } (ze_E dC dI cA) [.ref (ad (6, i, 0))] ad R (ze_X (ze_D cA ad nr len σ) cM) (some (.int (sp_b σ i))) (ze_X (ze_D cA ad nr len σ) cM) := by
  refine zw_body (cc := cX0_bitsOfTracks) (maxL := 3) (ret := (some .int)) (by decide) rfl (Nat.le_of_ble_eq_true rfl) ?_
  intro p e s m below meth c A ls hx hb hr hlk hml hts hown hnm hA hK hP hD hS hN hl
  have hl : lv_has ls 3 [(0, .ref (ad (6, i, 0)))] := hl
  have hwX0 : ∀ w ∈ u_ws RX0 TX0 1, w ∈ wsX0_bitsOfTracks := by decide +kernel
  have hwX1 : ∀ w ∈ u_ws RX1 TX1 3, w ∈ wsX0_bitsOfTracks := by decide +kernel
  refine lv_iconst (v := 0) hx hb dX0_bitsOfTracks_0 (by decide) ?_
  refine lv_istore_n (lv' := [(1, .int 0), (0, .ref (ad (6, i, 0)))]) hx hb dX0_bitsOfTracks_1 rfl hl (by decide) rfl (fun ls hl => ?_)
  refine lv_iconst (v := 0) hx hb dX0_bitsOfTracks_2 (by decide) ?_
  refine lv_istore_n (lv' := [(2, .int 0), (1, .int 0), (0, .ref (ad (6, i, 0)))]) hx hb dX0_bitsOfTracks_3 rfl hl (by decide) rfl (fun ls hl => ?_)
  refine lv_iload_n hx hb dX0_bitsOfTracks_4 rfl (lv_at hl 0 rfl) ?_
  refine lv_iconst (v := 4) hx hb dX0_bitsOfTracks_5 (by decide) ?_
  refine lv_icmp_ge (tgt := 33) hx hb dX0_bitsOfTracks_6 (by decide) (fun c_1 => absurd c_1 (by decide)) (fun c_1 => ?_)
  refine lv_aload_n hx hb dX0_bitsOfTracks_9 rfl (lv_at hl 2 rfl) ?_
  refine zw_getf (r := (6, i, 0)) (v := .ref (ad (7, i, 0))) (C := RX0) (T := TX0) (N := 1) (ci := 0) hx hb hts hwX0 hown hK hP (hR.2 i hi).1 rfl rfl 0 (by decide) (hts (.fieldLink RX0 11 "FourTrackDeck$Reel" "tracks" "[LFourTrackDeck$Track;") (by decide +kernel)) (fun _ h9 => h9) rfl dX0_bitsOfTracks_10 ?_
  refine lv_iload_n hx hb dX0_bitsOfTracks_13 rfl (lv_at hl 0 rfl) ?_
  refine zw_aldq (r := (7, i, 0)) (v := .ref (ad (8, i, 0))) hx hb hK hP (hR.2 i hi).2.1 2 rfl rfl (by unfold vp_in; decide) rfl dX0_bitsOfTracks_14 ?_
  refine zw_getN (r := (8, i, 0)) (v := .int (σ (8, i, 0) 1)) (C := RX1) (T := TX1) (N := 3) (ci := 1) hx hb hts hwX1 hown hK hP ((hR.2 i hi).2.2 0 (by decide)).1 rfl rfl 2 (by decide) ((hN.1 ("FourTrackDeck$Reel", 20, "FourTrackDeck$Track", "isThere", "Z", "FourTrackDeck") (by decide +kernel)).use rfl) (fun _ h9 => h9) rfl dX0_bitsOfTracks_15 ?_
  refine lv_if_eq (tgt := 27) hx hb dX0_bitsOfTracks_18 (by decide) (fun c_2 => ?_) (fun c_2 => ?_)
  · refine lv_iinc (v := 1) (lv' := [(2, .int 1), (1, .int 0), (0, .ref (ad (6, i, 0)))]) hx hb dX0_bitsOfTracks_27 hl (k := 0) rfl rfl (by decide) rfl (fun ls hl => ?_)
    refine lv_goto (tgt := 4) hx hb dX0_bitsOfTracks_30 (by decide) ?_
    refine lv_iload_n hx hb dX0_bitsOfTracks_4 rfl (lv_at hl 0 rfl) ?_
    refine lv_iconst (v := 4) hx hb dX0_bitsOfTracks_5 (by decide) ?_
    refine lv_icmp_ge (tgt := 33) hx hb dX0_bitsOfTracks_6 (by decide) (fun c_3 => absurd c_3 (by decide)) (fun c_3 => ?_)
    refine lv_aload_n hx hb dX0_bitsOfTracks_9 rfl (lv_at hl 2 rfl) ?_
    refine zw_getf (r := (6, i, 0)) (v := .ref (ad (7, i, 0))) (C := RX0) (T := TX0) (N := 1) (ci := 0) hx hb hts hwX0 hown hK hP (hR.2 i hi).1 rfl rfl 0 (by decide) (hts (.fieldLink RX0 11 "FourTrackDeck$Reel" "tracks" "[LFourTrackDeck$Track;") (by decide +kernel)) (fun _ h9 => h9) rfl dX0_bitsOfTracks_10 ?_
    refine lv_iload_n hx hb dX0_bitsOfTracks_13 rfl (lv_at hl 0 rfl) ?_
    refine zw_aldq (r := (7, i, 0)) (v := .ref (ad (8, i, 1))) hx hb hK hP (hR.2 i hi).2.1 2 rfl rfl (by unfold vp_in; decide) rfl dX0_bitsOfTracks_14 ?_
    refine zw_getN (r := (8, i, 1)) (v := .int (σ (8, i, 1) 1)) (C := RX1) (T := TX1) (N := 3) (ci := 1) hx hb hts hwX1 hown hK hP ((hR.2 i hi).2.2 1 (by decide)).1 rfl rfl 2 (by decide) ((hN.1 ("FourTrackDeck$Reel", 20, "FourTrackDeck$Track", "isThere", "Z", "FourTrackDeck") (by decide +kernel)).use rfl) (fun _ h9 => h9) rfl dX0_bitsOfTracks_15 ?_
    refine lv_if_eq (tgt := 27) hx hb dX0_bitsOfTracks_18 (by decide) (fun c_4 => ?_) (fun c_4 => ?_)
    · refine lv_iinc (v := 2) (lv' := [(2, .int 2), (1, .int 0), (0, .ref (ad (6, i, 0)))]) hx hb dX0_bitsOfTracks_27 hl (k := 0) rfl rfl (by decide) rfl (fun ls hl => ?_)
      refine lv_goto (tgt := 4) hx hb dX0_bitsOfTracks_30 (by decide) ?_
      refine lv_iload_n hx hb dX0_bitsOfTracks_4 rfl (lv_at hl 0 rfl) ?_
      refine lv_iconst (v := 4) hx hb dX0_bitsOfTracks_5 (by decide) ?_
      refine lv_icmp_ge (tgt := 33) hx hb dX0_bitsOfTracks_6 (by decide) (fun c_5 => absurd c_5 (by decide)) (fun c_5 => ?_)
      refine lv_aload_n hx hb dX0_bitsOfTracks_9 rfl (lv_at hl 2 rfl) ?_
      refine zw_getf (r := (6, i, 0)) (v := .ref (ad (7, i, 0))) (C := RX0) (T := TX0) (N := 1) (ci := 0) hx hb hts hwX0 hown hK hP (hR.2 i hi).1 rfl rfl 0 (by decide) (hts (.fieldLink RX0 11 "FourTrackDeck$Reel" "tracks" "[LFourTrackDeck$Track;") (by decide +kernel)) (fun _ h9 => h9) rfl dX0_bitsOfTracks_10 ?_
      refine lv_iload_n hx hb dX0_bitsOfTracks_13 rfl (lv_at hl 0 rfl) ?_
      refine zw_aldq (r := (7, i, 0)) (v := .ref (ad (8, i, 2))) hx hb hK hP (hR.2 i hi).2.1 2 rfl rfl (by unfold vp_in; decide) rfl dX0_bitsOfTracks_14 ?_
      refine zw_getN (r := (8, i, 2)) (v := .int (σ (8, i, 2) 1)) (C := RX1) (T := TX1) (N := 3) (ci := 1) hx hb hts hwX1 hown hK hP ((hR.2 i hi).2.2 2 (by decide)).1 rfl rfl 2 (by decide) ((hN.1 ("FourTrackDeck$Reel", 20, "FourTrackDeck$Track", "isThere", "Z", "FourTrackDeck") (by decide +kernel)).use rfl) (fun _ h9 => h9) rfl dX0_bitsOfTracks_15 ?_
      refine lv_if_eq (tgt := 27) hx hb dX0_bitsOfTracks_18 (by decide) (fun c_6 => ?_) (fun c_6 => ?_)
      · refine lv_iinc (v := 3) (lv' := [(2, .int 3), (1, .int 0), (0, .ref (ad (6, i, 0)))]) hx hb dX0_bitsOfTracks_27 hl (k := 0) rfl rfl (by decide) rfl (fun ls hl => ?_)
        refine lv_goto (tgt := 4) hx hb dX0_bitsOfTracks_30 (by decide) ?_
        refine lv_iload_n hx hb dX0_bitsOfTracks_4 rfl (lv_at hl 0 rfl) ?_
        refine lv_iconst (v := 4) hx hb dX0_bitsOfTracks_5 (by decide) ?_
        refine lv_icmp_ge (tgt := 33) hx hb dX0_bitsOfTracks_6 (by decide) (fun c_7 => absurd c_7 (by decide)) (fun c_7 => ?_)
        refine lv_aload_n hx hb dX0_bitsOfTracks_9 rfl (lv_at hl 2 rfl) ?_
        refine zw_getf (r := (6, i, 0)) (v := .ref (ad (7, i, 0))) (C := RX0) (T := TX0) (N := 1) (ci := 0) hx hb hts hwX0 hown hK hP (hR.2 i hi).1 rfl rfl 0 (by decide) (hts (.fieldLink RX0 11 "FourTrackDeck$Reel" "tracks" "[LFourTrackDeck$Track;") (by decide +kernel)) (fun _ h9 => h9) rfl dX0_bitsOfTracks_10 ?_
        refine lv_iload_n hx hb dX0_bitsOfTracks_13 rfl (lv_at hl 0 rfl) ?_
        refine zw_aldq (r := (7, i, 0)) (v := .ref (ad (8, i, 3))) hx hb hK hP (hR.2 i hi).2.1 2 rfl rfl (by unfold vp_in; decide) rfl dX0_bitsOfTracks_14 ?_
        refine zw_getN (r := (8, i, 3)) (v := .int (σ (8, i, 3) 1)) (C := RX1) (T := TX1) (N := 3) (ci := 1) hx hb hts hwX1 hown hK hP ((hR.2 i hi).2.2 3 (by decide)).1 rfl rfl 2 (by decide) ((hN.1 ("FourTrackDeck$Reel", 20, "FourTrackDeck$Track", "isThere", "Z", "FourTrackDeck") (by decide +kernel)).use rfl) (fun _ h9 => h9) rfl dX0_bitsOfTracks_15 ?_
        refine lv_if_eq (tgt := 27) hx hb dX0_bitsOfTracks_18 (by decide) (fun c_8 => ?_) (fun c_8 => ?_)
        · refine lv_iinc (v := 4) (lv' := [(2, .int 4), (1, .int 0), (0, .ref (ad (6, i, 0)))]) hx hb dX0_bitsOfTracks_27 hl (k := 0) rfl rfl (by decide) rfl (fun ls hl => ?_)
          refine lv_goto (tgt := 4) hx hb dX0_bitsOfTracks_30 (by decide) ?_
          refine lv_iload_n hx hb dX0_bitsOfTracks_4 rfl (lv_at hl 0 rfl) ?_
          refine lv_iconst (v := 4) hx hb dX0_bitsOfTracks_5 (by decide) ?_
          refine lv_icmp_ge (tgt := 33) hx hb dX0_bitsOfTracks_6 (by decide) (fun c_9 => ?_) (fun c_9 => absurd (by decide) c_9)
          refine lv_iload_n hx hb dX0_bitsOfTracks_33 rfl (lv_at hl 1 rfl) ?_
          exact zw_iret hx hb hr hlk hK hP hD hS dX0_bitsOfTracks_34 (by simp only [sp_b, if_pos c_2, if_pos c_4, if_pos c_6, if_pos c_8] <;> rfl) rfl
        · refine lv_iload_n hx hb dX0_bitsOfTracks_21 rfl (lv_at hl 1 rfl) ?_
          refine lv_iconst (v := 1) hx hb dX0_bitsOfTracks_22 (by decide) ?_
          refine lv_iload_n hx hb dX0_bitsOfTracks_23 rfl (lv_at hl 0 rfl) ?_
          refine lv_ishl hx hb dX0_bitsOfTracks_24 ?_
          refine lv_ior hx hb dX0_bitsOfTracks_25 ?_
          refine lv_istore_n (lv' := [(1, .int (0 ||| ((1 : Int32) <<< ((3 : Int32) &&& 31)))), (2, .int 3), (0, .ref (ad (6, i, 0)))]) hx hb dX0_bitsOfTracks_26 rfl hl (by decide) rfl (fun ls hl => ?_)
          refine lv_iinc (v := 4) (lv' := [(2, .int 4), (1, .int (0 ||| ((1 : Int32) <<< ((3 : Int32) &&& 31)))), (0, .ref (ad (6, i, 0)))]) hx hb dX0_bitsOfTracks_27 hl (k := 1) rfl rfl (by decide) rfl (fun ls hl => ?_)
          refine lv_goto (tgt := 4) hx hb dX0_bitsOfTracks_30 (by decide) ?_
          refine lv_iload_n hx hb dX0_bitsOfTracks_4 rfl (lv_at hl 0 rfl) ?_
          refine lv_iconst (v := 4) hx hb dX0_bitsOfTracks_5 (by decide) ?_
          refine lv_icmp_ge (tgt := 33) hx hb dX0_bitsOfTracks_6 (by decide) (fun c_10 => ?_) (fun c_10 => absurd (by decide) c_10)
          refine lv_iload_n hx hb dX0_bitsOfTracks_33 rfl (lv_at hl 1 rfl) ?_
          exact zw_iret hx hb hr hlk hK hP hD hS dX0_bitsOfTracks_34 (by simp only [sp_b, if_pos c_2, if_pos c_4, if_pos c_6, if_neg c_8] <;> rfl) rfl
      · refine lv_iload_n hx hb dX0_bitsOfTracks_21 rfl (lv_at hl 1 rfl) ?_
        refine lv_iconst (v := 1) hx hb dX0_bitsOfTracks_22 (by decide) ?_
        refine lv_iload_n hx hb dX0_bitsOfTracks_23 rfl (lv_at hl 0 rfl) ?_
        refine lv_ishl hx hb dX0_bitsOfTracks_24 ?_
        refine lv_ior hx hb dX0_bitsOfTracks_25 ?_
        refine lv_istore_n (lv' := [(1, .int (0 ||| ((1 : Int32) <<< ((2 : Int32) &&& 31)))), (2, .int 2), (0, .ref (ad (6, i, 0)))]) hx hb dX0_bitsOfTracks_26 rfl hl (by decide) rfl (fun ls hl => ?_)
        refine lv_iinc (v := 3) (lv' := [(2, .int 3), (1, .int (0 ||| ((1 : Int32) <<< ((2 : Int32) &&& 31)))), (0, .ref (ad (6, i, 0)))]) hx hb dX0_bitsOfTracks_27 hl (k := 1) rfl rfl (by decide) rfl (fun ls hl => ?_)
        refine lv_goto (tgt := 4) hx hb dX0_bitsOfTracks_30 (by decide) ?_
        refine lv_iload_n hx hb dX0_bitsOfTracks_4 rfl (lv_at hl 0 rfl) ?_
        refine lv_iconst (v := 4) hx hb dX0_bitsOfTracks_5 (by decide) ?_
        refine lv_icmp_ge (tgt := 33) hx hb dX0_bitsOfTracks_6 (by decide) (fun c_11 => absurd c_11 (by decide)) (fun c_11 => ?_)
        refine lv_aload_n hx hb dX0_bitsOfTracks_9 rfl (lv_at hl 2 rfl) ?_
        refine zw_getf (r := (6, i, 0)) (v := .ref (ad (7, i, 0))) (C := RX0) (T := TX0) (N := 1) (ci := 0) hx hb hts hwX0 hown hK hP (hR.2 i hi).1 rfl rfl 0 (by decide) (hts (.fieldLink RX0 11 "FourTrackDeck$Reel" "tracks" "[LFourTrackDeck$Track;") (by decide +kernel)) (fun _ h9 => h9) rfl dX0_bitsOfTracks_10 ?_
        refine lv_iload_n hx hb dX0_bitsOfTracks_13 rfl (lv_at hl 0 rfl) ?_
        refine zw_aldq (r := (7, i, 0)) (v := .ref (ad (8, i, 3))) hx hb hK hP (hR.2 i hi).2.1 2 rfl rfl (by unfold vp_in; decide) rfl dX0_bitsOfTracks_14 ?_
        refine zw_getN (r := (8, i, 3)) (v := .int (σ (8, i, 3) 1)) (C := RX1) (T := TX1) (N := 3) (ci := 1) hx hb hts hwX1 hown hK hP ((hR.2 i hi).2.2 3 (by decide)).1 rfl rfl 2 (by decide) ((hN.1 ("FourTrackDeck$Reel", 20, "FourTrackDeck$Track", "isThere", "Z", "FourTrackDeck") (by decide +kernel)).use rfl) (fun _ h9 => h9) rfl dX0_bitsOfTracks_15 ?_
        refine lv_if_eq (tgt := 27) hx hb dX0_bitsOfTracks_18 (by decide) (fun c_12 => ?_) (fun c_12 => ?_)
        · refine lv_iinc (v := 4) (lv' := [(2, .int 4), (1, .int (0 ||| ((1 : Int32) <<< ((2 : Int32) &&& 31)))), (0, .ref (ad (6, i, 0)))]) hx hb dX0_bitsOfTracks_27 hl (k := 0) rfl rfl (by decide) rfl (fun ls hl => ?_)
          refine lv_goto (tgt := 4) hx hb dX0_bitsOfTracks_30 (by decide) ?_
          refine lv_iload_n hx hb dX0_bitsOfTracks_4 rfl (lv_at hl 0 rfl) ?_
          refine lv_iconst (v := 4) hx hb dX0_bitsOfTracks_5 (by decide) ?_
          refine lv_icmp_ge (tgt := 33) hx hb dX0_bitsOfTracks_6 (by decide) (fun c_13 => ?_) (fun c_13 => absurd (by decide) c_13)
          refine lv_iload_n hx hb dX0_bitsOfTracks_33 rfl (lv_at hl 1 rfl) ?_
          exact zw_iret hx hb hr hlk hK hP hD hS dX0_bitsOfTracks_34 (by simp only [sp_b, if_pos c_2, if_pos c_4, if_neg c_6, if_pos c_12] <;> rfl) rfl
        · refine lv_iload_n hx hb dX0_bitsOfTracks_21 rfl (lv_at hl 1 rfl) ?_
          refine lv_iconst (v := 1) hx hb dX0_bitsOfTracks_22 (by decide) ?_
          refine lv_iload_n hx hb dX0_bitsOfTracks_23 rfl (lv_at hl 0 rfl) ?_
          refine lv_ishl hx hb dX0_bitsOfTracks_24 ?_
          refine lv_ior hx hb dX0_bitsOfTracks_25 ?_
          refine lv_istore_n (lv' := [(1, .int ((0 ||| ((1 : Int32) <<< ((2 : Int32) &&& 31))) ||| ((1 : Int32) <<< ((3 : Int32) &&& 31)))), (2, .int 3), (0, .ref (ad (6, i, 0)))]) hx hb dX0_bitsOfTracks_26 rfl hl (by decide) rfl (fun ls hl => ?_)
          refine lv_iinc (v := 4) (lv' := [(2, .int 4), (1, .int ((0 ||| ((1 : Int32) <<< ((2 : Int32) &&& 31))) ||| ((1 : Int32) <<< ((3 : Int32) &&& 31)))), (0, .ref (ad (6, i, 0)))]) hx hb dX0_bitsOfTracks_27 hl (k := 1) rfl rfl (by decide) rfl (fun ls hl => ?_)
          refine lv_goto (tgt := 4) hx hb dX0_bitsOfTracks_30 (by decide) ?_
          refine lv_iload_n hx hb dX0_bitsOfTracks_4 rfl (lv_at hl 0 rfl) ?_
          refine lv_iconst (v := 4) hx hb dX0_bitsOfTracks_5 (by decide) ?_
          refine lv_icmp_ge (tgt := 33) hx hb dX0_bitsOfTracks_6 (by decide) (fun c_14 => ?_) (fun c_14 => absurd (by decide) c_14)
          refine lv_iload_n hx hb dX0_bitsOfTracks_33 rfl (lv_at hl 1 rfl) ?_
          exact zw_iret hx hb hr hlk hK hP hD hS dX0_bitsOfTracks_34 (by simp only [sp_b, if_pos c_2, if_pos c_4, if_neg c_6, if_neg c_12] <;> rfl) rfl
    · refine lv_iload_n hx hb dX0_bitsOfTracks_21 rfl (lv_at hl 1 rfl) ?_
      refine lv_iconst (v := 1) hx hb dX0_bitsOfTracks_22 (by decide) ?_
      refine lv_iload_n hx hb dX0_bitsOfTracks_23 rfl (lv_at hl 0 rfl) ?_
      refine lv_ishl hx hb dX0_bitsOfTracks_24 ?_
      refine lv_ior hx hb dX0_bitsOfTracks_25 ?_
      refine lv_istore_n (lv' := [(1, .int (0 ||| ((1 : Int32) <<< ((1 : Int32) &&& 31)))), (2, .int 1), (0, .ref (ad (6, i, 0)))]) hx hb dX0_bitsOfTracks_26 rfl hl (by decide) rfl (fun ls hl => ?_)
      refine lv_iinc (v := 2) (lv' := [(2, .int 2), (1, .int (0 ||| ((1 : Int32) <<< ((1 : Int32) &&& 31)))), (0, .ref (ad (6, i, 0)))]) hx hb dX0_bitsOfTracks_27 hl (k := 1) rfl rfl (by decide) rfl (fun ls hl => ?_)
      refine lv_goto (tgt := 4) hx hb dX0_bitsOfTracks_30 (by decide) ?_
      refine lv_iload_n hx hb dX0_bitsOfTracks_4 rfl (lv_at hl 0 rfl) ?_
      refine lv_iconst (v := 4) hx hb dX0_bitsOfTracks_5 (by decide) ?_
      refine lv_icmp_ge (tgt := 33) hx hb dX0_bitsOfTracks_6 (by decide) (fun c_15 => absurd c_15 (by decide)) (fun c_15 => ?_)
      refine lv_aload_n hx hb dX0_bitsOfTracks_9 rfl (lv_at hl 2 rfl) ?_
      refine zw_getf (r := (6, i, 0)) (v := .ref (ad (7, i, 0))) (C := RX0) (T := TX0) (N := 1) (ci := 0) hx hb hts hwX0 hown hK hP (hR.2 i hi).1 rfl rfl 0 (by decide) (hts (.fieldLink RX0 11 "FourTrackDeck$Reel" "tracks" "[LFourTrackDeck$Track;") (by decide +kernel)) (fun _ h9 => h9) rfl dX0_bitsOfTracks_10 ?_
      refine lv_iload_n hx hb dX0_bitsOfTracks_13 rfl (lv_at hl 0 rfl) ?_
      refine zw_aldq (r := (7, i, 0)) (v := .ref (ad (8, i, 2))) hx hb hK hP (hR.2 i hi).2.1 2 rfl rfl (by unfold vp_in; decide) rfl dX0_bitsOfTracks_14 ?_
      refine zw_getN (r := (8, i, 2)) (v := .int (σ (8, i, 2) 1)) (C := RX1) (T := TX1) (N := 3) (ci := 1) hx hb hts hwX1 hown hK hP ((hR.2 i hi).2.2 2 (by decide)).1 rfl rfl 2 (by decide) ((hN.1 ("FourTrackDeck$Reel", 20, "FourTrackDeck$Track", "isThere", "Z", "FourTrackDeck") (by decide +kernel)).use rfl) (fun _ h9 => h9) rfl dX0_bitsOfTracks_15 ?_
      refine lv_if_eq (tgt := 27) hx hb dX0_bitsOfTracks_18 (by decide) (fun c_16 => ?_) (fun c_16 => ?_)
      · refine lv_iinc (v := 3) (lv' := [(2, .int 3), (1, .int (0 ||| ((1 : Int32) <<< ((1 : Int32) &&& 31)))), (0, .ref (ad (6, i, 0)))]) hx hb dX0_bitsOfTracks_27 hl (k := 0) rfl rfl (by decide) rfl (fun ls hl => ?_)
        refine lv_goto (tgt := 4) hx hb dX0_bitsOfTracks_30 (by decide) ?_
        refine lv_iload_n hx hb dX0_bitsOfTracks_4 rfl (lv_at hl 0 rfl) ?_
        refine lv_iconst (v := 4) hx hb dX0_bitsOfTracks_5 (by decide) ?_
        refine lv_icmp_ge (tgt := 33) hx hb dX0_bitsOfTracks_6 (by decide) (fun c_17 => absurd c_17 (by decide)) (fun c_17 => ?_)
        refine lv_aload_n hx hb dX0_bitsOfTracks_9 rfl (lv_at hl 2 rfl) ?_
        refine zw_getf (r := (6, i, 0)) (v := .ref (ad (7, i, 0))) (C := RX0) (T := TX0) (N := 1) (ci := 0) hx hb hts hwX0 hown hK hP (hR.2 i hi).1 rfl rfl 0 (by decide) (hts (.fieldLink RX0 11 "FourTrackDeck$Reel" "tracks" "[LFourTrackDeck$Track;") (by decide +kernel)) (fun _ h9 => h9) rfl dX0_bitsOfTracks_10 ?_
        refine lv_iload_n hx hb dX0_bitsOfTracks_13 rfl (lv_at hl 0 rfl) ?_
        refine zw_aldq (r := (7, i, 0)) (v := .ref (ad (8, i, 3))) hx hb hK hP (hR.2 i hi).2.1 2 rfl rfl (by unfold vp_in; decide) rfl dX0_bitsOfTracks_14 ?_
        refine zw_getN (r := (8, i, 3)) (v := .int (σ (8, i, 3) 1)) (C := RX1) (T := TX1) (N := 3) (ci := 1) hx hb hts hwX1 hown hK hP ((hR.2 i hi).2.2 3 (by decide)).1 rfl rfl 2 (by decide) ((hN.1 ("FourTrackDeck$Reel", 20, "FourTrackDeck$Track", "isThere", "Z", "FourTrackDeck") (by decide +kernel)).use rfl) (fun _ h9 => h9) rfl dX0_bitsOfTracks_15 ?_
        refine lv_if_eq (tgt := 27) hx hb dX0_bitsOfTracks_18 (by decide) (fun c_18 => ?_) (fun c_18 => ?_)
        · refine lv_iinc (v := 4) (lv' := [(2, .int 4), (1, .int (0 ||| ((1 : Int32) <<< ((1 : Int32) &&& 31)))), (0, .ref (ad (6, i, 0)))]) hx hb dX0_bitsOfTracks_27 hl (k := 0) rfl rfl (by decide) rfl (fun ls hl => ?_)
          refine lv_goto (tgt := 4) hx hb dX0_bitsOfTracks_30 (by decide) ?_
          refine lv_iload_n hx hb dX0_bitsOfTracks_4 rfl (lv_at hl 0 rfl) ?_
          refine lv_iconst (v := 4) hx hb dX0_bitsOfTracks_5 (by decide) ?_
          refine lv_icmp_ge (tgt := 33) hx hb dX0_bitsOfTracks_6 (by decide) (fun c_19 => ?_) (fun c_19 => absurd (by decide) c_19)
          refine lv_iload_n hx hb dX0_bitsOfTracks_33 rfl (lv_at hl 1 rfl) ?_
          exact zw_iret hx hb hr hlk hK hP hD hS dX0_bitsOfTracks_34 (by simp only [sp_b, if_pos c_2, if_neg c_4, if_pos c_16, if_pos c_18] <;> rfl) rfl
        · refine lv_iload_n hx hb dX0_bitsOfTracks_21 rfl (lv_at hl 1 rfl) ?_
          refine lv_iconst (v := 1) hx hb dX0_bitsOfTracks_22 (by decide) ?_
          refine lv_iload_n hx hb dX0_bitsOfTracks_23 rfl (lv_at hl 0 rfl) ?_
          refine lv_ishl hx hb dX0_bitsOfTracks_24 ?_
          refine lv_ior hx hb dX0_bitsOfTracks_25 ?_
          refine lv_istore_n (lv' := [(1, .int ((0 ||| ((1 : Int32) <<< ((1 : Int32) &&& 31))) ||| ((1 : Int32) <<< ((3 : Int32) &&& 31)))), (2, .int 3), (0, .ref (ad (6, i, 0)))]) hx hb dX0_bitsOfTracks_26 rfl hl (by decide) rfl (fun ls hl => ?_)
          refine lv_iinc (v := 4) (lv' := [(2, .int 4), (1, .int ((0 ||| ((1 : Int32) <<< ((1 : Int32) &&& 31))) ||| ((1 : Int32) <<< ((3 : Int32) &&& 31)))), (0, .ref (ad (6, i, 0)))]) hx hb dX0_bitsOfTracks_27 hl (k := 1) rfl rfl (by decide) rfl (fun ls hl => ?_)
          refine lv_goto (tgt := 4) hx hb dX0_bitsOfTracks_30 (by decide) ?_
          refine lv_iload_n hx hb dX0_bitsOfTracks_4 rfl (lv_at hl 0 rfl) ?_
          refine lv_iconst (v := 4) hx hb dX0_bitsOfTracks_5 (by decide) ?_
          refine lv_icmp_ge (tgt := 33) hx hb dX0_bitsOfTracks_6 (by decide) (fun c_20 => ?_) (fun c_20 => absurd (by decide) c_20)
          refine lv_iload_n hx hb dX0_bitsOfTracks_33 rfl (lv_at hl 1 rfl) ?_
          exact zw_iret hx hb hr hlk hK hP hD hS dX0_bitsOfTracks_34 (by simp only [sp_b, if_pos c_2, if_neg c_4, if_pos c_16, if_neg c_18] <;> rfl) rfl
      · refine lv_iload_n hx hb dX0_bitsOfTracks_21 rfl (lv_at hl 1 rfl) ?_
        refine lv_iconst (v := 1) hx hb dX0_bitsOfTracks_22 (by decide) ?_
        refine lv_iload_n hx hb dX0_bitsOfTracks_23 rfl (lv_at hl 0 rfl) ?_
        refine lv_ishl hx hb dX0_bitsOfTracks_24 ?_
        refine lv_ior hx hb dX0_bitsOfTracks_25 ?_
        refine lv_istore_n (lv' := [(1, .int ((0 ||| ((1 : Int32) <<< ((1 : Int32) &&& 31))) ||| ((1 : Int32) <<< ((2 : Int32) &&& 31)))), (2, .int 2), (0, .ref (ad (6, i, 0)))]) hx hb dX0_bitsOfTracks_26 rfl hl (by decide) rfl (fun ls hl => ?_)
        refine lv_iinc (v := 3) (lv' := [(2, .int 3), (1, .int ((0 ||| ((1 : Int32) <<< ((1 : Int32) &&& 31))) ||| ((1 : Int32) <<< ((2 : Int32) &&& 31)))), (0, .ref (ad (6, i, 0)))]) hx hb dX0_bitsOfTracks_27 hl (k := 1) rfl rfl (by decide) rfl (fun ls hl => ?_)
        refine lv_goto (tgt := 4) hx hb dX0_bitsOfTracks_30 (by decide) ?_
        refine lv_iload_n hx hb dX0_bitsOfTracks_4 rfl (lv_at hl 0 rfl) ?_
        refine lv_iconst (v := 4) hx hb dX0_bitsOfTracks_5 (by decide) ?_
        refine lv_icmp_ge (tgt := 33) hx hb dX0_bitsOfTracks_6 (by decide) (fun c_21 => absurd c_21 (by decide)) (fun c_21 => ?_)
        refine lv_aload_n hx hb dX0_bitsOfTracks_9 rfl (lv_at hl 2 rfl) ?_
        refine zw_getf (r := (6, i, 0)) (v := .ref (ad (7, i, 0))) (C := RX0) (T := TX0) (N := 1) (ci := 0) hx hb hts hwX0 hown hK hP (hR.2 i hi).1 rfl rfl 0 (by decide) (hts (.fieldLink RX0 11 "FourTrackDeck$Reel" "tracks" "[LFourTrackDeck$Track;") (by decide +kernel)) (fun _ h9 => h9) rfl dX0_bitsOfTracks_10 ?_
        refine lv_iload_n hx hb dX0_bitsOfTracks_13 rfl (lv_at hl 0 rfl) ?_
        refine zw_aldq (r := (7, i, 0)) (v := .ref (ad (8, i, 3))) hx hb hK hP (hR.2 i hi).2.1 2 rfl rfl (by unfold vp_in; decide) rfl dX0_bitsOfTracks_14 ?_
        refine zw_getN (r := (8, i, 3)) (v := .int (σ (8, i, 3) 1)) (C := RX1) (T := TX1) (N := 3) (ci := 1) hx hb hts hwX1 hown hK hP ((hR.2 i hi).2.2 3 (by decide)).1 rfl rfl 2 (by decide) ((hN.1 ("FourTrackDeck$Reel", 20, "FourTrackDeck$Track", "isThere", "Z", "FourTrackDeck") (by decide +kernel)).use rfl) (fun _ h9 => h9) rfl dX0_bitsOfTracks_15 ?_
        refine lv_if_eq (tgt := 27) hx hb dX0_bitsOfTracks_18 (by decide) (fun c_22 => ?_) (fun c_22 => ?_)
        · refine lv_iinc (v := 4) (lv' := [(2, .int 4), (1, .int ((0 ||| ((1 : Int32) <<< ((1 : Int32) &&& 31))) ||| ((1 : Int32) <<< ((2 : Int32) &&& 31)))), (0, .ref (ad (6, i, 0)))]) hx hb dX0_bitsOfTracks_27 hl (k := 0) rfl rfl (by decide) rfl (fun ls hl => ?_)
          refine lv_goto (tgt := 4) hx hb dX0_bitsOfTracks_30 (by decide) ?_
          refine lv_iload_n hx hb dX0_bitsOfTracks_4 rfl (lv_at hl 0 rfl) ?_
          refine lv_iconst (v := 4) hx hb dX0_bitsOfTracks_5 (by decide) ?_
          refine lv_icmp_ge (tgt := 33) hx hb dX0_bitsOfTracks_6 (by decide) (fun c_23 => ?_) (fun c_23 => absurd (by decide) c_23)
          refine lv_iload_n hx hb dX0_bitsOfTracks_33 rfl (lv_at hl 1 rfl) ?_
          exact zw_iret hx hb hr hlk hK hP hD hS dX0_bitsOfTracks_34 (by simp only [sp_b, if_pos c_2, if_neg c_4, if_neg c_16, if_pos c_22] <;> rfl) rfl
        · refine lv_iload_n hx hb dX0_bitsOfTracks_21 rfl (lv_at hl 1 rfl) ?_
          refine lv_iconst (v := 1) hx hb dX0_bitsOfTracks_22 (by decide) ?_
          refine lv_iload_n hx hb dX0_bitsOfTracks_23 rfl (lv_at hl 0 rfl) ?_
          refine lv_ishl hx hb dX0_bitsOfTracks_24 ?_
          refine lv_ior hx hb dX0_bitsOfTracks_25 ?_
          refine lv_istore_n (lv' := [(1, .int (((0 ||| ((1 : Int32) <<< ((1 : Int32) &&& 31))) ||| ((1 : Int32) <<< ((2 : Int32) &&& 31))) ||| ((1 : Int32) <<< ((3 : Int32) &&& 31)))), (2, .int 3), (0, .ref (ad (6, i, 0)))]) hx hb dX0_bitsOfTracks_26 rfl hl (by decide) rfl (fun ls hl => ?_)
          refine lv_iinc (v := 4) (lv' := [(2, .int 4), (1, .int (((0 ||| ((1 : Int32) <<< ((1 : Int32) &&& 31))) ||| ((1 : Int32) <<< ((2 : Int32) &&& 31))) ||| ((1 : Int32) <<< ((3 : Int32) &&& 31)))), (0, .ref (ad (6, i, 0)))]) hx hb dX0_bitsOfTracks_27 hl (k := 1) rfl rfl (by decide) rfl (fun ls hl => ?_)
          refine lv_goto (tgt := 4) hx hb dX0_bitsOfTracks_30 (by decide) ?_
          refine lv_iload_n hx hb dX0_bitsOfTracks_4 rfl (lv_at hl 0 rfl) ?_
          refine lv_iconst (v := 4) hx hb dX0_bitsOfTracks_5 (by decide) ?_
          refine lv_icmp_ge (tgt := 33) hx hb dX0_bitsOfTracks_6 (by decide) (fun c_24 => ?_) (fun c_24 => absurd (by decide) c_24)
          refine lv_iload_n hx hb dX0_bitsOfTracks_33 rfl (lv_at hl 1 rfl) ?_
          exact zw_iret hx hb hr hlk hK hP hD hS dX0_bitsOfTracks_34 (by simp only [sp_b, if_pos c_2, if_neg c_4, if_neg c_16, if_neg c_22] <;> rfl) rfl
  · refine lv_iload_n hx hb dX0_bitsOfTracks_21 rfl (lv_at hl 1 rfl) ?_
    refine lv_iconst (v := 1) hx hb dX0_bitsOfTracks_22 (by decide) ?_
    refine lv_iload_n hx hb dX0_bitsOfTracks_23 rfl (lv_at hl 0 rfl) ?_
    refine lv_ishl hx hb dX0_bitsOfTracks_24 ?_
    refine lv_ior hx hb dX0_bitsOfTracks_25 ?_
    refine lv_istore_n (lv' := [(1, .int (0 ||| ((1 : Int32) <<< ((0 : Int32) &&& 31)))), (2, .int 0), (0, .ref (ad (6, i, 0)))]) hx hb dX0_bitsOfTracks_26 rfl hl (by decide) rfl (fun ls hl => ?_)
    refine lv_iinc (v := 1) (lv' := [(2, .int 1), (1, .int (0 ||| ((1 : Int32) <<< ((0 : Int32) &&& 31)))), (0, .ref (ad (6, i, 0)))]) hx hb dX0_bitsOfTracks_27 hl (k := 1) rfl rfl (by decide) rfl (fun ls hl => ?_)
    refine lv_goto (tgt := 4) hx hb dX0_bitsOfTracks_30 (by decide) ?_
    refine lv_iload_n hx hb dX0_bitsOfTracks_4 rfl (lv_at hl 0 rfl) ?_
    refine lv_iconst (v := 4) hx hb dX0_bitsOfTracks_5 (by decide) ?_
    refine lv_icmp_ge (tgt := 33) hx hb dX0_bitsOfTracks_6 (by decide) (fun c_25 => absurd c_25 (by decide)) (fun c_25 => ?_)
    refine lv_aload_n hx hb dX0_bitsOfTracks_9 rfl (lv_at hl 2 rfl) ?_
    refine zw_getf (r := (6, i, 0)) (v := .ref (ad (7, i, 0))) (C := RX0) (T := TX0) (N := 1) (ci := 0) hx hb hts hwX0 hown hK hP (hR.2 i hi).1 rfl rfl 0 (by decide) (hts (.fieldLink RX0 11 "FourTrackDeck$Reel" "tracks" "[LFourTrackDeck$Track;") (by decide +kernel)) (fun _ h9 => h9) rfl dX0_bitsOfTracks_10 ?_
    refine lv_iload_n hx hb dX0_bitsOfTracks_13 rfl (lv_at hl 0 rfl) ?_
    refine zw_aldq (r := (7, i, 0)) (v := .ref (ad (8, i, 1))) hx hb hK hP (hR.2 i hi).2.1 2 rfl rfl (by unfold vp_in; decide) rfl dX0_bitsOfTracks_14 ?_
    refine zw_getN (r := (8, i, 1)) (v := .int (σ (8, i, 1) 1)) (C := RX1) (T := TX1) (N := 3) (ci := 1) hx hb hts hwX1 hown hK hP ((hR.2 i hi).2.2 1 (by decide)).1 rfl rfl 2 (by decide) ((hN.1 ("FourTrackDeck$Reel", 20, "FourTrackDeck$Track", "isThere", "Z", "FourTrackDeck") (by decide +kernel)).use rfl) (fun _ h9 => h9) rfl dX0_bitsOfTracks_15 ?_
    refine lv_if_eq (tgt := 27) hx hb dX0_bitsOfTracks_18 (by decide) (fun c_26 => ?_) (fun c_26 => ?_)
    · refine lv_iinc (v := 2) (lv' := [(2, .int 2), (1, .int (0 ||| ((1 : Int32) <<< ((0 : Int32) &&& 31)))), (0, .ref (ad (6, i, 0)))]) hx hb dX0_bitsOfTracks_27 hl (k := 0) rfl rfl (by decide) rfl (fun ls hl => ?_)
      refine lv_goto (tgt := 4) hx hb dX0_bitsOfTracks_30 (by decide) ?_
      refine lv_iload_n hx hb dX0_bitsOfTracks_4 rfl (lv_at hl 0 rfl) ?_
      refine lv_iconst (v := 4) hx hb dX0_bitsOfTracks_5 (by decide) ?_
      refine lv_icmp_ge (tgt := 33) hx hb dX0_bitsOfTracks_6 (by decide) (fun c_27 => absurd c_27 (by decide)) (fun c_27 => ?_)
      refine lv_aload_n hx hb dX0_bitsOfTracks_9 rfl (lv_at hl 2 rfl) ?_
      refine zw_getf (r := (6, i, 0)) (v := .ref (ad (7, i, 0))) (C := RX0) (T := TX0) (N := 1) (ci := 0) hx hb hts hwX0 hown hK hP (hR.2 i hi).1 rfl rfl 0 (by decide) (hts (.fieldLink RX0 11 "FourTrackDeck$Reel" "tracks" "[LFourTrackDeck$Track;") (by decide +kernel)) (fun _ h9 => h9) rfl dX0_bitsOfTracks_10 ?_
      refine lv_iload_n hx hb dX0_bitsOfTracks_13 rfl (lv_at hl 0 rfl) ?_
      refine zw_aldq (r := (7, i, 0)) (v := .ref (ad (8, i, 2))) hx hb hK hP (hR.2 i hi).2.1 2 rfl rfl (by unfold vp_in; decide) rfl dX0_bitsOfTracks_14 ?_
      refine zw_getN (r := (8, i, 2)) (v := .int (σ (8, i, 2) 1)) (C := RX1) (T := TX1) (N := 3) (ci := 1) hx hb hts hwX1 hown hK hP ((hR.2 i hi).2.2 2 (by decide)).1 rfl rfl 2 (by decide) ((hN.1 ("FourTrackDeck$Reel", 20, "FourTrackDeck$Track", "isThere", "Z", "FourTrackDeck") (by decide +kernel)).use rfl) (fun _ h9 => h9) rfl dX0_bitsOfTracks_15 ?_
      refine lv_if_eq (tgt := 27) hx hb dX0_bitsOfTracks_18 (by decide) (fun c_28 => ?_) (fun c_28 => ?_)
      · refine lv_iinc (v := 3) (lv' := [(2, .int 3), (1, .int (0 ||| ((1 : Int32) <<< ((0 : Int32) &&& 31)))), (0, .ref (ad (6, i, 0)))]) hx hb dX0_bitsOfTracks_27 hl (k := 0) rfl rfl (by decide) rfl (fun ls hl => ?_)
        refine lv_goto (tgt := 4) hx hb dX0_bitsOfTracks_30 (by decide) ?_
        refine lv_iload_n hx hb dX0_bitsOfTracks_4 rfl (lv_at hl 0 rfl) ?_
        refine lv_iconst (v := 4) hx hb dX0_bitsOfTracks_5 (by decide) ?_
        refine lv_icmp_ge (tgt := 33) hx hb dX0_bitsOfTracks_6 (by decide) (fun c_29 => absurd c_29 (by decide)) (fun c_29 => ?_)
        refine lv_aload_n hx hb dX0_bitsOfTracks_9 rfl (lv_at hl 2 rfl) ?_
        refine zw_getf (r := (6, i, 0)) (v := .ref (ad (7, i, 0))) (C := RX0) (T := TX0) (N := 1) (ci := 0) hx hb hts hwX0 hown hK hP (hR.2 i hi).1 rfl rfl 0 (by decide) (hts (.fieldLink RX0 11 "FourTrackDeck$Reel" "tracks" "[LFourTrackDeck$Track;") (by decide +kernel)) (fun _ h9 => h9) rfl dX0_bitsOfTracks_10 ?_
        refine lv_iload_n hx hb dX0_bitsOfTracks_13 rfl (lv_at hl 0 rfl) ?_
        refine zw_aldq (r := (7, i, 0)) (v := .ref (ad (8, i, 3))) hx hb hK hP (hR.2 i hi).2.1 2 rfl rfl (by unfold vp_in; decide) rfl dX0_bitsOfTracks_14 ?_
        refine zw_getN (r := (8, i, 3)) (v := .int (σ (8, i, 3) 1)) (C := RX1) (T := TX1) (N := 3) (ci := 1) hx hb hts hwX1 hown hK hP ((hR.2 i hi).2.2 3 (by decide)).1 rfl rfl 2 (by decide) ((hN.1 ("FourTrackDeck$Reel", 20, "FourTrackDeck$Track", "isThere", "Z", "FourTrackDeck") (by decide +kernel)).use rfl) (fun _ h9 => h9) rfl dX0_bitsOfTracks_15 ?_
        refine lv_if_eq (tgt := 27) hx hb dX0_bitsOfTracks_18 (by decide) (fun c_30 => ?_) (fun c_30 => ?_)
        · refine lv_iinc (v := 4) (lv' := [(2, .int 4), (1, .int (0 ||| ((1 : Int32) <<< ((0 : Int32) &&& 31)))), (0, .ref (ad (6, i, 0)))]) hx hb dX0_bitsOfTracks_27 hl (k := 0) rfl rfl (by decide) rfl (fun ls hl => ?_)
          refine lv_goto (tgt := 4) hx hb dX0_bitsOfTracks_30 (by decide) ?_
          refine lv_iload_n hx hb dX0_bitsOfTracks_4 rfl (lv_at hl 0 rfl) ?_
          refine lv_iconst (v := 4) hx hb dX0_bitsOfTracks_5 (by decide) ?_
          refine lv_icmp_ge (tgt := 33) hx hb dX0_bitsOfTracks_6 (by decide) (fun c_31 => ?_) (fun c_31 => absurd (by decide) c_31)
          refine lv_iload_n hx hb dX0_bitsOfTracks_33 rfl (lv_at hl 1 rfl) ?_
          exact zw_iret hx hb hr hlk hK hP hD hS dX0_bitsOfTracks_34 (by simp only [sp_b, if_neg c_2, if_pos c_26, if_pos c_28, if_pos c_30] <;> rfl) rfl
        · refine lv_iload_n hx hb dX0_bitsOfTracks_21 rfl (lv_at hl 1 rfl) ?_
          refine lv_iconst (v := 1) hx hb dX0_bitsOfTracks_22 (by decide) ?_
          refine lv_iload_n hx hb dX0_bitsOfTracks_23 rfl (lv_at hl 0 rfl) ?_
          refine lv_ishl hx hb dX0_bitsOfTracks_24 ?_
          refine lv_ior hx hb dX0_bitsOfTracks_25 ?_
          refine lv_istore_n (lv' := [(1, .int ((0 ||| ((1 : Int32) <<< ((0 : Int32) &&& 31))) ||| ((1 : Int32) <<< ((3 : Int32) &&& 31)))), (2, .int 3), (0, .ref (ad (6, i, 0)))]) hx hb dX0_bitsOfTracks_26 rfl hl (by decide) rfl (fun ls hl => ?_)
          refine lv_iinc (v := 4) (lv' := [(2, .int 4), (1, .int ((0 ||| ((1 : Int32) <<< ((0 : Int32) &&& 31))) ||| ((1 : Int32) <<< ((3 : Int32) &&& 31)))), (0, .ref (ad (6, i, 0)))]) hx hb dX0_bitsOfTracks_27 hl (k := 1) rfl rfl (by decide) rfl (fun ls hl => ?_)
          refine lv_goto (tgt := 4) hx hb dX0_bitsOfTracks_30 (by decide) ?_
          refine lv_iload_n hx hb dX0_bitsOfTracks_4 rfl (lv_at hl 0 rfl) ?_
          refine lv_iconst (v := 4) hx hb dX0_bitsOfTracks_5 (by decide) ?_
          refine lv_icmp_ge (tgt := 33) hx hb dX0_bitsOfTracks_6 (by decide) (fun c_32 => ?_) (fun c_32 => absurd (by decide) c_32)
          refine lv_iload_n hx hb dX0_bitsOfTracks_33 rfl (lv_at hl 1 rfl) ?_
          exact zw_iret hx hb hr hlk hK hP hD hS dX0_bitsOfTracks_34 (by simp only [sp_b, if_neg c_2, if_pos c_26, if_pos c_28, if_neg c_30] <;> rfl) rfl
      · refine lv_iload_n hx hb dX0_bitsOfTracks_21 rfl (lv_at hl 1 rfl) ?_
        refine lv_iconst (v := 1) hx hb dX0_bitsOfTracks_22 (by decide) ?_
        refine lv_iload_n hx hb dX0_bitsOfTracks_23 rfl (lv_at hl 0 rfl) ?_
        refine lv_ishl hx hb dX0_bitsOfTracks_24 ?_
        refine lv_ior hx hb dX0_bitsOfTracks_25 ?_
        refine lv_istore_n (lv' := [(1, .int ((0 ||| ((1 : Int32) <<< ((0 : Int32) &&& 31))) ||| ((1 : Int32) <<< ((2 : Int32) &&& 31)))), (2, .int 2), (0, .ref (ad (6, i, 0)))]) hx hb dX0_bitsOfTracks_26 rfl hl (by decide) rfl (fun ls hl => ?_)
        refine lv_iinc (v := 3) (lv' := [(2, .int 3), (1, .int ((0 ||| ((1 : Int32) <<< ((0 : Int32) &&& 31))) ||| ((1 : Int32) <<< ((2 : Int32) &&& 31)))), (0, .ref (ad (6, i, 0)))]) hx hb dX0_bitsOfTracks_27 hl (k := 1) rfl rfl (by decide) rfl (fun ls hl => ?_)
        refine lv_goto (tgt := 4) hx hb dX0_bitsOfTracks_30 (by decide) ?_
        refine lv_iload_n hx hb dX0_bitsOfTracks_4 rfl (lv_at hl 0 rfl) ?_
        refine lv_iconst (v := 4) hx hb dX0_bitsOfTracks_5 (by decide) ?_
        refine lv_icmp_ge (tgt := 33) hx hb dX0_bitsOfTracks_6 (by decide) (fun c_33 => absurd c_33 (by decide)) (fun c_33 => ?_)
        refine lv_aload_n hx hb dX0_bitsOfTracks_9 rfl (lv_at hl 2 rfl) ?_
        refine zw_getf (r := (6, i, 0)) (v := .ref (ad (7, i, 0))) (C := RX0) (T := TX0) (N := 1) (ci := 0) hx hb hts hwX0 hown hK hP (hR.2 i hi).1 rfl rfl 0 (by decide) (hts (.fieldLink RX0 11 "FourTrackDeck$Reel" "tracks" "[LFourTrackDeck$Track;") (by decide +kernel)) (fun _ h9 => h9) rfl dX0_bitsOfTracks_10 ?_
        refine lv_iload_n hx hb dX0_bitsOfTracks_13 rfl (lv_at hl 0 rfl) ?_
        refine zw_aldq (r := (7, i, 0)) (v := .ref (ad (8, i, 3))) hx hb hK hP (hR.2 i hi).2.1 2 rfl rfl (by unfold vp_in; decide) rfl dX0_bitsOfTracks_14 ?_
        refine zw_getN (r := (8, i, 3)) (v := .int (σ (8, i, 3) 1)) (C := RX1) (T := TX1) (N := 3) (ci := 1) hx hb hts hwX1 hown hK hP ((hR.2 i hi).2.2 3 (by decide)).1 rfl rfl 2 (by decide) ((hN.1 ("FourTrackDeck$Reel", 20, "FourTrackDeck$Track", "isThere", "Z", "FourTrackDeck") (by decide +kernel)).use rfl) (fun _ h9 => h9) rfl dX0_bitsOfTracks_15 ?_
        refine lv_if_eq (tgt := 27) hx hb dX0_bitsOfTracks_18 (by decide) (fun c_34 => ?_) (fun c_34 => ?_)
        · refine lv_iinc (v := 4) (lv' := [(2, .int 4), (1, .int ((0 ||| ((1 : Int32) <<< ((0 : Int32) &&& 31))) ||| ((1 : Int32) <<< ((2 : Int32) &&& 31)))), (0, .ref (ad (6, i, 0)))]) hx hb dX0_bitsOfTracks_27 hl (k := 0) rfl rfl (by decide) rfl (fun ls hl => ?_)
          refine lv_goto (tgt := 4) hx hb dX0_bitsOfTracks_30 (by decide) ?_
          refine lv_iload_n hx hb dX0_bitsOfTracks_4 rfl (lv_at hl 0 rfl) ?_
          refine lv_iconst (v := 4) hx hb dX0_bitsOfTracks_5 (by decide) ?_
          refine lv_icmp_ge (tgt := 33) hx hb dX0_bitsOfTracks_6 (by decide) (fun c_35 => ?_) (fun c_35 => absurd (by decide) c_35)
          refine lv_iload_n hx hb dX0_bitsOfTracks_33 rfl (lv_at hl 1 rfl) ?_
          exact zw_iret hx hb hr hlk hK hP hD hS dX0_bitsOfTracks_34 (by simp only [sp_b, if_neg c_2, if_pos c_26, if_neg c_28, if_pos c_34] <;> rfl) rfl
        · refine lv_iload_n hx hb dX0_bitsOfTracks_21 rfl (lv_at hl 1 rfl) ?_
          refine lv_iconst (v := 1) hx hb dX0_bitsOfTracks_22 (by decide) ?_
          refine lv_iload_n hx hb dX0_bitsOfTracks_23 rfl (lv_at hl 0 rfl) ?_
          refine lv_ishl hx hb dX0_bitsOfTracks_24 ?_
          refine lv_ior hx hb dX0_bitsOfTracks_25 ?_
          refine lv_istore_n (lv' := [(1, .int (((0 ||| ((1 : Int32) <<< ((0 : Int32) &&& 31))) ||| ((1 : Int32) <<< ((2 : Int32) &&& 31))) ||| ((1 : Int32) <<< ((3 : Int32) &&& 31)))), (2, .int 3), (0, .ref (ad (6, i, 0)))]) hx hb dX0_bitsOfTracks_26 rfl hl (by decide) rfl (fun ls hl => ?_)
          refine lv_iinc (v := 4) (lv' := [(2, .int 4), (1, .int (((0 ||| ((1 : Int32) <<< ((0 : Int32) &&& 31))) ||| ((1 : Int32) <<< ((2 : Int32) &&& 31))) ||| ((1 : Int32) <<< ((3 : Int32) &&& 31)))), (0, .ref (ad (6, i, 0)))]) hx hb dX0_bitsOfTracks_27 hl (k := 1) rfl rfl (by decide) rfl (fun ls hl => ?_)
          refine lv_goto (tgt := 4) hx hb dX0_bitsOfTracks_30 (by decide) ?_
          refine lv_iload_n hx hb dX0_bitsOfTracks_4 rfl (lv_at hl 0 rfl) ?_
          refine lv_iconst (v := 4) hx hb dX0_bitsOfTracks_5 (by decide) ?_
          refine lv_icmp_ge (tgt := 33) hx hb dX0_bitsOfTracks_6 (by decide) (fun c_36 => ?_) (fun c_36 => absurd (by decide) c_36)
          refine lv_iload_n hx hb dX0_bitsOfTracks_33 rfl (lv_at hl 1 rfl) ?_
          exact zw_iret hx hb hr hlk hK hP hD hS dX0_bitsOfTracks_34 (by simp only [sp_b, if_neg c_2, if_pos c_26, if_neg c_28, if_neg c_34] <;> rfl) rfl
    · refine lv_iload_n hx hb dX0_bitsOfTracks_21 rfl (lv_at hl 1 rfl) ?_
      refine lv_iconst (v := 1) hx hb dX0_bitsOfTracks_22 (by decide) ?_
      refine lv_iload_n hx hb dX0_bitsOfTracks_23 rfl (lv_at hl 0 rfl) ?_
      refine lv_ishl hx hb dX0_bitsOfTracks_24 ?_
      refine lv_ior hx hb dX0_bitsOfTracks_25 ?_
      refine lv_istore_n (lv' := [(1, .int ((0 ||| ((1 : Int32) <<< ((0 : Int32) &&& 31))) ||| ((1 : Int32) <<< ((1 : Int32) &&& 31)))), (2, .int 1), (0, .ref (ad (6, i, 0)))]) hx hb dX0_bitsOfTracks_26 rfl hl (by decide) rfl (fun ls hl => ?_)
      refine lv_iinc (v := 2) (lv' := [(2, .int 2), (1, .int ((0 ||| ((1 : Int32) <<< ((0 : Int32) &&& 31))) ||| ((1 : Int32) <<< ((1 : Int32) &&& 31)))), (0, .ref (ad (6, i, 0)))]) hx hb dX0_bitsOfTracks_27 hl (k := 1) rfl rfl (by decide) rfl (fun ls hl => ?_)
      refine lv_goto (tgt := 4) hx hb dX0_bitsOfTracks_30 (by decide) ?_
      refine lv_iload_n hx hb dX0_bitsOfTracks_4 rfl (lv_at hl 0 rfl) ?_
      refine lv_iconst (v := 4) hx hb dX0_bitsOfTracks_5 (by decide) ?_
      refine lv_icmp_ge (tgt := 33) hx hb dX0_bitsOfTracks_6 (by decide) (fun c_37 => absurd c_37 (by decide)) (fun c_37 => ?_)
      refine lv_aload_n hx hb dX0_bitsOfTracks_9 rfl (lv_at hl 2 rfl) ?_
      refine zw_getf (r := (6, i, 0)) (v := .ref (ad (7, i, 0))) (C := RX0) (T := TX0) (N := 1) (ci := 0) hx hb hts hwX0 hown hK hP (hR.2 i hi).1 rfl rfl 0 (by decide) (hts (.fieldLink RX0 11 "FourTrackDeck$Reel" "tracks" "[LFourTrackDeck$Track;") (by decide +kernel)) (fun _ h9 => h9) rfl dX0_bitsOfTracks_10 ?_
      refine lv_iload_n hx hb dX0_bitsOfTracks_13 rfl (lv_at hl 0 rfl) ?_
      refine zw_aldq (r := (7, i, 0)) (v := .ref (ad (8, i, 2))) hx hb hK hP (hR.2 i hi).2.1 2 rfl rfl (by unfold vp_in; decide) rfl dX0_bitsOfTracks_14 ?_
      refine zw_getN (r := (8, i, 2)) (v := .int (σ (8, i, 2) 1)) (C := RX1) (T := TX1) (N := 3) (ci := 1) hx hb hts hwX1 hown hK hP ((hR.2 i hi).2.2 2 (by decide)).1 rfl rfl 2 (by decide) ((hN.1 ("FourTrackDeck$Reel", 20, "FourTrackDeck$Track", "isThere", "Z", "FourTrackDeck") (by decide +kernel)).use rfl) (fun _ h9 => h9) rfl dX0_bitsOfTracks_15 ?_
      refine lv_if_eq (tgt := 27) hx hb dX0_bitsOfTracks_18 (by decide) (fun c_38 => ?_) (fun c_38 => ?_)
      · refine lv_iinc (v := 3) (lv' := [(2, .int 3), (1, .int ((0 ||| ((1 : Int32) <<< ((0 : Int32) &&& 31))) ||| ((1 : Int32) <<< ((1 : Int32) &&& 31)))), (0, .ref (ad (6, i, 0)))]) hx hb dX0_bitsOfTracks_27 hl (k := 0) rfl rfl (by decide) rfl (fun ls hl => ?_)
        refine lv_goto (tgt := 4) hx hb dX0_bitsOfTracks_30 (by decide) ?_
        refine lv_iload_n hx hb dX0_bitsOfTracks_4 rfl (lv_at hl 0 rfl) ?_
        refine lv_iconst (v := 4) hx hb dX0_bitsOfTracks_5 (by decide) ?_
        refine lv_icmp_ge (tgt := 33) hx hb dX0_bitsOfTracks_6 (by decide) (fun c_39 => absurd c_39 (by decide)) (fun c_39 => ?_)
        refine lv_aload_n hx hb dX0_bitsOfTracks_9 rfl (lv_at hl 2 rfl) ?_
        refine zw_getf (r := (6, i, 0)) (v := .ref (ad (7, i, 0))) (C := RX0) (T := TX0) (N := 1) (ci := 0) hx hb hts hwX0 hown hK hP (hR.2 i hi).1 rfl rfl 0 (by decide) (hts (.fieldLink RX0 11 "FourTrackDeck$Reel" "tracks" "[LFourTrackDeck$Track;") (by decide +kernel)) (fun _ h9 => h9) rfl dX0_bitsOfTracks_10 ?_
        refine lv_iload_n hx hb dX0_bitsOfTracks_13 rfl (lv_at hl 0 rfl) ?_
        refine zw_aldq (r := (7, i, 0)) (v := .ref (ad (8, i, 3))) hx hb hK hP (hR.2 i hi).2.1 2 rfl rfl (by unfold vp_in; decide) rfl dX0_bitsOfTracks_14 ?_
        refine zw_getN (r := (8, i, 3)) (v := .int (σ (8, i, 3) 1)) (C := RX1) (T := TX1) (N := 3) (ci := 1) hx hb hts hwX1 hown hK hP ((hR.2 i hi).2.2 3 (by decide)).1 rfl rfl 2 (by decide) ((hN.1 ("FourTrackDeck$Reel", 20, "FourTrackDeck$Track", "isThere", "Z", "FourTrackDeck") (by decide +kernel)).use rfl) (fun _ h9 => h9) rfl dX0_bitsOfTracks_15 ?_
        refine lv_if_eq (tgt := 27) hx hb dX0_bitsOfTracks_18 (by decide) (fun c_40 => ?_) (fun c_40 => ?_)
        · refine lv_iinc (v := 4) (lv' := [(2, .int 4), (1, .int ((0 ||| ((1 : Int32) <<< ((0 : Int32) &&& 31))) ||| ((1 : Int32) <<< ((1 : Int32) &&& 31)))), (0, .ref (ad (6, i, 0)))]) hx hb dX0_bitsOfTracks_27 hl (k := 0) rfl rfl (by decide) rfl (fun ls hl => ?_)
          refine lv_goto (tgt := 4) hx hb dX0_bitsOfTracks_30 (by decide) ?_
          refine lv_iload_n hx hb dX0_bitsOfTracks_4 rfl (lv_at hl 0 rfl) ?_
          refine lv_iconst (v := 4) hx hb dX0_bitsOfTracks_5 (by decide) ?_
          refine lv_icmp_ge (tgt := 33) hx hb dX0_bitsOfTracks_6 (by decide) (fun c_41 => ?_) (fun c_41 => absurd (by decide) c_41)
          refine lv_iload_n hx hb dX0_bitsOfTracks_33 rfl (lv_at hl 1 rfl) ?_
          exact zw_iret hx hb hr hlk hK hP hD hS dX0_bitsOfTracks_34 (by simp only [sp_b, if_neg c_2, if_neg c_26, if_pos c_38, if_pos c_40] <;> rfl) rfl
        · refine lv_iload_n hx hb dX0_bitsOfTracks_21 rfl (lv_at hl 1 rfl) ?_
          refine lv_iconst (v := 1) hx hb dX0_bitsOfTracks_22 (by decide) ?_
          refine lv_iload_n hx hb dX0_bitsOfTracks_23 rfl (lv_at hl 0 rfl) ?_
          refine lv_ishl hx hb dX0_bitsOfTracks_24 ?_
          refine lv_ior hx hb dX0_bitsOfTracks_25 ?_
          refine lv_istore_n (lv' := [(1, .int (((0 ||| ((1 : Int32) <<< ((0 : Int32) &&& 31))) ||| ((1 : Int32) <<< ((1 : Int32) &&& 31))) ||| ((1 : Int32) <<< ((3 : Int32) &&& 31)))), (2, .int 3), (0, .ref (ad (6, i, 0)))]) hx hb dX0_bitsOfTracks_26 rfl hl (by decide) rfl (fun ls hl => ?_)
          refine lv_iinc (v := 4) (lv' := [(2, .int 4), (1, .int (((0 ||| ((1 : Int32) <<< ((0 : Int32) &&& 31))) ||| ((1 : Int32) <<< ((1 : Int32) &&& 31))) ||| ((1 : Int32) <<< ((3 : Int32) &&& 31)))), (0, .ref (ad (6, i, 0)))]) hx hb dX0_bitsOfTracks_27 hl (k := 1) rfl rfl (by decide) rfl (fun ls hl => ?_)
          refine lv_goto (tgt := 4) hx hb dX0_bitsOfTracks_30 (by decide) ?_
          refine lv_iload_n hx hb dX0_bitsOfTracks_4 rfl (lv_at hl 0 rfl) ?_
          refine lv_iconst (v := 4) hx hb dX0_bitsOfTracks_5 (by decide) ?_
          refine lv_icmp_ge (tgt := 33) hx hb dX0_bitsOfTracks_6 (by decide) (fun c_42 => ?_) (fun c_42 => absurd (by decide) c_42)
          refine lv_iload_n hx hb dX0_bitsOfTracks_33 rfl (lv_at hl 1 rfl) ?_
          exact zw_iret hx hb hr hlk hK hP hD hS dX0_bitsOfTracks_34 (by simp only [sp_b, if_neg c_2, if_neg c_26, if_pos c_38, if_neg c_40] <;> rfl) rfl
      · refine lv_iload_n hx hb dX0_bitsOfTracks_21 rfl (lv_at hl 1 rfl) ?_
        refine lv_iconst (v := 1) hx hb dX0_bitsOfTracks_22 (by decide) ?_
        refine lv_iload_n hx hb dX0_bitsOfTracks_23 rfl (lv_at hl 0 rfl) ?_
        refine lv_ishl hx hb dX0_bitsOfTracks_24 ?_
        refine lv_ior hx hb dX0_bitsOfTracks_25 ?_
        refine lv_istore_n (lv' := [(1, .int (((0 ||| ((1 : Int32) <<< ((0 : Int32) &&& 31))) ||| ((1 : Int32) <<< ((1 : Int32) &&& 31))) ||| ((1 : Int32) <<< ((2 : Int32) &&& 31)))), (2, .int 2), (0, .ref (ad (6, i, 0)))]) hx hb dX0_bitsOfTracks_26 rfl hl (by decide) rfl (fun ls hl => ?_)
        refine lv_iinc (v := 3) (lv' := [(2, .int 3), (1, .int (((0 ||| ((1 : Int32) <<< ((0 : Int32) &&& 31))) ||| ((1 : Int32) <<< ((1 : Int32) &&& 31))) ||| ((1 : Int32) <<< ((2 : Int32) &&& 31)))), (0, .ref (ad (6, i, 0)))]) hx hb dX0_bitsOfTracks_27 hl (k := 1) rfl rfl (by decide) rfl (fun ls hl => ?_)
        refine lv_goto (tgt := 4) hx hb dX0_bitsOfTracks_30 (by decide) ?_
        refine lv_iload_n hx hb dX0_bitsOfTracks_4 rfl (lv_at hl 0 rfl) ?_
        refine lv_iconst (v := 4) hx hb dX0_bitsOfTracks_5 (by decide) ?_
        refine lv_icmp_ge (tgt := 33) hx hb dX0_bitsOfTracks_6 (by decide) (fun c_43 => absurd c_43 (by decide)) (fun c_43 => ?_)
        refine lv_aload_n hx hb dX0_bitsOfTracks_9 rfl (lv_at hl 2 rfl) ?_
        refine zw_getf (r := (6, i, 0)) (v := .ref (ad (7, i, 0))) (C := RX0) (T := TX0) (N := 1) (ci := 0) hx hb hts hwX0 hown hK hP (hR.2 i hi).1 rfl rfl 0 (by decide) (hts (.fieldLink RX0 11 "FourTrackDeck$Reel" "tracks" "[LFourTrackDeck$Track;") (by decide +kernel)) (fun _ h9 => h9) rfl dX0_bitsOfTracks_10 ?_
        refine lv_iload_n hx hb dX0_bitsOfTracks_13 rfl (lv_at hl 0 rfl) ?_
        refine zw_aldq (r := (7, i, 0)) (v := .ref (ad (8, i, 3))) hx hb hK hP (hR.2 i hi).2.1 2 rfl rfl (by unfold vp_in; decide) rfl dX0_bitsOfTracks_14 ?_
        refine zw_getN (r := (8, i, 3)) (v := .int (σ (8, i, 3) 1)) (C := RX1) (T := TX1) (N := 3) (ci := 1) hx hb hts hwX1 hown hK hP ((hR.2 i hi).2.2 3 (by decide)).1 rfl rfl 2 (by decide) ((hN.1 ("FourTrackDeck$Reel", 20, "FourTrackDeck$Track", "isThere", "Z", "FourTrackDeck") (by decide +kernel)).use rfl) (fun _ h9 => h9) rfl dX0_bitsOfTracks_15 ?_
        refine lv_if_eq (tgt := 27) hx hb dX0_bitsOfTracks_18 (by decide) (fun c_44 => ?_) (fun c_44 => ?_)
        · refine lv_iinc (v := 4) (lv' := [(2, .int 4), (1, .int (((0 ||| ((1 : Int32) <<< ((0 : Int32) &&& 31))) ||| ((1 : Int32) <<< ((1 : Int32) &&& 31))) ||| ((1 : Int32) <<< ((2 : Int32) &&& 31)))), (0, .ref (ad (6, i, 0)))]) hx hb dX0_bitsOfTracks_27 hl (k := 0) rfl rfl (by decide) rfl (fun ls hl => ?_)
          refine lv_goto (tgt := 4) hx hb dX0_bitsOfTracks_30 (by decide) ?_
          refine lv_iload_n hx hb dX0_bitsOfTracks_4 rfl (lv_at hl 0 rfl) ?_
          refine lv_iconst (v := 4) hx hb dX0_bitsOfTracks_5 (by decide) ?_
          refine lv_icmp_ge (tgt := 33) hx hb dX0_bitsOfTracks_6 (by decide) (fun c_45 => ?_) (fun c_45 => absurd (by decide) c_45)
          refine lv_iload_n hx hb dX0_bitsOfTracks_33 rfl (lv_at hl 1 rfl) ?_
          exact zw_iret hx hb hr hlk hK hP hD hS dX0_bitsOfTracks_34 (by simp only [sp_b, if_neg c_2, if_neg c_26, if_neg c_38, if_pos c_44] <;> rfl) rfl
        · refine lv_iload_n hx hb dX0_bitsOfTracks_21 rfl (lv_at hl 1 rfl) ?_
          refine lv_iconst (v := 1) hx hb dX0_bitsOfTracks_22 (by decide) ?_
          refine lv_iload_n hx hb dX0_bitsOfTracks_23 rfl (lv_at hl 0 rfl) ?_
          refine lv_ishl hx hb dX0_bitsOfTracks_24 ?_
          refine lv_ior hx hb dX0_bitsOfTracks_25 ?_
          refine lv_istore_n (lv' := [(1, .int ((((0 ||| ((1 : Int32) <<< ((0 : Int32) &&& 31))) ||| ((1 : Int32) <<< ((1 : Int32) &&& 31))) ||| ((1 : Int32) <<< ((2 : Int32) &&& 31))) ||| ((1 : Int32) <<< ((3 : Int32) &&& 31)))), (2, .int 3), (0, .ref (ad (6, i, 0)))]) hx hb dX0_bitsOfTracks_26 rfl hl (by decide) rfl (fun ls hl => ?_)
          refine lv_iinc (v := 4) (lv' := [(2, .int 4), (1, .int ((((0 ||| ((1 : Int32) <<< ((0 : Int32) &&& 31))) ||| ((1 : Int32) <<< ((1 : Int32) &&& 31))) ||| ((1 : Int32) <<< ((2 : Int32) &&& 31))) ||| ((1 : Int32) <<< ((3 : Int32) &&& 31)))), (0, .ref (ad (6, i, 0)))]) hx hb dX0_bitsOfTracks_27 hl (k := 1) rfl rfl (by decide) rfl (fun ls hl => ?_)
          refine lv_goto (tgt := 4) hx hb dX0_bitsOfTracks_30 (by decide) ?_
          refine lv_iload_n hx hb dX0_bitsOfTracks_4 rfl (lv_at hl 0 rfl) ?_
          refine lv_iconst (v := 4) hx hb dX0_bitsOfTracks_5 (by decide) ?_
          refine lv_icmp_ge (tgt := 33) hx hb dX0_bitsOfTracks_6 (by decide) (fun c_46 => ?_) (fun c_46 => absurd (by decide) c_46)
          refine lv_iload_n hx hb dX0_bitsOfTracks_33 rfl (lv_at hl 1 rfl) ?_
          exact zw_iret hx hb hr hlk hK hP hD hS dX0_bitsOfTracks_34 (by simp only [sp_b, if_neg c_2, if_neg c_26, if_neg c_38, if_neg c_44] <;> rfl) rfl
set_option maxHeartbeats 4000000 in
set_option maxRecDepth 100000 in
theorem cd_tracksThere_1 {l : Launch} {dC : Nat → ClassId} {dI : Nat → Nat → Nat} {cA : Nat → ClassId} {ad : zw_R → Nat} {R : List zw_R} {nr : Nat} {len : Nat → Nat} {σ : sp_S} {cM : zw_R → va_E} (hR : ze_R nr R) (hnr : nr ≤ 8) (p0 : Int32) (h : sp_r nr p0) : zw_M l yX2_tracksThere wsX2_tracksThere { frames := 1, cells := 0, slots := 0, locals := 22 } (ze_E dC dI cA) [.ref (ad (0, 0, 0)), .int p0] ad R (ze_X (ze_D cA ad nr len σ) cM) (some (.int (sp_b σ p0.toNatClampNeg))) (ze_X (ze_D cA ad nr len σ) cM) := by
  refine zw_body (cc := cX2_tracksThere) (maxL := 3) (ret := (some .int)) (by decide) rfl (Nat.le_of_ble_eq_true rfl) ?_
  intro p e s m below meth c A ls hx hb hr hlk hml hts hown hnm hA hK hP hD hS hN hl
  have hl : lv_has ls 3 [(0, .ref (ad (0, 0, 0))), (1, .int p0)] := hl
  refine lv_aload_n hx hb dX2_tracksThere_0 rfl (lv_at hl 0 rfl) ?_
  refine lv_iload_n hx hb dX2_tracksThere_1 rfl (lv_at hl 1 rfl) ?_
  refine zw_cV (r := (0, 0, 0)) (As := [.int p0]) (rest := []) (st1 := [.ref (ad (6, p0.toNatClampNeg, 0))]) ⟨hx, hb, hml, hown, hts⟩ (cd_reelOf_1 hR hnr p0 h) (cwV 1 hts gX2_tracksThere_X2_reelOf rfl rfl rfl (by decide +kernel) ⟨Nat.le_of_ble_eq_true rfl, Nat.le_of_ble_eq_true rfl⟩) (hR.1 0 (by decide)) rfl rfl rfl hK hP hD hS hA hN rfl hl.1 rfl (Nat.le_of_ble_eq_true rfl) rfl dX2_tracksThere_2 ⟨Nat.zero_le _, Nat.zero_le _⟩ (fun H locs hP hD hS => ?_)
  refine lv_astore_n (lv' := [(2, .ref (ad (6, p0.toNatClampNeg, 0))), (0, .ref (ad (0, 0, 0))), (1, .int p0)]) hx hb dX2_tracksThere_5 rfl hl (by decide) rfl (fun ls hl => ?_)
  refine lv_aload_n hx hb dX2_tracksThere_6 rfl (lv_at hl 0 rfl) ?_
  refine lv_ifnonnull (tgt := 14) hx hb dX2_tracksThere_7 (by decide) ?_
  refine lv_aload_n hx hb dX2_tracksThere_14 rfl (lv_at hl 0 rfl) ?_
  refine zw_cVN (r := (6, p0.toNatClampNeg, 0)) (As := []) (rest := []) (st1 := [.int (sp_b σ p0.toNatClampNeg)]) ⟨hx, hb, hml, hown, hts⟩ (cd_bits (σ := σ) hR p0.toNatClampNeg (ze_vr h hnr)) ⟨va_cnB (host := "FourTrackDeck") 0 hts gX2_tracksThere_X0_bitsOfTracks_n138 rfl rfl rfl (hN.2.1 ("FourTrackDeck", 138, yX0_bitsOfTracks, "FourTrackDeck") (by decide +kernel)) (hts (.initialized RX0) (by decide +kernel)) (by decide +kernel) ⟨Nat.le_of_ble_eq_true rfl, Nat.le_of_ble_eq_true rfl⟩, hts (.instanceMethod yX0_bitsOfTracks) (by decide +kernel), hts (.selects RX0 yX0_bitsOfTracks yX0_bitsOfTracks) (by decide +kernel)⟩ (hR.2 p0.toNatClampNeg (ze_vr h hnr)).1 rfl rfl rfl hK hP hD hS hA hN rfl hl.1 rfl (Nat.le_of_ble_eq_true rfl) rfl dX2_tracksThere_15 ⟨Nat.zero_le _, Nat.zero_le _⟩ (fun H locs hP hD hS => ?_)
  exact zw_iret hx hb hr hlk hK hP hD hS dX2_tracksThere_18 rfl rfl
set_option maxHeartbeats 4000000 in
set_option maxRecDepth 100000 in
theorem cd_tracksThere_0 {l : Launch} {dC : Nat → ClassId} {dI : Nat → Nat → Nat} {cA : Nat → ClassId} {ad : zw_R → Nat} {R : List zw_R} {nr : Nat} {len : Nat → Nat} {σ : sp_S} {cM : zw_R → va_E} (hR : ze_R nr R) (hnr : nr ≤ 8) (p0 : Int32) (h : ¬ sp_r nr p0) : zw_M l yX2_tracksThere wsX2_tracksThere { frames := 1, cells := 0, slots := 0, locals := 21 } (ze_E dC dI cA) [.ref (ad (0, 0, 0)), .int p0] ad R (ze_X (ze_D cA ad nr len σ) cM) (some (.int (-1))) (ze_X (ze_D cA ad nr len σ) cM) := by
  refine zw_body (cc := cX2_tracksThere) (maxL := 3) (ret := (some .int)) (by decide) rfl (Nat.le_of_ble_eq_true rfl) ?_
  intro p e s m below meth c A ls hx hb hr hlk hml hts hown hnm hA hK hP hD hS hN hl
  have hl : lv_has ls 3 [(0, .ref (ad (0, 0, 0))), (1, .int p0)] := hl
  refine lv_aload_n hx hb dX2_tracksThere_0 rfl (lv_at hl 0 rfl) ?_
  refine lv_iload_n hx hb dX2_tracksThere_1 rfl (lv_at hl 1 rfl) ?_
  refine zw_cV (r := (0, 0, 0)) (As := [.int p0]) (rest := []) (st1 := [.null]) ⟨hx, hb, hml, hown, hts⟩ (cd_reelOf_0 hR hnr p0 h) (cwV 1 hts gX2_tracksThere_X2_reelOf rfl rfl rfl (by decide +kernel) ⟨Nat.le_of_ble_eq_true rfl, Nat.le_of_ble_eq_true rfl⟩) (hR.1 0 (by decide)) rfl rfl rfl hK hP hD hS hA hN rfl hl.1 rfl (Nat.le_of_ble_eq_true rfl) rfl dX2_tracksThere_2 ⟨Nat.zero_le _, Nat.zero_le _⟩ (fun H locs hP hD hS => ?_)
  refine lv_astore_nN (lv' := [(2, .null), (0, .ref (ad (0, 0, 0))), (1, .int p0)]) hx hb dX2_tracksThere_5 rfl hl (by decide) rfl (fun ls hl => ?_)
  refine lv_aload_nN hx hb dX2_tracksThere_6 rfl (lv_at hl 0 rfl) ?_
  refine lv_ifnonnullN hx hb dX2_tracksThere_7 ?_
  refine lv_iconst (v := (-1)) hx hb dX2_tracksThere_10 (by decide) ?_
  refine lv_goto (tgt := 18) hx hb dX2_tracksThere_11 (by decide) ?_
  exact zw_iret hx hb hr hlk hK hP hD hS dX2_tracksThere_18 rfl rfl
set_option maxHeartbeats 4000000 in
set_option maxRecDepth 100000 in
theorem cd_strip {l : Launch} {dC : Nat → ClassId} {dI : Nat → Nat → Nat} {cA : Nat → ClassId} {ad : zw_R → Nat} {R : List zw_R} {nr : Nat} {len : Nat → Nat} {σ : sp_S} {cM : zw_R → va_E} (hR : ze_R nr R) (hnr : nr ≤ 8) (p0 p1 : Int32) : zw_M l yX2_strip wsX2_strip { frames := 3, cells := 0, slots := 0, locals := 65 } (ze_E dC dI cA) [.ref (ad (0, 0, 0)), .int p0, .int p1] ad R (ze_X (ze_D cA ad nr len σ) cM) (some (.int ((sp_strip nr len σ p0 p1).1))) (ze_X (ze_D cA ad nr len (sp_strip nr len σ p0 p1).2) cM) := by
  refine zw_body (cc := cX2_strip) (maxL := 5) (ret := (some .int)) (by decide) rfl (Nat.le_of_ble_eq_true rfl) ?_
  intro p e s m below meth c A ls hx hb hr hlk hml hts hown hnm hA hK hP hD hS hN hl
  have hl : lv_has ls 5 [(0, .ref (ad (0, 0, 0))), (1, .int p0), (2, .int p1)] := hl
  have hwX1 : ∀ w ∈ u_ws RX1 TX1 3, w ∈ wsX2_strip := by decide +kernel
  refine lv_aload_n hx hb dX2_strip_0 rfl (lv_at hl 0 rfl) ?_
  refine lv_iload_n hx hb dX2_strip_1 rfl (lv_at hl 1 rfl) ?_
  refine lv_iload_n hx hb dX2_strip_2 rfl (lv_at hl 2 rfl) ?_
  rcases Decidable.em (sp_v nr p0 p1) with h_1 | h_1
  · refine zw_cV (r := (0, 0, 0)) (As := [.int p0, .int p1]) (rest := []) (st1 := [.ref (ad (8, p0.toNatClampNeg, p1.toNatClampNeg))]) ⟨hx, hb, hml, hown, hts⟩ (cd_trackOf_1 (σ := σ) hR hnr p0 p1 h_1) (cwV 2 hts gX2_strip_X2_trackOf rfl rfl rfl (by decide +kernel) ⟨Nat.le_of_ble_eq_true rfl, Nat.le_of_ble_eq_true rfl⟩) (hR.1 0 (by decide)) rfl rfl rfl hK hP hD hS hA hN rfl hl.1 rfl (Nat.le_of_ble_eq_true rfl) rfl dX2_strip_3 ⟨Nat.zero_le _, Nat.zero_le _⟩ (fun H locs hP hD hS => ?_)
    refine lv_astore_n (lv' := [(3, .ref (ad (8, p0.toNatClampNeg, p1.toNatClampNeg))), (0, .ref (ad (0, 0, 0))), (1, .int p0), (2, .int p1)]) hx hb dX2_strip_6 rfl hl (by decide) rfl (fun ls hl => ?_)
    refine lv_aload_n hx hb dX2_strip_7 rfl (lv_at hl 0 rfl) ?_
    refine lv_ifnonnull (tgt := 18) hx hb dX2_strip_8 (by decide) ?_
    refine lv_aload_n hx hb dX2_strip_18 rfl (lv_at hl 0 rfl) ?_
    refine zw_getN (r := (8, p0.toNatClampNeg, p1.toNatClampNeg)) (v := .int (σ (8, p0.toNatClampNeg, p1.toNatClampNeg) 1)) (C := RX1) (T := TX1) (N := 3) (ci := 1) hx hb hts hwX1 hown hK hP ((hR.2 p0.toNatClampNeg (ze_vr h_1.1 hnr)).2.2 p1.toNatClampNeg (ze_vt h_1.2)).1 rfl rfl 2 (by decide) ((hN.1 ("FourTrackDeck", 74, "FourTrackDeck$Track", "isThere", "Z", "FourTrackDeck") (by decide +kernel)).use rfl) (fun _ h9 => h9) rfl dX2_strip_19 ?_
    refine lv_if_eq (tgt := 29) hx hb dX2_strip_22 (by decide) (fun c_2 => ?_) (fun c_2 => ?_)
    · refine lv_iconst (v := 0) hx hb dX2_strip_29 (by decide) ?_
      refine lv_istore (lv' := [(4, .int 0), (3, .ref (ad (8, p0.toNatClampNeg, p1.toNatClampNeg))), (0, .ref (ad (0, 0, 0))), (1, .int p0), (2, .int p1)]) hx hb dX2_strip_30 hl (by decide) rfl (fun ls hl => ?_)
      refine lv_aload_n hx hb dX2_strip_32 rfl (lv_at hl 1 rfl) ?_
      refine lv_iconst (v := 0) hx hb dX2_strip_33 (by decide) ?_
      refine zw_putN (r := (8, p0.toNatClampNeg, p1.toNatClampNeg)) (v := .int 0) (C := RX1) (T := TX1) (N := 3) (ci := 1) hx hb hts hwX1 tyX1 tyX1_ok nmX1 hown hK hP hD hS ((hR.2 p0.toNatClampNeg (ze_vr h_1.1 hnr)).2.2 p1.toNatClampNeg (ze_vt h_1.2)).1 rfl rfl 2 (by decide) ((hN.1 ("FourTrackDeck", 74, "FourTrackDeck$Track", "isThere", "Z", "FourTrackDeck") (by decide +kernel)).use rfl) (fun _ h9 => h9) rfl (ty := .boolean) (by decide +kernel) rfl rfl (Nat.le_of_ble_eq_true rfl) dX2_strip_34 (cu1 := ze_X (ze_D cA ad nr len (sp_s σ (8, p0.toNatClampNeg, p1.toNatClampNeg) 1 0)) cM) (ze_up rfl rfl) (fun H locs hP hD hS => ?_)
      refine lv_aload_n hx hb dX2_strip_37 rfl (lv_at hl 2 rfl) ?_
      refine lv_iconst (v := 0) hx hb dX2_strip_38 (by decide) ?_
      refine lv_iload hx hb dX2_strip_39 (lv_at hl 0 rfl) ?_
      refine zw_cV (r := (0, 0, 0)) (As := [.int 0, .int 0]) (rest := []) (st1 := [.int 0]) ⟨hx, hb, hml, hown, hts⟩ (cd_end (σ := (sp_s σ (8, p0.toNatClampNeg, p1.toNatClampNeg) 1 0)) hR 0 0) (cwV 2 hts gX2_strip_X2_end rfl rfl rfl (by decide +kernel) ⟨Nat.le_of_ble_eq_true rfl, Nat.le_of_ble_eq_true rfl⟩) (hR.1 0 (by decide)) rfl rfl rfl hK hP hD hS hA hN rfl hl.1 rfl (Nat.le_of_ble_eq_true rfl) rfl dX2_strip_41 ⟨Nat.zero_le _, Nat.zero_le _⟩ (fun H locs hP hD hS => ?_)
      exact zw_iret hx hb hr hlk hK hP hD hS dX2_strip_44 (by simp only [sp_strip, if_pos h_1, if_pos c_2] <;> rfl) (by simp only [sp_strip, if_pos h_1, if_pos c_2] <;> rfl)
    · refine lv_iconst (v := 1) hx hb dX2_strip_25 (by decide) ?_
      refine lv_goto (tgt := 30) hx hb dX2_strip_26 (by decide) ?_
      refine lv_istore (lv' := [(4, .int 1), (3, .ref (ad (8, p0.toNatClampNeg, p1.toNatClampNeg))), (0, .ref (ad (0, 0, 0))), (1, .int p0), (2, .int p1)]) hx hb dX2_strip_30 hl (by decide) rfl (fun ls hl => ?_)
      refine lv_aload_n hx hb dX2_strip_32 rfl (lv_at hl 1 rfl) ?_
      refine lv_iconst (v := 0) hx hb dX2_strip_33 (by decide) ?_
      refine zw_putN (r := (8, p0.toNatClampNeg, p1.toNatClampNeg)) (v := .int 0) (C := RX1) (T := TX1) (N := 3) (ci := 1) hx hb hts hwX1 tyX1 tyX1_ok nmX1 hown hK hP hD hS ((hR.2 p0.toNatClampNeg (ze_vr h_1.1 hnr)).2.2 p1.toNatClampNeg (ze_vt h_1.2)).1 rfl rfl 2 (by decide) ((hN.1 ("FourTrackDeck", 74, "FourTrackDeck$Track", "isThere", "Z", "FourTrackDeck") (by decide +kernel)).use rfl) (fun _ h9 => h9) rfl (ty := .boolean) (by decide +kernel) rfl rfl (Nat.le_of_ble_eq_true rfl) dX2_strip_34 (cu1 := ze_X (ze_D cA ad nr len (sp_s σ (8, p0.toNatClampNeg, p1.toNatClampNeg) 1 0)) cM) (ze_up rfl rfl) (fun H locs hP hD hS => ?_)
      refine lv_aload_n hx hb dX2_strip_37 rfl (lv_at hl 2 rfl) ?_
      refine lv_iconst (v := 0) hx hb dX2_strip_38 (by decide) ?_
      refine lv_iload hx hb dX2_strip_39 (lv_at hl 0 rfl) ?_
      refine zw_cV (r := (0, 0, 0)) (As := [.int 0, .int 1]) (rest := []) (st1 := [.int 1]) ⟨hx, hb, hml, hown, hts⟩ (cd_end (σ := (sp_s σ (8, p0.toNatClampNeg, p1.toNatClampNeg) 1 0)) hR 0 1) (cwV 2 hts gX2_strip_X2_end rfl rfl rfl (by decide +kernel) ⟨Nat.le_of_ble_eq_true rfl, Nat.le_of_ble_eq_true rfl⟩) (hR.1 0 (by decide)) rfl rfl rfl hK hP hD hS hA hN rfl hl.1 rfl (Nat.le_of_ble_eq_true rfl) rfl dX2_strip_41 ⟨Nat.zero_le _, Nat.zero_le _⟩ (fun H locs hP hD hS => ?_)
      exact zw_iret hx hb hr hlk hK hP hD hS dX2_strip_44 (by simp only [sp_strip, if_pos h_1, if_neg c_2] <;> rfl) (by simp only [sp_strip, if_pos h_1, if_neg c_2] <;> rfl)
  · refine zw_cV (r := (0, 0, 0)) (As := [.int p0, .int p1]) (rest := []) (st1 := [.null]) ⟨hx, hb, hml, hown, hts⟩ (cd_trackOf_0 (σ := σ) hR hnr p0 p1 h_1) (cwV 2 hts gX2_strip_X2_trackOf rfl rfl rfl (by decide +kernel) ⟨Nat.le_of_ble_eq_true rfl, Nat.le_of_ble_eq_true rfl⟩) (hR.1 0 (by decide)) rfl rfl rfl hK hP hD hS hA hN rfl hl.1 rfl (Nat.le_of_ble_eq_true rfl) rfl dX2_strip_3 ⟨Nat.zero_le _, Nat.zero_le _⟩ (fun H locs hP hD hS => ?_)
    refine lv_astore_nN (lv' := [(3, .null), (0, .ref (ad (0, 0, 0))), (1, .int p0), (2, .int p1)]) hx hb dX2_strip_6 rfl hl (by decide) rfl (fun ls hl => ?_)
    refine lv_aload_nN hx hb dX2_strip_7 rfl (lv_at hl 0 rfl) ?_
    refine lv_ifnonnullN hx hb dX2_strip_8 ?_
    refine lv_aload_n hx hb dX2_strip_11 rfl (lv_at hl 1 rfl) ?_
    refine lv_iconst (v := 1) hx hb dX2_strip_12 (by decide) ?_
    refine lv_iconst (v := (-1)) hx hb dX2_strip_13 (by decide) ?_
    refine zw_cV (r := (0, 0, 0)) (As := [.int 1, .int (-1)]) (rest := []) (st1 := [.int (-1)]) ⟨hx, hb, hml, hown, hts⟩ (cd_end (σ := σ) hR 1 (-1)) (cwV 2 hts gX2_strip_X2_end rfl rfl rfl (by decide +kernel) ⟨Nat.le_of_ble_eq_true rfl, Nat.le_of_ble_eq_true rfl⟩) (hR.1 0 (by decide)) rfl rfl rfl hK hP hD hS hA hN rfl hl.1 rfl (Nat.le_of_ble_eq_true rfl) rfl dX2_strip_14 ⟨Nat.zero_le _, Nat.zero_le _⟩ (fun H locs hP hD hS => ?_)
    exact zw_iret hx hb hr hlk hK hP hD hS dX2_strip_17 (by simp only [sp_strip, if_neg h_1] <;> rfl) (by simp only [sp_strip, if_neg h_1] <;> rfl)
set_option maxHeartbeats 4000000 in
set_option maxRecDepth 100000 in
theorem cd_thread {l : Launch} {dC : Nat → ClassId} {dI : Nat → Nat → Nat} {cA : Nat → ClassId} {ad : zw_R → Nat} {R : List zw_R} {nr : Nat} {len : Nat → Nat} {σ : sp_S} {cM : zw_R → va_E} (hR : ze_R nr R) (hnr : nr ≤ 8) (p0 : Int32) : zw_M l yX2_thread wsX2_thread { frames := 1, cells := 0, slots := 0, locals := 22 } (ze_E dC dI cA) [.ref (ad (0, 0, 0)), .int p0] ad R (ze_X (ze_D cA ad nr len σ) cM) (some (.int ((sp_thread nr len σ p0).1))) (ze_X (ze_D cA ad nr len (sp_thread nr len σ p0).2) cM) := by
  refine zw_body (cc := cX2_thread) (maxL := 3) (ret := (some .int)) (by decide) rfl (Nat.le_of_ble_eq_true rfl) ?_
  intro p e s m below meth c A ls hx hb hr hlk hml hts hown hnm hA hK hP hD hS hN hl
  have hl : lv_has ls 3 [(0, .ref (ad (0, 0, 0))), (1, .int p0)] := hl
  have hwX2 : ∀ w ∈ u_ws RX2 TX2 15, w ∈ wsX2_thread := by decide +kernel
  refine lv_iload_n hx hb dX2_thread_0 rfl (lv_at hl 1 rfl) ?_
  refine lv_iconst (v := (-1)) hx hb dX2_thread_1 (by decide) ?_
  refine lv_icmp_eq (tgt := 20) hx hb dX2_thread_2 (by decide) (fun c_1 => ?_) (fun c_1 => ?_)
  · refine lv_aload_n hx hb dX2_thread_20 rfl (lv_at hl 0 rfl) ?_
    refine zw_getf (r := (0, 0, 0)) (v := .int (σ (0, 0, 0) 1)) (C := RX2) (T := TX2) (N := 15) (ci := 2) hx hb hts hwX2 hown hK hP (hR.1 0 (by decide)) rfl rfl 2 (by decide) (hts (.fieldLink RX2 19 "FourTrackDeck" "onDeck" "I") (by decide +kernel)) (fun _ h9 => h9) rfl dX2_thread_21 ?_
    refine lv_istore_n (lv' := [(2, .int (σ (0, 0, 0) 1)), (0, .ref (ad (0, 0, 0))), (1, .int p0)]) hx hb dX2_thread_24 rfl hl (by decide) rfl (fun ls hl => ?_)
    refine lv_aload_n hx hb dX2_thread_25 rfl (lv_at hl 1 rfl) ?_
    refine lv_iload_n hx hb dX2_thread_26 rfl (lv_at hl 2 rfl) ?_
    refine zw_putf (r := (0, 0, 0)) (v := .int p0) (C := RX2) (T := TX2) (N := 15) (ci := 2) hx hb hts hwX2 tyX2 tyX2_ok nmX2 hown hK hP hD hS (hR.1 0 (by decide)) rfl rfl 2 (by decide) (hts (.fieldLink RX2 19 "FourTrackDeck" "onDeck" "I") (by decide +kernel)) (fun _ h9 => h9) rfl (ty := .int) (by decide +kernel) rfl rfl (Nat.le_of_ble_eq_true rfl) dX2_thread_27 (cu1 := ze_X (ze_D cA ad nr len (sp_s σ (0, 0, 0) 1 p0)) cM) (ze_up rfl rfl) (fun H locs hP hD hS => ?_)
    refine lv_aload_n hx hb dX2_thread_30 rfl (lv_at hl 1 rfl) ?_
    refine lv_iconst (v := 0) hx hb dX2_thread_31 (by decide) ?_
    refine lv_iload_n hx hb dX2_thread_32 rfl (lv_at hl 0 rfl) ?_
    refine zw_cV (r := (0, 0, 0)) (As := [.int 0, .int (σ (0, 0, 0) 1)]) (rest := []) (st1 := [.int (σ (0, 0, 0) 1)]) ⟨hx, hb, hml, hown, hts⟩ (cd_end (σ := (sp_s σ (0, 0, 0) 1 p0)) hR 0 (σ (0, 0, 0) 1)) (cwV 2 hts gX2_thread_X2_end rfl rfl rfl (by decide +kernel) ⟨Nat.le_of_ble_eq_true rfl, Nat.le_of_ble_eq_true rfl⟩) (hR.1 0 (by decide)) rfl rfl rfl hK hP hD hS hA hN rfl hl.1 rfl (Nat.le_of_ble_eq_true rfl) rfl dX2_thread_33 ⟨Nat.zero_le _, Nat.zero_le _⟩ (fun H locs hP hD hS => ?_)
    exact zw_iret hx hb hr hlk hK hP hD hS dX2_thread_36 (by simp only [sp_thread, if_pos c_1] <;> rfl) (by simp only [sp_thread, if_pos c_1] <;> rfl)
  · refine lv_aload_n hx hb dX2_thread_5 rfl (lv_at hl 0 rfl) ?_
    refine lv_iload_n hx hb dX2_thread_6 rfl (lv_at hl 1 rfl) ?_
    rcases Decidable.em (sp_r nr p0) with h_2 | h_2
    · refine zw_cV (r := (0, 0, 0)) (As := [.int p0]) (rest := []) (st1 := [.ref (ad (6, p0.toNatClampNeg, 0))]) ⟨hx, hb, hml, hown, hts⟩ (cd_reelOf_1 (σ := σ) hR hnr p0 h_2) (cwV 1 hts gX2_thread_X2_reelOf rfl rfl rfl (by decide +kernel) ⟨Nat.le_of_ble_eq_true rfl, Nat.le_of_ble_eq_true rfl⟩) (hR.1 0 (by decide)) rfl rfl rfl hK hP hD hS hA hN rfl hl.1 rfl (Nat.le_of_ble_eq_true rfl) rfl dX2_thread_7 ⟨Nat.zero_le _, Nat.zero_le _⟩ (fun H locs hP hD hS => ?_)
      refine lv_ifnonnull (tgt := 20) hx hb dX2_thread_10 (by decide) ?_
      refine lv_aload_n hx hb dX2_thread_20 rfl (lv_at hl 0 rfl) ?_
      refine zw_getf (r := (0, 0, 0)) (v := .int (σ (0, 0, 0) 1)) (C := RX2) (T := TX2) (N := 15) (ci := 2) hx hb hts hwX2 hown hK hP (hR.1 0 (by decide)) rfl rfl 2 (by decide) (hts (.fieldLink RX2 19 "FourTrackDeck" "onDeck" "I") (by decide +kernel)) (fun _ h9 => h9) rfl dX2_thread_21 ?_
      refine lv_istore_n (lv' := [(2, .int (σ (0, 0, 0) 1)), (0, .ref (ad (0, 0, 0))), (1, .int p0)]) hx hb dX2_thread_24 rfl hl (by decide) rfl (fun ls hl => ?_)
      refine lv_aload_n hx hb dX2_thread_25 rfl (lv_at hl 1 rfl) ?_
      refine lv_iload_n hx hb dX2_thread_26 rfl (lv_at hl 2 rfl) ?_
      refine zw_putf (r := (0, 0, 0)) (v := .int p0) (C := RX2) (T := TX2) (N := 15) (ci := 2) hx hb hts hwX2 tyX2 tyX2_ok nmX2 hown hK hP hD hS (hR.1 0 (by decide)) rfl rfl 2 (by decide) (hts (.fieldLink RX2 19 "FourTrackDeck" "onDeck" "I") (by decide +kernel)) (fun _ h9 => h9) rfl (ty := .int) (by decide +kernel) rfl rfl (Nat.le_of_ble_eq_true rfl) dX2_thread_27 (cu1 := ze_X (ze_D cA ad nr len (sp_s σ (0, 0, 0) 1 p0)) cM) (ze_up rfl rfl) (fun H locs hP hD hS => ?_)
      refine lv_aload_n hx hb dX2_thread_30 rfl (lv_at hl 1 rfl) ?_
      refine lv_iconst (v := 0) hx hb dX2_thread_31 (by decide) ?_
      refine lv_iload_n hx hb dX2_thread_32 rfl (lv_at hl 0 rfl) ?_
      refine zw_cV (r := (0, 0, 0)) (As := [.int 0, .int (σ (0, 0, 0) 1)]) (rest := []) (st1 := [.int (σ (0, 0, 0) 1)]) ⟨hx, hb, hml, hown, hts⟩ (cd_end (σ := (sp_s σ (0, 0, 0) 1 p0)) hR 0 (σ (0, 0, 0) 1)) (cwV 2 hts gX2_thread_X2_end rfl rfl rfl (by decide +kernel) ⟨Nat.le_of_ble_eq_true rfl, Nat.le_of_ble_eq_true rfl⟩) (hR.1 0 (by decide)) rfl rfl rfl hK hP hD hS hA hN rfl hl.1 rfl (Nat.le_of_ble_eq_true rfl) rfl dX2_thread_33 ⟨Nat.zero_le _, Nat.zero_le _⟩ (fun H locs hP hD hS => ?_)
      exact zw_iret hx hb hr hlk hK hP hD hS dX2_thread_36 (by simp only [sp_thread, if_neg c_1, if_pos h_2] <;> rfl) (by simp only [sp_thread, if_neg c_1, if_pos h_2] <;> rfl)
    · refine zw_cV (r := (0, 0, 0)) (As := [.int p0]) (rest := []) (st1 := [.null]) ⟨hx, hb, hml, hown, hts⟩ (cd_reelOf_0 (σ := σ) hR hnr p0 h_2) (cwV 1 hts gX2_thread_X2_reelOf rfl rfl rfl (by decide +kernel) ⟨Nat.le_of_ble_eq_true rfl, Nat.le_of_ble_eq_true rfl⟩) (hR.1 0 (by decide)) rfl rfl rfl hK hP hD hS hA hN rfl hl.1 rfl (Nat.le_of_ble_eq_true rfl) rfl dX2_thread_7 ⟨Nat.zero_le _, Nat.zero_le _⟩ (fun H locs hP hD hS => ?_)
      refine lv_ifnonnullN hx hb dX2_thread_10 ?_
      refine lv_aload_n hx hb dX2_thread_13 rfl (lv_at hl 0 rfl) ?_
      refine lv_iconst (v := 1) hx hb dX2_thread_14 (by decide) ?_
      refine lv_iconst (v := (-1)) hx hb dX2_thread_15 (by decide) ?_
      refine zw_cV (r := (0, 0, 0)) (As := [.int 1, .int (-1)]) (rest := []) (st1 := [.int (-1)]) ⟨hx, hb, hml, hown, hts⟩ (cd_end (σ := σ) hR 1 (-1)) (cwV 2 hts gX2_thread_X2_end rfl rfl rfl (by decide +kernel) ⟨Nat.le_of_ble_eq_true rfl, Nat.le_of_ble_eq_true rfl⟩) (hR.1 0 (by decide)) rfl rfl rfl hK hP hD hS hA hN rfl hl.1 rfl (Nat.le_of_ble_eq_true rfl) rfl dX2_thread_16 ⟨Nat.zero_le _, Nat.zero_le _⟩ (fun H locs hP hD hS => ?_)
      exact zw_iret hx hb hr hlk hK hP hD hS dX2_thread_19 (by simp only [sp_thread, if_neg c_1, if_neg h_2] <;> rfl) (by simp only [sp_thread, if_neg c_1, if_neg h_2] <;> rfl)
set_option maxHeartbeats 4000000 in
set_option maxRecDepth 100000 in
theorem cd_head {l : Launch} {dC : Nat → ClassId} {dI : Nat → Nat → Nat} {cA : Nat → ClassId} {ad : zw_R → Nat} {R : List zw_R} {nr : Nat} {len : Nat → Nat} {σ : sp_S} {cM : zw_R → va_E} (hR : ze_R nr R) (p0 p1 : Int32) : zw_M l yX2_head wsX2_head { frames := 2, cells := 0, slots := 0, locals := 42 } (ze_E dC dI cA) [.ref (ad (0, 0, 0)), .int p0, .int p1] ad R (ze_X (ze_D cA ad nr len σ) cM) (some (.int ((sp_head nr len σ p0 p1).1))) (ze_X (ze_D cA ad nr len (sp_head nr len σ p0 p1).2) cM) := by
  refine zw_body (cc := cX2_head) (maxL := 4) (ret := (some .int)) (by decide) rfl (Nat.le_of_ble_eq_true rfl) ?_
  intro p e s m below meth c A ls hx hb hr hlk hml hts hown hnm hA hK hP hD hS hN hl
  have hl : lv_has ls 4 [(0, .ref (ad (0, 0, 0))), (1, .int p0), (2, .int p1)] := hl
  have hwX2 : ∀ w ∈ u_ws RX2 TX2 15, w ∈ wsX2_head := by decide +kernel
  refine lv_iload_n hx hb dX2_head_0 rfl (lv_at hl 1 rfl) ?_
  rcases Decidable.em (sp_t p0) with h_1 | h_1
  · refine zw_cS (As := [.int p0]) (rest := []) (st1 := [.int 1]) ⟨hx, hb, hml, hown, hts⟩ (cd_isTrack_1 p0 h_1) (va_cwS 1 hts gX2_head_X2_isTrack rfl rfl rfl (by decide +kernel) ⟨Nat.le_of_ble_eq_true rfl, Nat.le_of_ble_eq_true rfl⟩) hK hP hD hS hA hN rfl hl.1 rfl (Nat.le_of_ble_eq_true rfl) rfl dX2_head_1 ⟨Nat.zero_le _, Nat.zero_le _⟩ (fun H locs hP hD hS => ?_)
    refine lv_if_eq (tgt := 18) hx hb dX2_head_4 (by decide) (fun c_2 => absurd c_2 (by decide)) (fun c_2 => ?_)
    refine lv_iload_n hx hb dX2_head_7 rfl (lv_at hl 2 rfl) ?_
    refine lv_bipush (v := (-8)) hx hb dX2_head_8 (by decide) ?_
    refine lv_bipush (v := 8) hx hb dX2_head_10 (by decide) ?_
    rcases Decidable.em (sp_w p1 (-8) 8) with h_3 | h_3
    · refine zw_cS (As := [.int p1, .int (-8), .int 8]) (rest := []) (st1 := [.int 1]) ⟨hx, hb, hml, hown, hts⟩ (cd_isWithin_1 p1 (-8) 8 h_3) (va_cwS 3 hts gX2_head_X2_isWithin rfl rfl rfl (by decide +kernel) ⟨Nat.le_of_ble_eq_true rfl, Nat.le_of_ble_eq_true rfl⟩) hK hP hD hS hA hN rfl hl.1 rfl (Nat.le_of_ble_eq_true rfl) rfl dX2_head_12 ⟨Nat.zero_le _, Nat.zero_le _⟩ (fun H locs hP hD hS => ?_)
      refine lv_if_ne (tgt := 25) hx hb dX2_head_15 (by decide) (fun c_4 => ?_) (fun c_4 => absurd c_4 (by decide))
      refine lv_aload_n hx hb dX2_head_25 rfl (lv_at hl 0 rfl) ?_
      refine zw_getf (r := (0, 0, 0)) (v := .ref (ad (2, 0, 0))) (C := RX2) (T := TX2) (N := 15) (ci := 2) hx hb hts hwX2 hown hK hP (hR.1 0 (by decide)) rfl rfl 4 (by decide) (hts (.fieldLink RX2 25 "FourTrackDeck" "offsets" "[I") (by decide +kernel)) (fun _ h9 => h9) rfl dX2_head_26 ?_
      refine lv_iload_n hx hb dX2_head_29 rfl (lv_at hl 1 rfl) ?_
      refine zw_iald (r := (2, 0, 0)) hx hb hK hP (hR.1 2 (by decide)) 0 rfl rfl (ze_ti h_1) dX2_head_30 ?_
      refine lv_istore_n (lv' := [(3, .int (σ (2, 0, 0) p0.toNatClampNeg)), (0, .ref (ad (0, 0, 0))), (1, .int p0), (2, .int p1)]) hx hb dX2_head_31 rfl hl (by decide) rfl (fun ls hl => ?_)
      refine lv_aload_n hx hb dX2_head_32 rfl (lv_at hl 1 rfl) ?_
      refine zw_getf (r := (0, 0, 0)) (v := .ref (ad (2, 0, 0))) (C := RX2) (T := TX2) (N := 15) (ci := 2) hx hb hts hwX2 hown hK hP (hR.1 0 (by decide)) rfl rfl 4 (by decide) (hts (.fieldLink RX2 25 "FourTrackDeck" "offsets" "[I") (by decide +kernel)) (fun _ h9 => h9) rfl dX2_head_33 ?_
      refine lv_iload_n hx hb dX2_head_36 rfl (lv_at hl 2 rfl) ?_
      refine lv_iload_n hx hb dX2_head_37 rfl (lv_at hl 3 rfl) ?_
      refine zw_iast (r := (2, 0, 0)) hx hb hK hP hD hS (hR.1 2 (by decide)) 0 rfl rfl (ze_ti h_1) dX2_head_38 (cu1 := ze_X (ze_D cA ad nr len (sp_s σ (2, 0, 0) p0.toNatClampNeg p1)) cM) (ze_up rfl rfl) (fun H locs hP hD hS => ?_)
      refine lv_aload_n hx hb dX2_head_39 rfl (lv_at hl 1 rfl) ?_
      refine lv_iconst (v := 0) hx hb dX2_head_40 (by decide) ?_
      refine lv_iload_n hx hb dX2_head_41 rfl (lv_at hl 0 rfl) ?_
      refine zw_cV (r := (0, 0, 0)) (As := [.int 0, .int (σ (2, 0, 0) p0.toNatClampNeg)]) (rest := []) (st1 := [.int (σ (2, 0, 0) p0.toNatClampNeg)]) ⟨hx, hb, hml, hown, hts⟩ (cd_end (σ := (sp_s σ (2, 0, 0) p0.toNatClampNeg p1)) hR 0 (σ (2, 0, 0) p0.toNatClampNeg)) (cwV 2 hts gX2_head_X2_end rfl rfl rfl (by decide +kernel) ⟨Nat.le_of_ble_eq_true rfl, Nat.le_of_ble_eq_true rfl⟩) (hR.1 0 (by decide)) rfl rfl rfl hK hP hD hS hA hN rfl hl.1 rfl (Nat.le_of_ble_eq_true rfl) rfl dX2_head_42 ⟨Nat.zero_le _, Nat.zero_le _⟩ (fun H locs hP hD hS => ?_)
      exact zw_iret hx hb hr hlk hK hP hD hS dX2_head_45 (by simp only [sp_head, if_pos h_1, if_pos h_3] <;> rfl) (by simp only [sp_head, if_pos h_1, if_pos h_3] <;> rfl)
    · refine zw_cS (As := [.int p1, .int (-8), .int 8]) (rest := []) (st1 := [.int 0]) ⟨hx, hb, hml, hown, hts⟩ (cd_isWithin_0 p1 (-8) 8 h_3) (va_cwS 3 hts gX2_head_X2_isWithin rfl rfl rfl (by decide +kernel) ⟨Nat.le_of_ble_eq_true rfl, Nat.le_of_ble_eq_true rfl⟩) hK hP hD hS hA hN rfl hl.1 rfl (Nat.le_of_ble_eq_true rfl) rfl dX2_head_12 ⟨Nat.zero_le _, Nat.zero_le _⟩ (fun H locs hP hD hS => ?_)
      refine lv_if_ne (tgt := 25) hx hb dX2_head_15 (by decide) (fun c_5 => absurd (by decide) c_5) (fun c_5 => ?_)
      refine lv_aload_n hx hb dX2_head_18 rfl (lv_at hl 0 rfl) ?_
      refine lv_iconst (v := 1) hx hb dX2_head_19 (by decide) ?_
      refine lv_iconst (v := 0) hx hb dX2_head_20 (by decide) ?_
      refine zw_cV (r := (0, 0, 0)) (As := [.int 1, .int 0]) (rest := []) (st1 := [.int 0]) ⟨hx, hb, hml, hown, hts⟩ (cd_end (σ := σ) hR 1 0) (cwV 2 hts gX2_head_X2_end rfl rfl rfl (by decide +kernel) ⟨Nat.le_of_ble_eq_true rfl, Nat.le_of_ble_eq_true rfl⟩) (hR.1 0 (by decide)) rfl rfl rfl hK hP hD hS hA hN rfl hl.1 rfl (Nat.le_of_ble_eq_true rfl) rfl dX2_head_21 ⟨Nat.zero_le _, Nat.zero_le _⟩ (fun H locs hP hD hS => ?_)
      exact zw_iret hx hb hr hlk hK hP hD hS dX2_head_24 (by simp only [sp_head, if_pos h_1, if_neg h_3] <;> rfl) (by simp only [sp_head, if_pos h_1, if_neg h_3] <;> rfl)
  · refine zw_cS (As := [.int p0]) (rest := []) (st1 := [.int 0]) ⟨hx, hb, hml, hown, hts⟩ (cd_isTrack_0 p0 h_1) (va_cwS 1 hts gX2_head_X2_isTrack rfl rfl rfl (by decide +kernel) ⟨Nat.le_of_ble_eq_true rfl, Nat.le_of_ble_eq_true rfl⟩) hK hP hD hS hA hN rfl hl.1 rfl (Nat.le_of_ble_eq_true rfl) rfl dX2_head_1 ⟨Nat.zero_le _, Nat.zero_le _⟩ (fun H locs hP hD hS => ?_)
    refine lv_if_eq (tgt := 18) hx hb dX2_head_4 (by decide) (fun c_6 => ?_) (fun c_6 => absurd (by decide) c_6)
    refine lv_aload_n hx hb dX2_head_18 rfl (lv_at hl 0 rfl) ?_
    refine lv_iconst (v := 1) hx hb dX2_head_19 (by decide) ?_
    refine lv_iconst (v := 0) hx hb dX2_head_20 (by decide) ?_
    refine zw_cV (r := (0, 0, 0)) (As := [.int 1, .int 0]) (rest := []) (st1 := [.int 0]) ⟨hx, hb, hml, hown, hts⟩ (cd_end (σ := σ) hR 1 0) (cwV 2 hts gX2_head_X2_end rfl rfl rfl (by decide +kernel) ⟨Nat.le_of_ble_eq_true rfl, Nat.le_of_ble_eq_true rfl⟩) (hR.1 0 (by decide)) rfl rfl rfl hK hP hD hS hA hN rfl hl.1 rfl (Nat.le_of_ble_eq_true rfl) rfl dX2_head_21 ⟨Nat.zero_le _, Nat.zero_le _⟩ (fun H locs hP hD hS => ?_)
    exact zw_iret hx hb hr hlk hK hP hD hS dX2_head_24 (by simp only [sp_head, if_neg h_1] <;> rfl) (by simp only [sp_head, if_neg h_1] <;> rfl)
set_option maxHeartbeats 4000000 in
set_option maxRecDepth 100000 in
theorem cd_arm {l : Launch} {dC : Nat → ClassId} {dI : Nat → Nat → Nat} {cA : Nat → ClassId} {ad : zw_R → Nat} {R : List zw_R} {nr : Nat} {len : Nat → Nat} {σ : sp_S} {cM : zw_R → va_E} (hR : ze_R nr R) (p0 p1 : Int32) : zw_M l yX2_arm wsX2_arm { frames := 2, cells := 0, slots := 0, locals := 42 } (ze_E dC dI cA) [.ref (ad (0, 0, 0)), .int p0, .int p1] ad R (ze_X (ze_D cA ad nr len σ) cM) (some (.int ((sp_arm nr len σ p0 p1).1))) (ze_X (ze_D cA ad nr len (sp_arm nr len σ p0 p1).2) cM) := by
  refine zw_body (cc := cX2_arm) (maxL := 4) (ret := (some .int)) (by decide) rfl (Nat.le_of_ble_eq_true rfl) ?_
  intro p e s m below meth c A ls hx hb hr hlk hml hts hown hnm hA hK hP hD hS hN hl
  have hl : lv_has ls 4 [(0, .ref (ad (0, 0, 0))), (1, .int p0), (2, .int p1)] := hl
  have hwX2 : ∀ w ∈ u_ws RX2 TX2 15, w ∈ wsX2_arm := by decide +kernel
  refine lv_iload_n hx hb dX2_arm_0 rfl (lv_at hl 1 rfl) ?_
  rcases Decidable.em (sp_t p0) with h_1 | h_1
  · refine zw_cS (As := [.int p0]) (rest := []) (st1 := [.int 1]) ⟨hx, hb, hml, hown, hts⟩ (cd_isTrack_1 p0 h_1) (va_cwS 1 hts gX2_arm_X2_isTrack rfl rfl rfl (by decide +kernel) ⟨Nat.le_of_ble_eq_true rfl, Nat.le_of_ble_eq_true rfl⟩) hK hP hD hS hA hN rfl hl.1 rfl (Nat.le_of_ble_eq_true rfl) rfl dX2_arm_1 ⟨Nat.zero_le _, Nat.zero_le _⟩ (fun H locs hP hD hS => ?_)
    refine lv_if_eq (tgt := 16) hx hb dX2_arm_4 (by decide) (fun c_2 => absurd c_2 (by decide)) (fun c_2 => ?_)
    refine lv_iload_n hx hb dX2_arm_7 rfl (lv_at hl 2 rfl) ?_
    refine lv_iconst (v := 0) hx hb dX2_arm_8 (by decide) ?_
    refine lv_iconst (v := 3) hx hb dX2_arm_9 (by decide) ?_
    rcases Decidable.em (sp_w p1 0 3) with h_3 | h_3
    · refine zw_cS (As := [.int p1, .int 0, .int 3]) (rest := []) (st1 := [.int 1]) ⟨hx, hb, hml, hown, hts⟩ (cd_isWithin_1 p1 0 3 h_3) (va_cwS 3 hts gX2_arm_X2_isWithin rfl rfl rfl (by decide +kernel) ⟨Nat.le_of_ble_eq_true rfl, Nat.le_of_ble_eq_true rfl⟩) hK hP hD hS hA hN rfl hl.1 rfl (Nat.le_of_ble_eq_true rfl) rfl dX2_arm_10 ⟨Nat.zero_le _, Nat.zero_le _⟩ (fun H locs hP hD hS => ?_)
      refine lv_if_ne (tgt := 23) hx hb dX2_arm_13 (by decide) (fun c_4 => ?_) (fun c_4 => absurd c_4 (by decide))
      refine lv_aload_n hx hb dX2_arm_23 rfl (lv_at hl 0 rfl) ?_
      refine zw_getf (r := (0, 0, 0)) (v := .ref (ad (3, 0, 0))) (C := RX2) (T := TX2) (N := 15) (ci := 2) hx hb hts hwX2 hown hK hP (hR.1 0 (by decide)) rfl rfl 5 (by decide) (hts (.fieldLink RX2 29 "FourTrackDeck" "modes" "[I") (by decide +kernel)) (fun _ h9 => h9) rfl dX2_arm_24 ?_
      refine lv_iload_n hx hb dX2_arm_27 rfl (lv_at hl 1 rfl) ?_
      refine zw_iald (r := (3, 0, 0)) hx hb hK hP (hR.1 3 (by decide)) 0 rfl rfl (ze_ti h_1) dX2_arm_28 ?_
      refine lv_istore_n (lv' := [(3, .int (σ (3, 0, 0) p0.toNatClampNeg)), (0, .ref (ad (0, 0, 0))), (1, .int p0), (2, .int p1)]) hx hb dX2_arm_29 rfl hl (by decide) rfl (fun ls hl => ?_)
      refine lv_aload_n hx hb dX2_arm_30 rfl (lv_at hl 1 rfl) ?_
      refine zw_getf (r := (0, 0, 0)) (v := .ref (ad (3, 0, 0))) (C := RX2) (T := TX2) (N := 15) (ci := 2) hx hb hts hwX2 hown hK hP (hR.1 0 (by decide)) rfl rfl 5 (by decide) (hts (.fieldLink RX2 29 "FourTrackDeck" "modes" "[I") (by decide +kernel)) (fun _ h9 => h9) rfl dX2_arm_31 ?_
      refine lv_iload_n hx hb dX2_arm_34 rfl (lv_at hl 2 rfl) ?_
      refine lv_iload_n hx hb dX2_arm_35 rfl (lv_at hl 3 rfl) ?_
      refine zw_iast (r := (3, 0, 0)) hx hb hK hP hD hS (hR.1 3 (by decide)) 0 rfl rfl (ze_ti h_1) dX2_arm_36 (cu1 := ze_X (ze_D cA ad nr len (sp_s σ (3, 0, 0) p0.toNatClampNeg p1)) cM) (ze_up rfl rfl) (fun H locs hP hD hS => ?_)
      refine lv_aload_n hx hb dX2_arm_37 rfl (lv_at hl 1 rfl) ?_
      refine lv_iconst (v := 0) hx hb dX2_arm_38 (by decide) ?_
      refine lv_iload_n hx hb dX2_arm_39 rfl (lv_at hl 0 rfl) ?_
      refine zw_cV (r := (0, 0, 0)) (As := [.int 0, .int (σ (3, 0, 0) p0.toNatClampNeg)]) (rest := []) (st1 := [.int (σ (3, 0, 0) p0.toNatClampNeg)]) ⟨hx, hb, hml, hown, hts⟩ (cd_end (σ := (sp_s σ (3, 0, 0) p0.toNatClampNeg p1)) hR 0 (σ (3, 0, 0) p0.toNatClampNeg)) (cwV 2 hts gX2_arm_X2_end rfl rfl rfl (by decide +kernel) ⟨Nat.le_of_ble_eq_true rfl, Nat.le_of_ble_eq_true rfl⟩) (hR.1 0 (by decide)) rfl rfl rfl hK hP hD hS hA hN rfl hl.1 rfl (Nat.le_of_ble_eq_true rfl) rfl dX2_arm_40 ⟨Nat.zero_le _, Nat.zero_le _⟩ (fun H locs hP hD hS => ?_)
      exact zw_iret hx hb hr hlk hK hP hD hS dX2_arm_43 (by simp only [sp_arm, if_pos h_1, if_pos h_3] <;> rfl) (by simp only [sp_arm, if_pos h_1, if_pos h_3] <;> rfl)
    · refine zw_cS (As := [.int p1, .int 0, .int 3]) (rest := []) (st1 := [.int 0]) ⟨hx, hb, hml, hown, hts⟩ (cd_isWithin_0 p1 0 3 h_3) (va_cwS 3 hts gX2_arm_X2_isWithin rfl rfl rfl (by decide +kernel) ⟨Nat.le_of_ble_eq_true rfl, Nat.le_of_ble_eq_true rfl⟩) hK hP hD hS hA hN rfl hl.1 rfl (Nat.le_of_ble_eq_true rfl) rfl dX2_arm_10 ⟨Nat.zero_le _, Nat.zero_le _⟩ (fun H locs hP hD hS => ?_)
      refine lv_if_ne (tgt := 23) hx hb dX2_arm_13 (by decide) (fun c_5 => absurd (by decide) c_5) (fun c_5 => ?_)
      refine lv_aload_n hx hb dX2_arm_16 rfl (lv_at hl 0 rfl) ?_
      refine lv_iconst (v := 1) hx hb dX2_arm_17 (by decide) ?_
      refine lv_iconst (v := 0) hx hb dX2_arm_18 (by decide) ?_
      refine zw_cV (r := (0, 0, 0)) (As := [.int 1, .int 0]) (rest := []) (st1 := [.int 0]) ⟨hx, hb, hml, hown, hts⟩ (cd_end (σ := σ) hR 1 0) (cwV 2 hts gX2_arm_X2_end rfl rfl rfl (by decide +kernel) ⟨Nat.le_of_ble_eq_true rfl, Nat.le_of_ble_eq_true rfl⟩) (hR.1 0 (by decide)) rfl rfl rfl hK hP hD hS hA hN rfl hl.1 rfl (Nat.le_of_ble_eq_true rfl) rfl dX2_arm_19 ⟨Nat.zero_le _, Nat.zero_le _⟩ (fun H locs hP hD hS => ?_)
      exact zw_iret hx hb hr hlk hK hP hD hS dX2_arm_22 (by simp only [sp_arm, if_pos h_1, if_neg h_3] <;> rfl) (by simp only [sp_arm, if_pos h_1, if_neg h_3] <;> rfl)
  · refine zw_cS (As := [.int p0]) (rest := []) (st1 := [.int 0]) ⟨hx, hb, hml, hown, hts⟩ (cd_isTrack_0 p0 h_1) (va_cwS 1 hts gX2_arm_X2_isTrack rfl rfl rfl (by decide +kernel) ⟨Nat.le_of_ble_eq_true rfl, Nat.le_of_ble_eq_true rfl⟩) hK hP hD hS hA hN rfl hl.1 rfl (Nat.le_of_ble_eq_true rfl) rfl dX2_arm_1 ⟨Nat.zero_le _, Nat.zero_le _⟩ (fun H locs hP hD hS => ?_)
    refine lv_if_eq (tgt := 16) hx hb dX2_arm_4 (by decide) (fun c_6 => ?_) (fun c_6 => absurd (by decide) c_6)
    refine lv_aload_n hx hb dX2_arm_16 rfl (lv_at hl 0 rfl) ?_
    refine lv_iconst (v := 1) hx hb dX2_arm_17 (by decide) ?_
    refine lv_iconst (v := 0) hx hb dX2_arm_18 (by decide) ?_
    refine zw_cV (r := (0, 0, 0)) (As := [.int 1, .int 0]) (rest := []) (st1 := [.int 0]) ⟨hx, hb, hml, hown, hts⟩ (cd_end (σ := σ) hR 1 0) (cwV 2 hts gX2_arm_X2_end rfl rfl rfl (by decide +kernel) ⟨Nat.le_of_ble_eq_true rfl, Nat.le_of_ble_eq_true rfl⟩) (hR.1 0 (by decide)) rfl rfl rfl hK hP hD hS hA hN rfl hl.1 rfl (Nat.le_of_ble_eq_true rfl) rfl dX2_arm_19 ⟨Nat.zero_le _, Nat.zero_le _⟩ (fun H locs hP hD hS => ?_)
    exact zw_iret hx hb hr hlk hK hP hD hS dX2_arm_22 (by simp only [sp_arm, if_neg h_1] <;> rfl) (by simp only [sp_arm, if_neg h_1] <;> rfl)
set_option maxHeartbeats 4000000 in
set_option maxRecDepth 100000 in
theorem cd_source {l : Launch} {dC : Nat → ClassId} {dI : Nat → Nat → Nat} {cA : Nat → ClassId} {ad : zw_R → Nat} {R : List zw_R} {nr : Nat} {len : Nat → Nat} {σ : sp_S} {cM : zw_R → va_E} (hR : ze_R nr R) (p0 p1 : Int32) : zw_M l yX2_source wsX2_source { frames := 1, cells := 0, slots := 0, locals := 22 } (ze_E dC dI cA) [.ref (ad (0, 0, 0)), .int p0, .int p1] ad R (ze_X (ze_D cA ad nr len σ) cM) (some (.int ((sp_source nr len σ p0 p1).1))) (ze_X (ze_D cA ad nr len (sp_source nr len σ p0 p1).2) cM) := by
  refine zw_body (cc := cX2_source) (maxL := 4) (ret := (some .int)) (by decide) rfl (Nat.le_of_ble_eq_true rfl) ?_
  intro p e s m below meth c A ls hx hb hr hlk hml hts hown hnm hA hK hP hD hS hN hl
  have hl : lv_has ls 4 [(0, .ref (ad (0, 0, 0))), (1, .int p0), (2, .int p1)] := hl
  have hwX2 : ∀ w ∈ u_ws RX2 TX2 15, w ∈ wsX2_source := by decide +kernel
  refine lv_aload_n hx hb dX2_source_0 rfl (lv_at hl 0 rfl) ?_
  refine zw_getf (r := (0, 0, 0)) (v := .int (σ (0, 0, 0) 3)) (C := RX2) (T := TX2) (N := 15) (ci := 2) hx hb hts hwX2 hown hK hP (hR.1 0 (by decide)) rfl rfl 7 (by decide) (hts (.fieldLink RX2 35 "FourTrackDeck" "sourceNumber" "I") (by decide +kernel)) (fun _ h9 => h9) rfl dX2_source_1 ?_
  refine lv_istore_n (lv' := [(3, .int (σ (0, 0, 0) 3)), (0, .ref (ad (0, 0, 0))), (1, .int p0), (2, .int p1)]) hx hb dX2_source_4 rfl hl (by decide) rfl (fun ls hl => ?_)
  refine lv_aload_n hx hb dX2_source_5 rfl (lv_at hl 1 rfl) ?_
  refine lv_iload_n hx hb dX2_source_6 rfl (lv_at hl 2 rfl) ?_
  refine zw_putf (r := (0, 0, 0)) (v := .int p0) (C := RX2) (T := TX2) (N := 15) (ci := 2) hx hb hts hwX2 tyX2 tyX2_ok nmX2 hown hK hP hD hS (hR.1 0 (by decide)) rfl rfl 7 (by decide) (hts (.fieldLink RX2 35 "FourTrackDeck" "sourceNumber" "I") (by decide +kernel)) (fun _ h9 => h9) rfl (ty := .int) (by decide +kernel) rfl rfl (Nat.le_of_ble_eq_true rfl) dX2_source_7 (cu1 := ze_X (ze_D cA ad nr len (sp_s σ (0, 0, 0) 3 p0)) cM) (ze_up rfl rfl) (fun H locs hP hD hS => ?_)
  refine lv_aload_n hx hb dX2_source_10 rfl (lv_at hl 1 rfl) ?_
  refine lv_iload_n hx hb dX2_source_11 rfl (lv_at hl 3 rfl) ?_
  refine zw_putf (r := (0, 0, 0)) (v := .int p1) (C := RX2) (T := TX2) (N := 15) (ci := 2) hx hb hts hwX2 tyX2 tyX2_ok nmX2 hown hK hP hD hS (hR.1 0 (by decide)) rfl rfl 8 (by decide) (hts (.fieldLink RX2 38 "FourTrackDeck" "sourceStep" "I") (by decide +kernel)) (fun _ h9 => h9) rfl (ty := .int) (by decide +kernel) rfl rfl (Nat.le_of_ble_eq_true rfl) dX2_source_12 (cu1 := ze_X (ze_D cA ad nr len (sp_s (sp_s σ (0, 0, 0) 3 p0) (0, 0, 0) 4 p1)) cM) (ze_up rfl rfl) (fun H locs hP hD hS => ?_)
  refine lv_aload_n hx hb dX2_source_15 rfl (lv_at hl 1 rfl) ?_
  refine lv_iconst (v := 0) hx hb dX2_source_16 (by decide) ?_
  refine lv_iload_n hx hb dX2_source_17 rfl (lv_at hl 0 rfl) ?_
  refine zw_cV (r := (0, 0, 0)) (As := [.int 0, .int (σ (0, 0, 0) 3)]) (rest := []) (st1 := [.int (σ (0, 0, 0) 3)]) ⟨hx, hb, hml, hown, hts⟩ (cd_end (σ := (sp_s (sp_s σ (0, 0, 0) 3 p0) (0, 0, 0) 4 p1)) hR 0 (σ (0, 0, 0) 3)) (cwV 2 hts gX2_source_X2_end rfl rfl rfl (by decide +kernel) ⟨Nat.le_of_ble_eq_true rfl, Nat.le_of_ble_eq_true rfl⟩) (hR.1 0 (by decide)) rfl rfl rfl hK hP hD hS hA hN rfl hl.1 rfl (Nat.le_of_ble_eq_true rfl) rfl dX2_source_18 ⟨Nat.zero_le _, Nat.zero_le _⟩ (fun H locs hP hD hS => ?_)
  exact zw_iret hx hb hr hlk hK hP hD hS dX2_source_21 rfl rfl
set_option maxHeartbeats 4000000 in
set_option maxRecDepth 100000 in
theorem cd_wind {l : Launch} {dC : Nat → ClassId} {dI : Nat → Nat → Nat} {cA : Nat → ClassId} {ad : zw_R → Nat} {R : List zw_R} {nr : Nat} {len : Nat → Nat} {σ : sp_S} {cM : zw_R → va_E} (hR : ze_R nr R) (p0 : Int32) : zw_M l yX2_wind wsX2_wind { frames := 1, cells := 0, slots := 0, locals := 22 } (ze_E dC dI cA) [.ref (ad (0, 0, 0)), .int p0] ad R (ze_X (ze_D cA ad nr len σ) cM) (some (.int ((sp_wind nr len σ p0).1))) (ze_X (ze_D cA ad nr len (sp_wind nr len σ p0).2) cM) := by
  refine zw_body (cc := cX2_wind) (maxL := 2) (ret := (some .int)) (by decide) rfl (Nat.le_of_ble_eq_true rfl) ?_
  intro p e s m below meth c A ls hx hb hr hlk hml hts hown hnm hA hK hP hD hS hN hl
  have hl : lv_has ls 2 [(0, .ref (ad (0, 0, 0))), (1, .int p0)] := hl
  have hwX2 : ∀ w ∈ u_ws RX2 TX2 15, w ∈ wsX2_wind := by decide +kernel
  refine lv_iload_n hx hb dX2_wind_0 rfl (lv_at hl 1 rfl) ?_
  refine lv_sipush (v := (-1000)) hx hb dX2_wind_1 (by decide) ?_
  refine lv_sipush (v := 1000) hx hb dX2_wind_4 (by decide) ?_
  rcases Decidable.em (sp_w p0 (-1000) 1000) with h_1 | h_1
  · refine zw_cS (As := [.int p0, .int (-1000), .int 1000]) (rest := []) (st1 := [.int 1]) ⟨hx, hb, hml, hown, hts⟩ (cd_isWithin_1 p0 (-1000) 1000 h_1) (va_cwS 3 hts gX2_wind_X2_isWithin rfl rfl rfl (by decide +kernel) ⟨Nat.le_of_ble_eq_true rfl, Nat.le_of_ble_eq_true rfl⟩) hK hP hD hS hA hN rfl hl.1 rfl (Nat.le_of_ble_eq_true rfl) rfl dX2_wind_7 ⟨Nat.zero_le _, Nat.zero_le _⟩ (fun H locs hP hD hS => ?_)
    refine lv_if_ne (tgt := 23) hx hb dX2_wind_10 (by decide) (fun c_2 => ?_) (fun c_2 => absurd c_2 (by decide))
    refine lv_aload_n hx hb dX2_wind_23 rfl (lv_at hl 0 rfl) ?_
    refine lv_dup hx hb dX2_wind_24 rfl ?_
    refine zw_getf (r := (0, 0, 0)) (v := .int (σ (0, 0, 0) 2)) (C := RX2) (T := TX2) (N := 15) (ci := 2) hx hb hts hwX2 hown hK hP (hR.1 0 (by decide)) rfl rfl 3 (by decide) (hts (.fieldLink RX2 22 "FourTrackDeck" "tapeAt" "I") (by decide +kernel)) (fun _ h9 => h9) rfl dX2_wind_25 ?_
    refine lv_iload_n hx hb dX2_wind_28 rfl (lv_at hl 1 rfl) ?_
    refine lv_iadd hx hb dX2_wind_29 ?_
    refine zw_putf (r := (0, 0, 0)) (v := .int ((σ (0, 0, 0) 2) + p0)) (C := RX2) (T := TX2) (N := 15) (ci := 2) hx hb hts hwX2 tyX2 tyX2_ok nmX2 hown hK hP hD hS (hR.1 0 (by decide)) rfl rfl 3 (by decide) (hts (.fieldLink RX2 22 "FourTrackDeck" "tapeAt" "I") (by decide +kernel)) (fun _ h9 => h9) rfl (ty := .int) (by decide +kernel) rfl rfl (Nat.le_of_ble_eq_true rfl) dX2_wind_30 (cu1 := ze_X (ze_D cA ad nr len (sp_s σ (0, 0, 0) 2 ((σ (0, 0, 0) 2) + p0))) cM) (ze_up rfl rfl) (fun H locs hP hD hS => ?_)
    refine lv_aload_n hx hb dX2_wind_33 rfl (lv_at hl 0 rfl) ?_
    refine lv_iconst (v := 0) hx hb dX2_wind_34 (by decide) ?_
    refine lv_aload_n hx hb dX2_wind_35 rfl (lv_at hl 0 rfl) ?_
    refine zw_getf (r := (0, 0, 0)) (v := .int ((sp_s σ (0, 0, 0) 2 ((σ (0, 0, 0) 2) + p0)) (0, 0, 0) 2)) (C := RX2) (T := TX2) (N := 15) (ci := 2) hx hb hts hwX2 hown hK hP (hR.1 0 (by decide)) rfl rfl 3 (by decide) (hts (.fieldLink RX2 22 "FourTrackDeck" "tapeAt" "I") (by decide +kernel)) (fun _ h9 => h9) rfl dX2_wind_36 ?_
    refine zw_cV (r := (0, 0, 0)) (As := [.int 0, .int ((sp_s σ (0, 0, 0) 2 ((σ (0, 0, 0) 2) + p0)) (0, 0, 0) 2)]) (rest := []) (st1 := [.int ((sp_s σ (0, 0, 0) 2 ((σ (0, 0, 0) 2) + p0)) (0, 0, 0) 2)]) ⟨hx, hb, hml, hown, hts⟩ (cd_end (σ := (sp_s σ (0, 0, 0) 2 ((σ (0, 0, 0) 2) + p0))) hR 0 ((sp_s σ (0, 0, 0) 2 ((σ (0, 0, 0) 2) + p0)) (0, 0, 0) 2)) (cwV 2 hts gX2_wind_X2_end rfl rfl rfl (by decide +kernel) ⟨Nat.le_of_ble_eq_true rfl, Nat.le_of_ble_eq_true rfl⟩) (hR.1 0 (by decide)) rfl rfl rfl hK hP hD hS hA hN rfl hl.1 rfl (Nat.le_of_ble_eq_true rfl) rfl dX2_wind_39 ⟨Nat.zero_le _, Nat.zero_le _⟩ (fun H locs hP hD hS => ?_)
    exact zw_iret hx hb hr hlk hK hP hD hS dX2_wind_42 (by simp only [sp_wind, if_pos h_1] <;> rfl) (by simp only [sp_wind, if_pos h_1] <;> rfl)
  · refine zw_cS (As := [.int p0, .int (-1000), .int 1000]) (rest := []) (st1 := [.int 0]) ⟨hx, hb, hml, hown, hts⟩ (cd_isWithin_0 p0 (-1000) 1000 h_1) (va_cwS 3 hts gX2_wind_X2_isWithin rfl rfl rfl (by decide +kernel) ⟨Nat.le_of_ble_eq_true rfl, Nat.le_of_ble_eq_true rfl⟩) hK hP hD hS hA hN rfl hl.1 rfl (Nat.le_of_ble_eq_true rfl) rfl dX2_wind_7 ⟨Nat.zero_le _, Nat.zero_le _⟩ (fun H locs hP hD hS => ?_)
    refine lv_if_ne (tgt := 23) hx hb dX2_wind_10 (by decide) (fun c_3 => absurd (by decide) c_3) (fun c_3 => ?_)
    refine lv_aload_n hx hb dX2_wind_13 rfl (lv_at hl 0 rfl) ?_
    refine lv_iconst (v := 1) hx hb dX2_wind_14 (by decide) ?_
    refine lv_aload_n hx hb dX2_wind_15 rfl (lv_at hl 0 rfl) ?_
    refine zw_getf (r := (0, 0, 0)) (v := .int (σ (0, 0, 0) 2)) (C := RX2) (T := TX2) (N := 15) (ci := 2) hx hb hts hwX2 hown hK hP (hR.1 0 (by decide)) rfl rfl 3 (by decide) (hts (.fieldLink RX2 22 "FourTrackDeck" "tapeAt" "I") (by decide +kernel)) (fun _ h9 => h9) rfl dX2_wind_16 ?_
    refine zw_cV (r := (0, 0, 0)) (As := [.int 1, .int (σ (0, 0, 0) 2)]) (rest := []) (st1 := [.int (σ (0, 0, 0) 2)]) ⟨hx, hb, hml, hown, hts⟩ (cd_end (σ := σ) hR 1 (σ (0, 0, 0) 2)) (cwV 2 hts gX2_wind_X2_end rfl rfl rfl (by decide +kernel) ⟨Nat.le_of_ble_eq_true rfl, Nat.le_of_ble_eq_true rfl⟩) (hR.1 0 (by decide)) rfl rfl rfl hK hP hD hS hA hN rfl hl.1 rfl (Nat.le_of_ble_eq_true rfl) rfl dX2_wind_19 ⟨Nat.zero_le _, Nat.zero_le _⟩ (fun H locs hP hD hS => ?_)
    exact zw_iret hx hb hr hlk hK hP hD hS dX2_wind_22 (by simp only [sp_wind, if_neg h_1] <;> rfl) (by simp only [sp_wind, if_neg h_1] <;> rfl)
set_option maxHeartbeats 4000000 in
set_option maxRecDepth 100000 in
theorem cd_read {l : Launch} {dC : Nat → ClassId} {dI : Nat → Nat → Nat} {cA : Nat → ClassId} {ad : zw_R → Nat} {R : List zw_R} {nr : Nat} {len : Nat → Nat} {σ : sp_S} {cM : zw_R → va_E} (hR : ze_R nr R) (hnr : nr ≤ 8) (hlen : ∀ i, i < nr → len i ≤ 64) (p0 : Int32) : zw_M l yX2_read wsX2_read { frames := 3, cells := 0, slots := 0, locals := 65 } (ze_E dC dI cA) [.ref (ad (0, 0, 0)), .int p0] ad R (ze_X (ze_D cA ad nr len σ) cM) (some (.int ((sp_read nr len σ p0).1))) (ze_X (ze_D cA ad nr len (sp_read nr len σ p0).2) cM) := by
  refine zw_body (cc := cX2_read) (maxL := 4) (ret := (some .int)) (by decide) rfl (Nat.le_of_ble_eq_true rfl) ?_
  intro p e s m below meth c A ls hx hb hr hlk hml hts hown hnm hA hK hP hD hS hN hl
  have hl : lv_has ls 4 [(0, .ref (ad (0, 0, 0))), (1, .int p0)] := hl
  have hwX2 : ∀ w ∈ u_ws RX2 TX2 15, w ∈ wsX2_read := by decide +kernel
  refine lv_aload_n hx hb dX2_read_0 rfl (lv_at hl 0 rfl) ?_
  refine lv_aload_n hx hb dX2_read_1 rfl (lv_at hl 0 rfl) ?_
  refine zw_getf (r := (0, 0, 0)) (v := .int (σ (0, 0, 0) 1)) (C := RX2) (T := TX2) (N := 15) (ci := 2) hx hb hts hwX2 hown hK hP (hR.1 0 (by decide)) rfl rfl 2 (by decide) (hts (.fieldLink RX2 19 "FourTrackDeck" "onDeck" "I") (by decide +kernel)) (fun _ h9 => h9) rfl dX2_read_2 ?_
  refine lv_iload_n hx hb dX2_read_5 rfl (lv_at hl 1 rfl) ?_
  rcases Decidable.em (sp_v nr (σ (0, 0, 0) 1) p0) with h_1 | h_1
  · refine zw_cV (r := (0, 0, 0)) (As := [.int (σ (0, 0, 0) 1), .int p0]) (rest := []) (st1 := [.ref (ad (8, (σ (0, 0, 0) 1).toNatClampNeg, p0.toNatClampNeg))]) ⟨hx, hb, hml, hown, hts⟩ (cd_trackOf_1 (σ := σ) hR hnr (σ (0, 0, 0) 1) p0 h_1) (cwV 2 hts gX2_read_X2_trackOf rfl rfl rfl (by decide +kernel) ⟨Nat.le_of_ble_eq_true rfl, Nat.le_of_ble_eq_true rfl⟩) (hR.1 0 (by decide)) rfl rfl rfl hK hP hD hS hA hN rfl hl.1 rfl (Nat.le_of_ble_eq_true rfl) rfl dX2_read_6 ⟨Nat.zero_le _, Nat.zero_le _⟩ (fun H locs hP hD hS => ?_)
    refine lv_astore_n (lv' := [(2, .ref (ad (8, (σ (0, 0, 0) 1).toNatClampNeg, p0.toNatClampNeg))), (0, .ref (ad (0, 0, 0))), (1, .int p0)]) hx hb dX2_read_9 rfl hl (by decide) rfl (fun ls hl => ?_)
    refine lv_aload_n hx hb dX2_read_10 rfl (lv_at hl 0 rfl) ?_
    refine lv_ifnonnull (tgt := 25) hx hb dX2_read_11 (by decide) ?_
    refine lv_aload_n hx hb dX2_read_25 rfl (lv_at hl 1 rfl) ?_
    refine lv_iload_n hx hb dX2_read_26 rfl (lv_at hl 2 rfl) ?_
    refine zw_cV (r := (0, 0, 0)) (As := [.int p0]) (rest := []) (st1 := [.int (σ (0, 0, 0) 2 + σ (2, 0, 0) p0.toNatClampNeg)]) ⟨hx, hb, hml, hown, hts⟩ (cd_place (σ := σ) hR p0 h_1.2) (cwV 1 hts gX2_read_X2_placeOfHead rfl rfl rfl (by decide +kernel) ⟨Nat.le_of_ble_eq_true rfl, Nat.le_of_ble_eq_true rfl⟩) (hR.1 0 (by decide)) rfl rfl rfl hK hP hD hS hA hN rfl hl.1 rfl (Nat.le_of_ble_eq_true rfl) rfl dX2_read_27 ⟨Nat.zero_le _, Nat.zero_le _⟩ (fun H locs hP hD hS => ?_)
    refine lv_istore_n (lv' := [(3, .int (σ (0, 0, 0) 2 + σ (2, 0, 0) p0.toNatClampNeg)), (2, .ref (ad (8, (σ (0, 0, 0) 1).toNatClampNeg, p0.toNatClampNeg))), (0, .ref (ad (0, 0, 0))), (1, .int p0)]) hx hb dX2_read_30 rfl hl (by decide) rfl (fun ls hl => ?_)
    refine lv_aload_n hx hb dX2_read_31 rfl (lv_at hl 2 rfl) ?_
    refine lv_aload_n hx hb dX2_read_32 rfl (lv_at hl 1 rfl) ?_
    refine lv_iload_n hx hb dX2_read_33 rfl (lv_at hl 0 rfl) ?_
    refine zw_cVN (r := (8, (σ (0, 0, 0) 1).toNatClampNeg, p0.toNatClampNeg)) (As := [.int (σ (0, 0, 0) 2 + σ (2, 0, 0) p0.toNatClampNeg)]) (rest := [.ref (ad (0, 0, 0))]) (st1 := [.int (sp_f len σ (σ (0, 0, 0) 1).toNatClampNeg p0.toNatClampNeg (σ (0, 0, 0) 2 + σ (2, 0, 0) p0.toNatClampNeg)), .ref (ad (0, 0, 0))]) ⟨hx, hb, hml, hown, hts⟩ (cd_faultAt (σ := σ) hR (σ (0, 0, 0) 1).toNatClampNeg p0.toNatClampNeg (ze_vr h_1.1 hnr) (ze_vt h_1.2) (σ (0, 0, 0) 2 + σ (2, 0, 0) p0.toNatClampNeg)) ⟨va_cnB (host := "FourTrackDeck") 1 hts gX2_read_X1_faultAt_n98 rfl rfl rfl (hN.2.1 ("FourTrackDeck", 98, yX1_faultAt, "FourTrackDeck") (by decide +kernel)) (hts (.initialized RX1) (by decide +kernel)) (by decide +kernel) ⟨Nat.le_of_ble_eq_true rfl, Nat.le_of_ble_eq_true rfl⟩, hts (.instanceMethod yX1_faultAt) (by decide +kernel), hts (.selects RX1 yX1_faultAt yX1_faultAt) (by decide +kernel)⟩ ((hR.2 (σ (0, 0, 0) 1).toNatClampNeg (ze_vr h_1.1 hnr)).2.2 p0.toNatClampNeg (ze_vt h_1.2)).1 rfl rfl rfl hK hP hD hS hA hN rfl hl.1 rfl (Nat.le_of_ble_eq_true rfl) rfl dX2_read_34 ⟨Nat.zero_le _, Nat.zero_le _⟩ (fun H locs hP hD hS => ?_)
    refine lv_aload_n hx hb dX2_read_37 rfl (lv_at hl 1 rfl) ?_
    refine lv_iload_n hx hb dX2_read_38 rfl (lv_at hl 0 rfl) ?_
    refine zw_cVN (r := (8, (σ (0, 0, 0) 1).toNatClampNeg, p0.toNatClampNeg)) (As := [.int (σ (0, 0, 0) 2 + σ (2, 0, 0) p0.toNatClampNeg)]) (rest := [.int (sp_f len σ (σ (0, 0, 0) 1).toNatClampNeg p0.toNatClampNeg (σ (0, 0, 0) 2 + σ (2, 0, 0) p0.toNatClampNeg)), .ref (ad (0, 0, 0))]) (st1 := [.int (sp_n len σ (σ (0, 0, 0) 1).toNatClampNeg p0.toNatClampNeg (σ (0, 0, 0) 2 + σ (2, 0, 0) p0.toNatClampNeg)), .int (sp_f len σ (σ (0, 0, 0) 1).toNatClampNeg p0.toNatClampNeg (σ (0, 0, 0) 2 + σ (2, 0, 0) p0.toNatClampNeg)), .ref (ad (0, 0, 0))]) ⟨hx, hb, hml, hown, hts⟩ (cd_numberAt (σ := σ) hR (σ (0, 0, 0) 1).toNatClampNeg p0.toNatClampNeg (ze_vr h_1.1 hnr) (ze_vt h_1.2) (hlen _ (ze_vr h_1.1 hnr)) (σ (0, 0, 0) 2 + σ (2, 0, 0) p0.toNatClampNeg)) ⟨va_cnB (host := "FourTrackDeck") 1 hts gX2_read_X1_numberAt_n101 rfl rfl rfl (hN.2.1 ("FourTrackDeck", 101, yX1_numberAt, "FourTrackDeck") (by decide +kernel)) (hts (.initialized RX1) (by decide +kernel)) (by decide +kernel) ⟨Nat.le_of_ble_eq_true rfl, Nat.le_of_ble_eq_true rfl⟩, hts (.instanceMethod yX1_numberAt) (by decide +kernel), hts (.selects RX1 yX1_numberAt yX1_numberAt) (by decide +kernel)⟩ ((hR.2 (σ (0, 0, 0) 1).toNatClampNeg (ze_vr h_1.1 hnr)).2.2 p0.toNatClampNeg (ze_vt h_1.2)).1 rfl rfl rfl hK hP hD hS hA hN rfl hl.1 rfl (Nat.le_of_ble_eq_true rfl) rfl dX2_read_39 ⟨Nat.zero_le _, Nat.zero_le _⟩ (fun H locs hP hD hS => ?_)
    refine zw_cV (r := (0, 0, 0)) (As := [.int (sp_f len σ (σ (0, 0, 0) 1).toNatClampNeg p0.toNatClampNeg (σ (0, 0, 0) 2 + σ (2, 0, 0) p0.toNatClampNeg)), .int (sp_n len σ (σ (0, 0, 0) 1).toNatClampNeg p0.toNatClampNeg (σ (0, 0, 0) 2 + σ (2, 0, 0) p0.toNatClampNeg))]) (rest := []) (st1 := [.int (sp_n len σ (σ (0, 0, 0) 1).toNatClampNeg p0.toNatClampNeg (σ (0, 0, 0) 2 + σ (2, 0, 0) p0.toNatClampNeg))]) ⟨hx, hb, hml, hown, hts⟩ (cd_end (σ := σ) hR (sp_f len σ (σ (0, 0, 0) 1).toNatClampNeg p0.toNatClampNeg (σ (0, 0, 0) 2 + σ (2, 0, 0) p0.toNatClampNeg)) (sp_n len σ (σ (0, 0, 0) 1).toNatClampNeg p0.toNatClampNeg (σ (0, 0, 0) 2 + σ (2, 0, 0) p0.toNatClampNeg))) (cwV 2 hts gX2_read_X2_end rfl rfl rfl (by decide +kernel) ⟨Nat.le_of_ble_eq_true rfl, Nat.le_of_ble_eq_true rfl⟩) (hR.1 0 (by decide)) rfl rfl rfl hK hP hD hS hA hN rfl hl.1 rfl (Nat.le_of_ble_eq_true rfl) rfl dX2_read_42 ⟨Nat.zero_le _, Nat.zero_le _⟩ (fun H locs hP hD hS => ?_)
    exact zw_iret hx hb hr hlk hK hP hD hS dX2_read_45 (by simp only [sp_read, if_pos h_1] <;> rfl) (by simp only [sp_read, if_pos h_1] <;> rfl)
  · refine zw_cV (r := (0, 0, 0)) (As := [.int (σ (0, 0, 0) 1), .int p0]) (rest := []) (st1 := [.null]) ⟨hx, hb, hml, hown, hts⟩ (cd_trackOf_0 (σ := σ) hR hnr (σ (0, 0, 0) 1) p0 h_1) (cwV 2 hts gX2_read_X2_trackOf rfl rfl rfl (by decide +kernel) ⟨Nat.le_of_ble_eq_true rfl, Nat.le_of_ble_eq_true rfl⟩) (hR.1 0 (by decide)) rfl rfl rfl hK hP hD hS hA hN rfl hl.1 rfl (Nat.le_of_ble_eq_true rfl) rfl dX2_read_6 ⟨Nat.zero_le _, Nat.zero_le _⟩ (fun H locs hP hD hS => ?_)
    refine lv_astore_nN (lv' := [(2, .null), (0, .ref (ad (0, 0, 0))), (1, .int p0)]) hx hb dX2_read_9 rfl hl (by decide) rfl (fun ls hl => ?_)
    refine lv_aload_nN hx hb dX2_read_10 rfl (lv_at hl 0 rfl) ?_
    refine lv_ifnonnullN hx hb dX2_read_11 ?_
    refine lv_aload_n hx hb dX2_read_14 rfl (lv_at hl 1 rfl) ?_
    refine lv_aload_n hx hb dX2_read_15 rfl (lv_at hl 1 rfl) ?_
    refine lv_iload_n hx hb dX2_read_16 rfl (lv_at hl 2 rfl) ?_
    refine zw_cV (r := (0, 0, 0)) (As := [.int p0]) (rest := [.ref (ad (0, 0, 0))]) (st1 := [.int (if sp_t p0 then 5 else 1), .ref (ad (0, 0, 0))]) ⟨hx, hb, hml, hown, hts⟩ (cd_why (σ := σ) hR p0) (cwV 1 hts gX2_read_X2_whyNoneUnderHead rfl rfl rfl (by decide +kernel) ⟨Nat.le_of_ble_eq_true rfl, Nat.le_of_ble_eq_true rfl⟩) (hR.1 0 (by decide)) rfl rfl rfl hK hP hD hS hA hN rfl hl.1 rfl (Nat.le_of_ble_eq_true rfl) rfl dX2_read_17 ⟨Nat.zero_le _, Nat.zero_le _⟩ (fun H locs hP hD hS => ?_)
    refine lv_iconst (v := 0) hx hb dX2_read_20 (by decide) ?_
    refine zw_cV (r := (0, 0, 0)) (As := [.int (if sp_t p0 then 5 else 1), .int 0]) (rest := []) (st1 := [.int 0]) ⟨hx, hb, hml, hown, hts⟩ (cd_end (σ := σ) hR (if sp_t p0 then 5 else 1) 0) (cwV 2 hts gX2_read_X2_end rfl rfl rfl (by decide +kernel) ⟨Nat.le_of_ble_eq_true rfl, Nat.le_of_ble_eq_true rfl⟩) (hR.1 0 (by decide)) rfl rfl rfl hK hP hD hS hA hN rfl hl.1 rfl (Nat.le_of_ble_eq_true rfl) rfl dX2_read_21 ⟨Nat.zero_le _, Nat.zero_le _⟩ (fun H locs hP hD hS => ?_)
    exact zw_iret hx hb hr hlk hK hP hD hS dX2_read_24 (by simp only [sp_read, if_neg h_1] <;> rfl) (by simp only [sp_read, if_neg h_1] <;> rfl)
set_option maxHeartbeats 4000000 in
set_option maxRecDepth 100000 in
theorem cd_write {l : Launch} {dC : Nat → ClassId} {dI : Nat → Nat → Nat} {cA : Nat → ClassId} {ad : zw_R → Nat} {R : List zw_R} {nr : Nat} {len : Nat → Nat} {σ : sp_S} {cM : zw_R → va_E} (hR : ze_R nr R) (hnr : nr ≤ 8) (hlen : ∀ i, i < nr → len i ≤ 64) (p0 p1 : Int32) : zw_M l yX2_write wsX2_write { frames := 3, cells := 0, slots := 0, locals := 65 } (ze_E dC dI cA) [.ref (ad (0, 0, 0)), .int p0, .int p1] ad R (ze_X (ze_D cA ad nr len σ) cM) (some (.int ((sp_write nr len σ p0 p1).1))) (ze_X (ze_D cA ad nr len (sp_write nr len σ p0 p1).2) cM) := by
  refine zw_body (cc := cX2_write) (maxL := 5) (ret := (some .int)) (by decide) rfl (Nat.le_of_ble_eq_true rfl) ?_
  intro p e s m below meth c A ls hx hb hr hlk hml hts hown hnm hA hK hP hD hS hN hl
  have hl : lv_has ls 5 [(0, .ref (ad (0, 0, 0))), (1, .int p0), (2, .int p1)] := hl
  have hwX2 : ∀ w ∈ u_ws RX2 TX2 15, w ∈ wsX2_write := by decide +kernel
  refine lv_aload_n hx hb dX2_write_0 rfl (lv_at hl 0 rfl) ?_
  refine lv_aload_n hx hb dX2_write_1 rfl (lv_at hl 0 rfl) ?_
  refine zw_getf (r := (0, 0, 0)) (v := .int (σ (0, 0, 0) 1)) (C := RX2) (T := TX2) (N := 15) (ci := 2) hx hb hts hwX2 hown hK hP (hR.1 0 (by decide)) rfl rfl 2 (by decide) (hts (.fieldLink RX2 19 "FourTrackDeck" "onDeck" "I") (by decide +kernel)) (fun _ h9 => h9) rfl dX2_write_2 ?_
  refine lv_iload_n hx hb dX2_write_5 rfl (lv_at hl 1 rfl) ?_
  rcases Decidable.em (sp_v nr (σ (0, 0, 0) 1) p0) with h_1 | h_1
  · refine zw_cV (r := (0, 0, 0)) (As := [.int (σ (0, 0, 0) 1), .int p0]) (rest := []) (st1 := [.ref (ad (8, (σ (0, 0, 0) 1).toNatClampNeg, p0.toNatClampNeg))]) ⟨hx, hb, hml, hown, hts⟩ (cd_trackOf_1 (σ := σ) hR hnr (σ (0, 0, 0) 1) p0 h_1) (cwV 2 hts gX2_write_X2_trackOf rfl rfl rfl (by decide +kernel) ⟨Nat.le_of_ble_eq_true rfl, Nat.le_of_ble_eq_true rfl⟩) (hR.1 0 (by decide)) rfl rfl rfl hK hP hD hS hA hN rfl hl.1 rfl (Nat.le_of_ble_eq_true rfl) rfl dX2_write_6 ⟨Nat.zero_le _, Nat.zero_le _⟩ (fun H locs hP hD hS => ?_)
    refine lv_astore_n (lv' := [(3, .ref (ad (8, (σ (0, 0, 0) 1).toNatClampNeg, p0.toNatClampNeg))), (0, .ref (ad (0, 0, 0))), (1, .int p0), (2, .int p1)]) hx hb dX2_write_9 rfl hl (by decide) rfl (fun ls hl => ?_)
    refine lv_aload_n hx hb dX2_write_10 rfl (lv_at hl 0 rfl) ?_
    refine lv_ifnonnull (tgt := 25) hx hb dX2_write_11 (by decide) ?_
    refine lv_aload_n hx hb dX2_write_25 rfl (lv_at hl 1 rfl) ?_
    refine lv_iload_n hx hb dX2_write_26 rfl (lv_at hl 2 rfl) ?_
    refine zw_cV (r := (0, 0, 0)) (As := [.int p0]) (rest := []) (st1 := [.int (σ (0, 0, 0) 2 + σ (2, 0, 0) p0.toNatClampNeg)]) ⟨hx, hb, hml, hown, hts⟩ (cd_place (σ := σ) hR p0 h_1.2) (cwV 1 hts gX2_write_X2_placeOfHead rfl rfl rfl (by decide +kernel) ⟨Nat.le_of_ble_eq_true rfl, Nat.le_of_ble_eq_true rfl⟩) (hR.1 0 (by decide)) rfl rfl rfl hK hP hD hS hA hN rfl hl.1 rfl (Nat.le_of_ble_eq_true rfl) rfl dX2_write_27 ⟨Nat.zero_le _, Nat.zero_le _⟩ (fun H locs hP hD hS => ?_)
    refine lv_istore (lv' := [(4, .int (σ (0, 0, 0) 2 + σ (2, 0, 0) p0.toNatClampNeg)), (3, .ref (ad (8, (σ (0, 0, 0) 1).toNatClampNeg, p0.toNatClampNeg))), (0, .ref (ad (0, 0, 0))), (1, .int p0), (2, .int p1)]) hx hb dX2_write_30 hl (by decide) rfl (fun ls hl => ?_)
    refine lv_aload_n hx hb dX2_write_32 rfl (lv_at hl 1 rfl) ?_
    refine lv_iload hx hb dX2_write_33 (lv_at hl 0 rfl) ?_
    refine lv_iload_n hx hb dX2_write_35 rfl (lv_at hl 4 rfl) ?_
    refine zw_cVN (r := (8, (σ (0, 0, 0) 1).toNatClampNeg, p0.toNatClampNeg)) (As := [.int (σ (0, 0, 0) 2 + σ (2, 0, 0) p0.toNatClampNeg), .int p1]) (rest := []) (st1 := []) ⟨hx, hb, hml, hown, hts⟩ (cd_put (σ := σ) hR (σ (0, 0, 0) 1).toNatClampNeg p0.toNatClampNeg (ze_vr h_1.1 hnr) (ze_vt h_1.2) (hlen _ (ze_vr h_1.1 hnr)) (σ (0, 0, 0) 2 + σ (2, 0, 0) p0.toNatClampNeg) p1) ⟨va_cnB (host := "FourTrackDeck") 2 hts gX2_write_X1_put_n104 rfl rfl rfl (hN.2.1 ("FourTrackDeck", 104, yX1_put, "FourTrackDeck") (by decide +kernel)) (hts (.initialized RX1) (by decide +kernel)) (by decide +kernel) ⟨Nat.le_of_ble_eq_true rfl, Nat.le_of_ble_eq_true rfl⟩, hts (.instanceMethod yX1_put) (by decide +kernel), hts (.selects RX1 yX1_put yX1_put) (by decide +kernel)⟩ ((hR.2 (σ (0, 0, 0) 1).toNatClampNeg (ze_vr h_1.1 hnr)).2.2 p0.toNatClampNeg (ze_vt h_1.2)).1 rfl rfl rfl hK hP hD hS hA hN rfl hl.1 rfl (Nat.le_of_ble_eq_true rfl) rfl dX2_write_36 ⟨Nat.zero_le _, Nat.zero_le _⟩ (fun H locs hP hD hS => ?_)
    refine lv_aload_n hx hb dX2_write_39 rfl (lv_at hl 2 rfl) ?_
    refine lv_aload_n hx hb dX2_write_40 rfl (lv_at hl 1 rfl) ?_
    refine lv_iload hx hb dX2_write_41 (lv_at hl 0 rfl) ?_
    refine zw_cVN (r := (8, (σ (0, 0, 0) 1).toNatClampNeg, p0.toNatClampNeg)) (As := [.int (σ (0, 0, 0) 2 + σ (2, 0, 0) p0.toNatClampNeg)]) (rest := [.ref (ad (0, 0, 0))]) (st1 := [.int (sp_f len (sp_put len σ (σ (0, 0, 0) 1).toNatClampNeg p0.toNatClampNeg (σ (0, 0, 0) 2 + σ (2, 0, 0) p0.toNatClampNeg) p1) (σ (0, 0, 0) 1).toNatClampNeg p0.toNatClampNeg (σ (0, 0, 0) 2 + σ (2, 0, 0) p0.toNatClampNeg)), .ref (ad (0, 0, 0))]) ⟨hx, hb, hml, hown, hts⟩ (cd_faultAt (σ := (sp_put len σ (σ (0, 0, 0) 1).toNatClampNeg p0.toNatClampNeg (σ (0, 0, 0) 2 + σ (2, 0, 0) p0.toNatClampNeg) p1)) hR (σ (0, 0, 0) 1).toNatClampNeg p0.toNatClampNeg (ze_vr h_1.1 hnr) (ze_vt h_1.2) (σ (0, 0, 0) 2 + σ (2, 0, 0) p0.toNatClampNeg)) ⟨va_cnB (host := "FourTrackDeck") 1 hts gX2_write_X1_faultAt_n98 rfl rfl rfl (hN.2.1 ("FourTrackDeck", 98, yX1_faultAt, "FourTrackDeck") (by decide +kernel)) (hts (.initialized RX1) (by decide +kernel)) (by decide +kernel) ⟨Nat.le_of_ble_eq_true rfl, Nat.le_of_ble_eq_true rfl⟩, hts (.instanceMethod yX1_faultAt) (by decide +kernel), hts (.selects RX1 yX1_faultAt yX1_faultAt) (by decide +kernel)⟩ ((hR.2 (σ (0, 0, 0) 1).toNatClampNeg (ze_vr h_1.1 hnr)).2.2 p0.toNatClampNeg (ze_vt h_1.2)).1 rfl rfl rfl hK hP hD hS hA hN rfl hl.1 rfl (Nat.le_of_ble_eq_true rfl) rfl dX2_write_43 ⟨Nat.zero_le _, Nat.zero_le _⟩ (fun H locs hP hD hS => ?_)
    refine lv_aload_n hx hb dX2_write_46 rfl (lv_at hl 1 rfl) ?_
    refine lv_iload hx hb dX2_write_47 (lv_at hl 0 rfl) ?_
    refine zw_cVN (r := (8, (σ (0, 0, 0) 1).toNatClampNeg, p0.toNatClampNeg)) (As := [.int (σ (0, 0, 0) 2 + σ (2, 0, 0) p0.toNatClampNeg)]) (rest := [.int (sp_f len (sp_put len σ (σ (0, 0, 0) 1).toNatClampNeg p0.toNatClampNeg (σ (0, 0, 0) 2 + σ (2, 0, 0) p0.toNatClampNeg) p1) (σ (0, 0, 0) 1).toNatClampNeg p0.toNatClampNeg (σ (0, 0, 0) 2 + σ (2, 0, 0) p0.toNatClampNeg)), .ref (ad (0, 0, 0))]) (st1 := [.int (sp_n len (sp_put len σ (σ (0, 0, 0) 1).toNatClampNeg p0.toNatClampNeg (σ (0, 0, 0) 2 + σ (2, 0, 0) p0.toNatClampNeg) p1) (σ (0, 0, 0) 1).toNatClampNeg p0.toNatClampNeg (σ (0, 0, 0) 2 + σ (2, 0, 0) p0.toNatClampNeg)), .int (sp_f len (sp_put len σ (σ (0, 0, 0) 1).toNatClampNeg p0.toNatClampNeg (σ (0, 0, 0) 2 + σ (2, 0, 0) p0.toNatClampNeg) p1) (σ (0, 0, 0) 1).toNatClampNeg p0.toNatClampNeg (σ (0, 0, 0) 2 + σ (2, 0, 0) p0.toNatClampNeg)), .ref (ad (0, 0, 0))]) ⟨hx, hb, hml, hown, hts⟩ (cd_numberAt (σ := (sp_put len σ (σ (0, 0, 0) 1).toNatClampNeg p0.toNatClampNeg (σ (0, 0, 0) 2 + σ (2, 0, 0) p0.toNatClampNeg) p1)) hR (σ (0, 0, 0) 1).toNatClampNeg p0.toNatClampNeg (ze_vr h_1.1 hnr) (ze_vt h_1.2) (hlen _ (ze_vr h_1.1 hnr)) (σ (0, 0, 0) 2 + σ (2, 0, 0) p0.toNatClampNeg)) ⟨va_cnB (host := "FourTrackDeck") 1 hts gX2_write_X1_numberAt_n101 rfl rfl rfl (hN.2.1 ("FourTrackDeck", 101, yX1_numberAt, "FourTrackDeck") (by decide +kernel)) (hts (.initialized RX1) (by decide +kernel)) (by decide +kernel) ⟨Nat.le_of_ble_eq_true rfl, Nat.le_of_ble_eq_true rfl⟩, hts (.instanceMethod yX1_numberAt) (by decide +kernel), hts (.selects RX1 yX1_numberAt yX1_numberAt) (by decide +kernel)⟩ ((hR.2 (σ (0, 0, 0) 1).toNatClampNeg (ze_vr h_1.1 hnr)).2.2 p0.toNatClampNeg (ze_vt h_1.2)).1 rfl rfl rfl hK hP hD hS hA hN rfl hl.1 rfl (Nat.le_of_ble_eq_true rfl) rfl dX2_write_49 ⟨Nat.zero_le _, Nat.zero_le _⟩ (fun H locs hP hD hS => ?_)
    refine zw_cV (r := (0, 0, 0)) (As := [.int (sp_f len (sp_put len σ (σ (0, 0, 0) 1).toNatClampNeg p0.toNatClampNeg (σ (0, 0, 0) 2 + σ (2, 0, 0) p0.toNatClampNeg) p1) (σ (0, 0, 0) 1).toNatClampNeg p0.toNatClampNeg (σ (0, 0, 0) 2 + σ (2, 0, 0) p0.toNatClampNeg)), .int (sp_n len (sp_put len σ (σ (0, 0, 0) 1).toNatClampNeg p0.toNatClampNeg (σ (0, 0, 0) 2 + σ (2, 0, 0) p0.toNatClampNeg) p1) (σ (0, 0, 0) 1).toNatClampNeg p0.toNatClampNeg (σ (0, 0, 0) 2 + σ (2, 0, 0) p0.toNatClampNeg))]) (rest := []) (st1 := [.int (sp_n len (sp_put len σ (σ (0, 0, 0) 1).toNatClampNeg p0.toNatClampNeg (σ (0, 0, 0) 2 + σ (2, 0, 0) p0.toNatClampNeg) p1) (σ (0, 0, 0) 1).toNatClampNeg p0.toNatClampNeg (σ (0, 0, 0) 2 + σ (2, 0, 0) p0.toNatClampNeg))]) ⟨hx, hb, hml, hown, hts⟩ (cd_end (σ := (sp_put len σ (σ (0, 0, 0) 1).toNatClampNeg p0.toNatClampNeg (σ (0, 0, 0) 2 + σ (2, 0, 0) p0.toNatClampNeg) p1)) hR (sp_f len (sp_put len σ (σ (0, 0, 0) 1).toNatClampNeg p0.toNatClampNeg (σ (0, 0, 0) 2 + σ (2, 0, 0) p0.toNatClampNeg) p1) (σ (0, 0, 0) 1).toNatClampNeg p0.toNatClampNeg (σ (0, 0, 0) 2 + σ (2, 0, 0) p0.toNatClampNeg)) (sp_n len (sp_put len σ (σ (0, 0, 0) 1).toNatClampNeg p0.toNatClampNeg (σ (0, 0, 0) 2 + σ (2, 0, 0) p0.toNatClampNeg) p1) (σ (0, 0, 0) 1).toNatClampNeg p0.toNatClampNeg (σ (0, 0, 0) 2 + σ (2, 0, 0) p0.toNatClampNeg))) (cwV 2 hts gX2_write_X2_end rfl rfl rfl (by decide +kernel) ⟨Nat.le_of_ble_eq_true rfl, Nat.le_of_ble_eq_true rfl⟩) (hR.1 0 (by decide)) rfl rfl rfl hK hP hD hS hA hN rfl hl.1 rfl (Nat.le_of_ble_eq_true rfl) rfl dX2_write_52 ⟨Nat.zero_le _, Nat.zero_le _⟩ (fun H locs hP hD hS => ?_)
    exact zw_iret hx hb hr hlk hK hP hD hS dX2_write_55 (by simp only [sp_write, if_pos h_1] <;> rfl) (by simp only [sp_write, if_pos h_1] <;> rfl)
  · refine zw_cV (r := (0, 0, 0)) (As := [.int (σ (0, 0, 0) 1), .int p0]) (rest := []) (st1 := [.null]) ⟨hx, hb, hml, hown, hts⟩ (cd_trackOf_0 (σ := σ) hR hnr (σ (0, 0, 0) 1) p0 h_1) (cwV 2 hts gX2_write_X2_trackOf rfl rfl rfl (by decide +kernel) ⟨Nat.le_of_ble_eq_true rfl, Nat.le_of_ble_eq_true rfl⟩) (hR.1 0 (by decide)) rfl rfl rfl hK hP hD hS hA hN rfl hl.1 rfl (Nat.le_of_ble_eq_true rfl) rfl dX2_write_6 ⟨Nat.zero_le _, Nat.zero_le _⟩ (fun H locs hP hD hS => ?_)
    refine lv_astore_nN (lv' := [(3, .null), (0, .ref (ad (0, 0, 0))), (1, .int p0), (2, .int p1)]) hx hb dX2_write_9 rfl hl (by decide) rfl (fun ls hl => ?_)
    refine lv_aload_nN hx hb dX2_write_10 rfl (lv_at hl 0 rfl) ?_
    refine lv_ifnonnullN hx hb dX2_write_11 ?_
    refine lv_aload_n hx hb dX2_write_14 rfl (lv_at hl 1 rfl) ?_
    refine lv_aload_n hx hb dX2_write_15 rfl (lv_at hl 1 rfl) ?_
    refine lv_iload_n hx hb dX2_write_16 rfl (lv_at hl 2 rfl) ?_
    refine zw_cV (r := (0, 0, 0)) (As := [.int p0]) (rest := [.ref (ad (0, 0, 0))]) (st1 := [.int (if sp_t p0 then 5 else 1), .ref (ad (0, 0, 0))]) ⟨hx, hb, hml, hown, hts⟩ (cd_why (σ := σ) hR p0) (cwV 1 hts gX2_write_X2_whyNoneUnderHead rfl rfl rfl (by decide +kernel) ⟨Nat.le_of_ble_eq_true rfl, Nat.le_of_ble_eq_true rfl⟩) (hR.1 0 (by decide)) rfl rfl rfl hK hP hD hS hA hN rfl hl.1 rfl (Nat.le_of_ble_eq_true rfl) rfl dX2_write_17 ⟨Nat.zero_le _, Nat.zero_le _⟩ (fun H locs hP hD hS => ?_)
    refine lv_iconst (v := 0) hx hb dX2_write_20 (by decide) ?_
    refine zw_cV (r := (0, 0, 0)) (As := [.int (if sp_t p0 then 5 else 1), .int 0]) (rest := []) (st1 := [.int 0]) ⟨hx, hb, hml, hown, hts⟩ (cd_end (σ := σ) hR (if sp_t p0 then 5 else 1) 0) (cwV 2 hts gX2_write_X2_end rfl rfl rfl (by decide +kernel) ⟨Nat.le_of_ble_eq_true rfl, Nat.le_of_ble_eq_true rfl⟩) (hR.1 0 (by decide)) rfl rfl rfl hK hP hD hS hA hN rfl hl.1 rfl (Nat.le_of_ble_eq_true rfl) rfl dX2_write_21 ⟨Nat.zero_le _, Nat.zero_le _⟩ (fun H locs hP hD hS => ?_)
    exact zw_iret hx hb hr hlk hK hP hD hS dX2_write_24 (by simp only [sp_write, if_neg h_1] <;> rfl) (by simp only [sp_write, if_neg h_1] <;> rfl)
set_option maxHeartbeats 4000000 in
set_option maxRecDepth 100000 in
theorem cd_cue {l : Launch} {dC : Nat → ClassId} {dI : Nat → Nat → Nat} {cA : Nat → ClassId} {ad : zw_R → Nat} {R : List zw_R} {nr : Nat} {len : Nat → Nat} {σ : sp_S} {cM : zw_R → va_E} (hR : ze_R nr R) (h5 : σ (0, 0, 0) 5 ≤ 16) (h6 : σ (0, 0, 0) 6 ≤ 16) (p0 p1 p2 : Int32) : zw_M l yX2_cue wsX2_cue { frames := 1, cells := 0, slots := 0, locals := 23 } (ze_E dC dI cA) [.ref (ad (0, 0, 0)), .int p0, .int p1, .int p2] ad R (ze_X (ze_D cA ad nr len σ) cM) (some (.int ((sp_cue nr len σ p0 p1 p2).1))) (ze_X (ze_D cA ad nr len (sp_cue nr len σ p0 p1 p2).2) cM) := by
  refine zw_body (cc := cX2_cue) (maxL := 7) (ret := (some .int)) (by decide) rfl (Nat.le_of_ble_eq_true rfl) ?_
  intro p e s m below meth c A ls hx hb hr hlk hml hts hown hnm hA hK hP hD hS hN hl
  have hl : lv_has ls 7 [(0, .ref (ad (0, 0, 0))), (1, .int p0), (2, .int p1), (3, .int p2)] := hl
  have hwX2 : ∀ w ∈ u_ws RX2 TX2 15, w ∈ wsX2_cue := by decide +kernel
  refine lv_aload_n hx hb dX2_cue_0 rfl (lv_at hl 0 rfl) ?_
  refine lv_iload_n hx hb dX2_cue_1 rfl (lv_at hl 1 rfl) ?_
  refine lv_iload_n hx hb dX2_cue_2 rfl (lv_at hl 2 rfl) ?_
  refine zw_cV (r := (0, 0, 0)) (As := [.int p0, .int p1]) (rest := []) (st1 := [.int (sp_c σ p0 p1)]) ⟨hx, hb, hml, hown, hts⟩ (cd_faultOfCell (σ := σ) hR p0 p1) (cwV 2 hts gX2_cue_X2_faultOfCell rfl rfl rfl (by decide +kernel) ⟨Nat.le_of_ble_eq_true rfl, Nat.le_of_ble_eq_true rfl⟩) (hR.1 0 (by decide)) rfl rfl rfl hK hP hD hS hA hN rfl hl.1 rfl (Nat.le_of_ble_eq_true rfl) rfl dX2_cue_3 ⟨Nat.zero_le _, Nat.zero_le _⟩ (fun H locs hP hD hS => ?_)
  refine lv_istore (lv' := [(4, .int (sp_c σ p0 p1)), (0, .ref (ad (0, 0, 0))), (1, .int p0), (2, .int p1), (3, .int p2)]) hx hb dX2_cue_6 hl (by decide) rfl (fun ls hl => ?_)
  refine lv_iload hx hb dX2_cue_8 (lv_at hl 0 rfl) ?_
  refine lv_if_eq (tgt := 21) hx hb dX2_cue_10 (by decide) (fun c_1 => ?_) (fun c_1 => ?_)
  · refine lv_iload_n hx hb dX2_cue_21 rfl (lv_at hl 2 rfl) ?_
    refine lv_iload_n hx hb dX2_cue_22 rfl (lv_at hl 3 rfl) ?_
    refine zw_cS (As := [.int p0, .int p1]) (rest := []) (st1 := [.int (p0 * 16 + p1)]) ⟨hx, hb, hml, hown, hts⟩ (cd_indexOfCell p0 p1) (va_cwS 2 hts gX2_cue_X2_indexOfCell rfl rfl rfl (by decide +kernel) ⟨Nat.le_of_ble_eq_true rfl, Nat.le_of_ble_eq_true rfl⟩) hK hP hD hS hA hN rfl hl.1 rfl (Nat.le_of_ble_eq_true rfl) rfl dX2_cue_23 ⟨Nat.zero_le _, Nat.zero_le _⟩ (fun H locs hP hD hS => ?_)
    refine lv_istore (lv' := [(5, .int (p0 * 16 + p1)), (4, .int (sp_c σ p0 p1)), (0, .ref (ad (0, 0, 0))), (1, .int p0), (2, .int p1), (3, .int p2)]) hx hb dX2_cue_26 hl (by decide) rfl (fun ls hl => ?_)
    refine lv_aload_n hx hb dX2_cue_28 rfl (lv_at hl 2 rfl) ?_
    refine zw_getf (r := (0, 0, 0)) (v := .ref (ad (5, 0, 0))) (C := RX2) (T := TX2) (N := 15) (ci := 2) hx hb hts hwX2 hown hK hP (hR.1 0 (by decide)) rfl rfl 9 (by decide) (hts (.fieldLink RX2 41 "FourTrackDeck" "cells" "[I") (by decide +kernel)) (fun _ h9 => h9) rfl dX2_cue_29 ?_
    refine lv_iload hx hb dX2_cue_32 (lv_at hl 0 rfl) ?_
    refine zw_iald (r := (5, 0, 0)) hx hb hK hP (hR.1 5 (by decide)) 0 rfl rfl (ze_ci c_1 h5 h6) dX2_cue_34 ?_
    refine lv_istore (lv' := [(6, .int (σ (5, 0, 0) (p0 * 16 + p1).toNatClampNeg)), (5, .int (p0 * 16 + p1)), (4, .int (sp_c σ p0 p1)), (0, .ref (ad (0, 0, 0))), (1, .int p0), (2, .int p1), (3, .int p2)]) hx hb dX2_cue_35 hl (by decide) rfl (fun ls hl => ?_)
    refine lv_aload_n hx hb dX2_cue_37 rfl (lv_at hl 3 rfl) ?_
    refine zw_getf (r := (0, 0, 0)) (v := .ref (ad (5, 0, 0))) (C := RX2) (T := TX2) (N := 15) (ci := 2) hx hb hts hwX2 hown hK hP (hR.1 0 (by decide)) rfl rfl 9 (by decide) (hts (.fieldLink RX2 41 "FourTrackDeck" "cells" "[I") (by decide +kernel)) (fun _ h9 => h9) rfl dX2_cue_38 ?_
    refine lv_iload hx hb dX2_cue_41 (lv_at hl 1 rfl) ?_
    refine lv_iload_n hx hb dX2_cue_43 rfl (lv_at hl 6 rfl) ?_
    refine zw_iast (r := (5, 0, 0)) hx hb hK hP hD hS (hR.1 5 (by decide)) 0 rfl rfl (ze_ci c_1 h5 h6) dX2_cue_44 (cu1 := ze_X (ze_D cA ad nr len (sp_s σ (5, 0, 0) (p0 * 16 + p1).toNatClampNeg p2)) cM) (ze_up rfl rfl) (fun H locs hP hD hS => ?_)
    refine lv_aload_n hx hb dX2_cue_45 rfl (lv_at hl 3 rfl) ?_
    refine lv_iconst (v := 0) hx hb dX2_cue_46 (by decide) ?_
    refine lv_iload hx hb dX2_cue_47 (lv_at hl 0 rfl) ?_
    refine zw_cV (r := (0, 0, 0)) (As := [.int 0, .int (σ (5, 0, 0) (p0 * 16 + p1).toNatClampNeg)]) (rest := []) (st1 := [.int (σ (5, 0, 0) (p0 * 16 + p1).toNatClampNeg)]) ⟨hx, hb, hml, hown, hts⟩ (cd_end (σ := (sp_s σ (5, 0, 0) (p0 * 16 + p1).toNatClampNeg p2)) hR 0 (σ (5, 0, 0) (p0 * 16 + p1).toNatClampNeg)) (cwV 2 hts gX2_cue_X2_end rfl rfl rfl (by decide +kernel) ⟨Nat.le_of_ble_eq_true rfl, Nat.le_of_ble_eq_true rfl⟩) (hR.1 0 (by decide)) rfl rfl rfl hK hP hD hS hA hN rfl hl.1 rfl (Nat.le_of_ble_eq_true rfl) rfl dX2_cue_49 ⟨Nat.zero_le _, Nat.zero_le _⟩ (fun H locs hP hD hS => ?_)
    exact zw_iret hx hb hr hlk hK hP hD hS dX2_cue_52 (by simp only [sp_cue, if_pos c_1] <;> rfl) (by simp only [sp_cue, if_pos c_1] <;> rfl)
  · refine lv_aload_n hx hb dX2_cue_13 rfl (lv_at hl 1 rfl) ?_
    refine lv_iload hx hb dX2_cue_14 (lv_at hl 0 rfl) ?_
    refine lv_iconst (v := 0) hx hb dX2_cue_16 (by decide) ?_
    refine zw_cV (r := (0, 0, 0)) (As := [.int (sp_c σ p0 p1), .int 0]) (rest := []) (st1 := [.int 0]) ⟨hx, hb, hml, hown, hts⟩ (cd_end (σ := σ) hR (sp_c σ p0 p1) 0) (cwV 2 hts gX2_cue_X2_end rfl rfl rfl (by decide +kernel) ⟨Nat.le_of_ble_eq_true rfl, Nat.le_of_ble_eq_true rfl⟩) (hR.1 0 (by decide)) rfl rfl rfl hK hP hD hS hA hN rfl hl.1 rfl (Nat.le_of_ble_eq_true rfl) rfl dX2_cue_17 ⟨Nat.zero_le _, Nat.zero_le _⟩ (fun H locs hP hD hS => ?_)
    exact zw_iret hx hb hr hlk hK hP hD hS dX2_cue_20 (by simp only [sp_cue, if_neg c_1] <;> rfl) (by simp only [sp_cue, if_neg c_1] <;> rfl)
set_option maxHeartbeats 4000000 in
set_option maxRecDepth 100000 in
theorem cd_seek {l : Launch} {dC : Nat → ClassId} {dI : Nat → Nat → Nat} {cA : Nat → ClassId} {ad : zw_R → Nat} {R : List zw_R} {nr : Nat} {len : Nat → Nat} {σ : sp_S} {cM : zw_R → va_E} (hR : ze_R nr R) (h5 : σ (0, 0, 0) 5 ≤ 16) (h6 : σ (0, 0, 0) 6 ≤ 16) (p0 p1 : Int32) : zw_M l yX2_seek wsX2_seek { frames := 1, cells := 0, slots := 0, locals := 23 } (ze_E dC dI cA) [.ref (ad (0, 0, 0)), .int p0, .int p1] ad R (ze_X (ze_D cA ad nr len σ) cM) (some (.int ((sp_seek nr len σ p0 p1).1))) (ze_X (ze_D cA ad nr len (sp_seek nr len σ p0 p1).2) cM) := by
  refine zw_body (cc := cX2_seek) (maxL := 4) (ret := (some .int)) (by decide) rfl (Nat.le_of_ble_eq_true rfl) ?_
  intro p e s m below meth c A ls hx hb hr hlk hml hts hown hnm hA hK hP hD hS hN hl
  have hl : lv_has ls 4 [(0, .ref (ad (0, 0, 0))), (1, .int p0), (2, .int p1)] := hl
  have hwX2 : ∀ w ∈ u_ws RX2 TX2 15, w ∈ wsX2_seek := by decide +kernel
  refine lv_aload_n hx hb dX2_seek_0 rfl (lv_at hl 0 rfl) ?_
  refine lv_iload_n hx hb dX2_seek_1 rfl (lv_at hl 1 rfl) ?_
  refine lv_iload_n hx hb dX2_seek_2 rfl (lv_at hl 2 rfl) ?_
  refine zw_cV (r := (0, 0, 0)) (As := [.int p0, .int p1]) (rest := []) (st1 := [.int (sp_c σ p0 p1)]) ⟨hx, hb, hml, hown, hts⟩ (cd_faultOfCell (σ := σ) hR p0 p1) (cwV 2 hts gX2_seek_X2_faultOfCell rfl rfl rfl (by decide +kernel) ⟨Nat.le_of_ble_eq_true rfl, Nat.le_of_ble_eq_true rfl⟩) (hR.1 0 (by decide)) rfl rfl rfl hK hP hD hS hA hN rfl hl.1 rfl (Nat.le_of_ble_eq_true rfl) rfl dX2_seek_3 ⟨Nat.zero_le _, Nat.zero_le _⟩ (fun H locs hP hD hS => ?_)
  refine lv_istore_n (lv' := [(3, .int (sp_c σ p0 p1)), (0, .ref (ad (0, 0, 0))), (1, .int p0), (2, .int p1)]) hx hb dX2_seek_6 rfl hl (by decide) rfl (fun ls hl => ?_)
  refine lv_iload_n hx hb dX2_seek_7 rfl (lv_at hl 0 rfl) ?_
  refine lv_if_eq (tgt := 21) hx hb dX2_seek_8 (by decide) (fun c_1 => ?_) (fun c_1 => ?_)
  · refine lv_aload_n hx hb dX2_seek_21 rfl (lv_at hl 1 rfl) ?_
    refine lv_aload_n hx hb dX2_seek_22 rfl (lv_at hl 1 rfl) ?_
    refine zw_getf (r := (0, 0, 0)) (v := .ref (ad (5, 0, 0))) (C := RX2) (T := TX2) (N := 15) (ci := 2) hx hb hts hwX2 hown hK hP (hR.1 0 (by decide)) rfl rfl 9 (by decide) (hts (.fieldLink RX2 41 "FourTrackDeck" "cells" "[I") (by decide +kernel)) (fun _ h9 => h9) rfl dX2_seek_23 ?_
    refine lv_iload_n hx hb dX2_seek_26 rfl (lv_at hl 2 rfl) ?_
    refine lv_iload_n hx hb dX2_seek_27 rfl (lv_at hl 3 rfl) ?_
    refine zw_cS (As := [.int p0, .int p1]) (rest := [.ref (ad (5, 0, 0)), .ref (ad (0, 0, 0))]) (st1 := [.int (p0 * 16 + p1), .ref (ad (5, 0, 0)), .ref (ad (0, 0, 0))]) ⟨hx, hb, hml, hown, hts⟩ (cd_indexOfCell p0 p1) (va_cwS 2 hts gX2_seek_X2_indexOfCell rfl rfl rfl (by decide +kernel) ⟨Nat.le_of_ble_eq_true rfl, Nat.le_of_ble_eq_true rfl⟩) hK hP hD hS hA hN rfl hl.1 rfl (Nat.le_of_ble_eq_true rfl) rfl dX2_seek_28 ⟨Nat.zero_le _, Nat.zero_le _⟩ (fun H locs hP hD hS => ?_)
    refine zw_iald (r := (5, 0, 0)) hx hb hK hP (hR.1 5 (by decide)) 0 rfl rfl (ze_ci c_1 h5 h6) dX2_seek_31 ?_
    refine zw_putf (r := (0, 0, 0)) (v := .int (σ (5, 0, 0) (p0 * 16 + p1).toNatClampNeg)) (C := RX2) (T := TX2) (N := 15) (ci := 2) hx hb hts hwX2 tyX2 tyX2_ok nmX2 hown hK hP hD hS (hR.1 0 (by decide)) rfl rfl 3 (by decide) (hts (.fieldLink RX2 22 "FourTrackDeck" "tapeAt" "I") (by decide +kernel)) (fun _ h9 => h9) rfl (ty := .int) (by decide +kernel) rfl rfl (Nat.le_of_ble_eq_true rfl) dX2_seek_32 (cu1 := ze_X (ze_D cA ad nr len (sp_s σ (0, 0, 0) 2 (σ (5, 0, 0) (p0 * 16 + p1).toNatClampNeg))) cM) (ze_up rfl rfl) (fun H locs hP hD hS => ?_)
    refine lv_aload_n hx hb dX2_seek_35 rfl (lv_at hl 1 rfl) ?_
    refine lv_iconst (v := 0) hx hb dX2_seek_36 (by decide) ?_
    refine lv_aload_n hx hb dX2_seek_37 rfl (lv_at hl 1 rfl) ?_
    refine zw_getf (r := (0, 0, 0)) (v := .int ((sp_s σ (0, 0, 0) 2 (σ (5, 0, 0) (p0 * 16 + p1).toNatClampNeg)) (0, 0, 0) 2)) (C := RX2) (T := TX2) (N := 15) (ci := 2) hx hb hts hwX2 hown hK hP (hR.1 0 (by decide)) rfl rfl 3 (by decide) (hts (.fieldLink RX2 22 "FourTrackDeck" "tapeAt" "I") (by decide +kernel)) (fun _ h9 => h9) rfl dX2_seek_38 ?_
    refine zw_cV (r := (0, 0, 0)) (As := [.int 0, .int ((sp_s σ (0, 0, 0) 2 (σ (5, 0, 0) (p0 * 16 + p1).toNatClampNeg)) (0, 0, 0) 2)]) (rest := []) (st1 := [.int ((sp_s σ (0, 0, 0) 2 (σ (5, 0, 0) (p0 * 16 + p1).toNatClampNeg)) (0, 0, 0) 2)]) ⟨hx, hb, hml, hown, hts⟩ (cd_end (σ := (sp_s σ (0, 0, 0) 2 (σ (5, 0, 0) (p0 * 16 + p1).toNatClampNeg))) hR 0 ((sp_s σ (0, 0, 0) 2 (σ (5, 0, 0) (p0 * 16 + p1).toNatClampNeg)) (0, 0, 0) 2)) (cwV 2 hts gX2_seek_X2_end rfl rfl rfl (by decide +kernel) ⟨Nat.le_of_ble_eq_true rfl, Nat.le_of_ble_eq_true rfl⟩) (hR.1 0 (by decide)) rfl rfl rfl hK hP hD hS hA hN rfl hl.1 rfl (Nat.le_of_ble_eq_true rfl) rfl dX2_seek_41 ⟨Nat.zero_le _, Nat.zero_le _⟩ (fun H locs hP hD hS => ?_)
    exact zw_iret hx hb hr hlk hK hP hD hS dX2_seek_44 (by simp only [sp_seek, if_pos c_1] <;> rfl) (by simp only [sp_seek, if_pos c_1] <;> rfl)
  · refine lv_aload_n hx hb dX2_seek_11 rfl (lv_at hl 1 rfl) ?_
    refine lv_iload_n hx hb dX2_seek_12 rfl (lv_at hl 0 rfl) ?_
    refine lv_aload_n hx hb dX2_seek_13 rfl (lv_at hl 1 rfl) ?_
    refine zw_getf (r := (0, 0, 0)) (v := .int (σ (0, 0, 0) 2)) (C := RX2) (T := TX2) (N := 15) (ci := 2) hx hb hts hwX2 hown hK hP (hR.1 0 (by decide)) rfl rfl 3 (by decide) (hts (.fieldLink RX2 22 "FourTrackDeck" "tapeAt" "I") (by decide +kernel)) (fun _ h9 => h9) rfl dX2_seek_14 ?_
    refine zw_cV (r := (0, 0, 0)) (As := [.int (sp_c σ p0 p1), .int (σ (0, 0, 0) 2)]) (rest := []) (st1 := [.int (σ (0, 0, 0) 2)]) ⟨hx, hb, hml, hown, hts⟩ (cd_end (σ := σ) hR (sp_c σ p0 p1) (σ (0, 0, 0) 2)) (cwV 2 hts gX2_seek_X2_end rfl rfl rfl (by decide +kernel) ⟨Nat.le_of_ble_eq_true rfl, Nat.le_of_ble_eq_true rfl⟩) (hR.1 0 (by decide)) rfl rfl rfl hK hP hD hS hA hN rfl hl.1 rfl (Nat.le_of_ble_eq_true rfl) rfl dX2_seek_17 ⟨Nat.zero_le _, Nat.zero_le _⟩ (fun H locs hP hD hS => ?_)
    exact zw_iret hx hb hr hlk hK hP hD hS dX2_seek_20 (by simp only [sp_seek, if_neg c_1] <;> rfl) (by simp only [sp_seek, if_neg c_1] <;> rfl)
set_option maxHeartbeats 4000000 in
set_option maxRecDepth 100000 in
theorem cd_trip {l : Launch} {dC : Nat → ClassId} {dI : Nat → Nat → Nat} {cA : Nat → ClassId} {ad : zw_R → Nat} {R : List zw_R} {nr : Nat} {len : Nat → Nat} {σ : sp_S} {cM : zw_R → va_E} (hR : ze_R nr R) (p0 : Int32) : zw_M l yX2_trip wsX2_trip { frames := 0, cells := 0, slots := 0, locals := 0 } (ze_E dC dI cA) [.ref (ad (0, 0, 0)), .int p0] ad R (ze_X (ze_D cA ad nr len σ) cM) (some (.int ((sp_trip nr len σ p0).1))) (ze_X (ze_D cA ad nr len (sp_trip nr len σ p0).2) cM) := by
  refine zw_body (cc := cX2_trip) (maxL := 2) (ret := (some .int)) (by decide) rfl (Nat.le_of_ble_eq_true rfl) ?_
  intro p e s m below meth c A ls hx hb hr hlk hml hts hown hnm hA hK hP hD hS hN hl
  have hl : lv_has ls 2 [(0, .ref (ad (0, 0, 0))), (1, .int p0)] := hl
  have hwX2 : ∀ w ∈ u_ws RX2 TX2 15, w ∈ wsX2_trip := by decide +kernel
  refine lv_iload_n hx hb dX2_trip_0 rfl (lv_at hl 1 rfl) ?_
  rcases Decidable.em (p0 = 0) with c_1 | c_1
  · have ec_1 : (p0).toInt = 0 := by rw [c_1]; rfl
    refine lv_lookup (off := 27) (tgt := 28) hx hb dX2_trip_1 (by decide) (by rw [ec_1] <;> rfl) (by decide) ?_
    refine lv_aload_n hx hb dX2_trip_28 rfl (lv_at hl 0 rfl) ?_
    refine zw_getf (r := (0, 0, 0)) (v := .int (σ (0, 0, 0) 7)) (C := RX2) (T := TX2) (N := 15) (ci := 2) hx hb hts hwX2 hown hK hP (hR.1 0 (by decide)) rfl rfl 12 (by decide) (hts (.fieldLink RX2 50 "FourTrackDeck" "tripTrack" "I") (by decide +kernel)) (fun _ h9 => h9) rfl dX2_trip_29 ?_
    exact zw_iret hx hb hr hlk hK hP hD hS dX2_trip_32 (by simp only [sp_trip, if_pos c_1] <;> rfl) (by simp only [sp_trip, if_pos c_1] <;> rfl)
  · rcases Decidable.em (p0 = 1) with c_2 | c_2
    · have ec_2 : (p0).toInt = 1 := by rw [c_2]; rfl
      refine lv_lookup (off := 32) (tgt := 33) hx hb dX2_trip_1 (by decide) (by rw [ec_2] <;> rfl) (by decide) ?_
      refine lv_aload_n hx hb dX2_trip_33 rfl (lv_at hl 0 rfl) ?_
      refine zw_getf (r := (0, 0, 0)) (v := .int (σ (0, 0, 0) 8)) (C := RX2) (T := TX2) (N := 15) (ci := 2) hx hb hts hwX2 hown hK hP (hR.1 0 (by decide)) rfl rfl 13 (by decide) (hts (.fieldLink RX2 53 "FourTrackDeck" "tripStatus" "I") (by decide +kernel)) (fun _ h9 => h9) rfl dX2_trip_34 ?_
      exact zw_iret hx hb hr hlk hK hP hD hS dX2_trip_37 (by simp only [sp_trip, if_neg c_1, if_pos c_2] <;> rfl) (by simp only [sp_trip, if_neg c_1, if_pos c_2] <;> rfl)
    · have nc_1 := lv_neT c_1 (a := 0) rfl; have nc_2 := lv_neT c_2 (a := 1) rfl
      refine lv_lookup (off := 37) (tgt := 38) hx hb dX2_trip_1 (by decide) (by show Op.lookupswitch.offset [(0, 27), (1, 32)] 37 _ = _; rw [lv_osw c_1 (a := 0) rfl, lv_osw c_2 (a := 1) rfl] <;> rfl) (by decide) ?_
      refine lv_iconst (v := (-1)) hx hb dX2_trip_38 (by decide) ?_
      exact zw_iret hx hb hr hlk hK hP hD hS dX2_trip_39 (by simp only [sp_trip, if_neg c_1, if_neg c_2] <;> rfl) (by simp only [sp_trip, if_neg c_1, if_neg c_2] <;> rfl)
set_option maxHeartbeats 4000000 in
set_option maxRecDepth 100000 in
theorem cd_meter {l : Launch} {dC : Nat → ClassId} {dI : Nat → Nat → Nat} {cA : Nat → ClassId} {ad : zw_R → Nat} {R : List zw_R} {nr : Nat} {len : Nat → Nat} {σ : sp_S} {cM : zw_R → va_E} (hR : ze_R nr R) (p0 : Int32) : zw_M l yX2_meter wsX2_meter { frames := 2, cells := 0, slots := 0, locals := 42 } (ze_E dC dI cA) [.ref (ad (0, 0, 0)), .int p0] ad R (ze_X (ze_D cA ad nr len σ) cM) (some (.int ((sp_meter nr len σ p0).1))) (ze_X (ze_D cA ad nr len (sp_meter nr len σ p0).2) cM) := by
  refine zw_body (cc := cX2_meter) (maxL := 2) (ret := (some .int)) (by decide) rfl (Nat.le_of_ble_eq_true rfl) ?_
  intro p e s m below meth c A ls hx hb hr hlk hml hts hown hnm hA hK hP hD hS hN hl
  have hl : lv_has ls 2 [(0, .ref (ad (0, 0, 0))), (1, .int p0)] := hl
  have hwX2 : ∀ w ∈ u_ws RX2 TX2 15, w ∈ wsX2_meter := by decide +kernel
  refine lv_iload_n hx hb dX2_meter_0 rfl (lv_at hl 1 rfl) ?_
  rcases Decidable.em (sp_t p0) with h_1 | h_1
  · refine zw_cS (As := [.int p0]) (rest := []) (st1 := [.int 1]) ⟨hx, hb, hml, hown, hts⟩ (cd_isTrack_1 p0 h_1) (va_cwS 1 hts gX2_meter_X2_isTrack rfl rfl rfl (by decide +kernel) ⟨Nat.le_of_ble_eq_true rfl, Nat.le_of_ble_eq_true rfl⟩) hK hP hD hS hA hN rfl hl.1 rfl (Nat.le_of_ble_eq_true rfl) rfl dX2_meter_1 ⟨Nat.zero_le _, Nat.zero_le _⟩ (fun H locs hP hD hS => ?_)
    refine lv_if_eq (tgt := 16) hx hb dX2_meter_4 (by decide) (fun c_2 => absurd c_2 (by decide)) (fun c_2 => ?_)
    refine lv_aload_n hx hb dX2_meter_7 rfl (lv_at hl 0 rfl) ?_
    refine zw_getf (r := (0, 0, 0)) (v := .ref (ad (4, 0, 0))) (C := RX2) (T := TX2) (N := 15) (ci := 2) hx hb hts hwX2 hown hK hP (hR.1 0 (by decide)) rfl rfl 6 (by decide) (hts (.fieldLink RX2 32 "FourTrackDeck" "meters" "[I") (by decide +kernel)) (fun _ h9 => h9) rfl dX2_meter_8 ?_
    refine lv_iload_n hx hb dX2_meter_11 rfl (lv_at hl 1 rfl) ?_
    refine zw_iald (r := (4, 0, 0)) hx hb hK hP (hR.1 4 (by decide)) 0 rfl rfl (ze_ti h_1) dX2_meter_12 ?_
    refine lv_goto (tgt := 17) hx hb dX2_meter_13 (by decide) ?_
    exact zw_iret hx hb hr hlk hK hP hD hS dX2_meter_17 (by simp only [sp_meter, if_pos h_1] <;> rfl) (by simp only [sp_meter, if_pos h_1] <;> rfl)
  · refine zw_cS (As := [.int p0]) (rest := []) (st1 := [.int 0]) ⟨hx, hb, hml, hown, hts⟩ (cd_isTrack_0 p0 h_1) (va_cwS 1 hts gX2_meter_X2_isTrack rfl rfl rfl (by decide +kernel) ⟨Nat.le_of_ble_eq_true rfl, Nat.le_of_ble_eq_true rfl⟩) hK hP hD hS hA hN rfl hl.1 rfl (Nat.le_of_ble_eq_true rfl) rfl dX2_meter_1 ⟨Nat.zero_le _, Nat.zero_le _⟩ (fun H locs hP hD hS => ?_)
    refine lv_if_eq (tgt := 16) hx hb dX2_meter_4 (by decide) (fun c_3 => ?_) (fun c_3 => absurd (by decide) c_3)
    refine lv_iconst (v := 0) hx hb dX2_meter_16 (by decide) ?_
    exact zw_iret hx hb hr hlk hK hP hD hS dX2_meter_17 (by simp only [sp_meter, if_neg h_1] <;> rfl) (by simp only [sp_meter, if_neg h_1] <;> rfl)
set_option maxHeartbeats 4000000 in
set_option maxRecDepth 100000 in
theorem cd_count {l : Launch} {dC : Nat → ClassId} {dI : Nat → Nat → Nat} {cA : Nat → ClassId} {ad : zw_R → Nat} {R : List zw_R} {nr : Nat} {len : Nat → Nat} {σ : sp_S} {cM : zw_R → va_E} (hR : ze_R nr R) (hnr : nr ≤ 8) (p0 : Int32) : zw_M l yX2_count wsX2_count { frames := 2, cells := 0, slots := 0, locals := 44 } (ze_E dC dI cA) [.ref (ad (0, 0, 0)), .int p0] ad R (ze_X (ze_D cA ad nr len σ) cM) (some (.int ((sp_count nr len σ p0).1))) (ze_X (ze_D cA ad nr len (sp_count nr len σ p0).2) cM) := by
  refine zw_body (cc := cX2_count) (maxL := 2) (ret := (some .int)) (by decide) rfl (Nat.le_of_ble_eq_true rfl) ?_
  intro p e s m below meth c A ls hx hb hr hlk hml hts hown hnm hA hK hP hD hS hN hl
  have hl : lv_has ls 2 [(0, .ref (ad (0, 0, 0))), (1, .int p0)] := hl
  have hwX2 : ∀ w ∈ u_ws RX2 TX2 15, w ∈ wsX2_count := by decide +kernel
  refine lv_iload_n hx hb dX2_count_0 rfl (lv_at hl 1 rfl) ?_
  rcases Decidable.em (p0 = 0) with c_1 | c_1
  · have ec_1 : (p0).toInt = 0 := by rw [c_1]; rfl
    refine lv_tableIn (tgt := 40) hx hb dX2_count_1 (by rw [ec_1]; decide) (by rw [ec_1]; decide) (by rw [ec_1]; rfl) (by decide) ?_
    refine lv_aload_n hx hb dX2_count_40 rfl (lv_at hl 0 rfl) ?_
    refine zw_getf (r := (0, 0, 0)) (v := .int (σ (0, 0, 0) 0)) (C := RX2) (T := TX2) (N := 15) (ci := 2) hx hb hts hwX2 hown hK hP (hR.1 0 (by decide)) rfl rfl 1 (by decide) (hts (.fieldLink RX2 15 "FourTrackDeck" "reelsMade" "I") (by decide +kernel)) (fun _ h9 => h9) rfl dX2_count_41 ?_
    exact zw_iret hx hb hr hlk hK hP hD hS dX2_count_44 (by simp only [sp_count, if_pos c_1] <;> rfl) (by simp only [sp_count, if_pos c_1] <;> rfl)
  · rcases Decidable.em (p0 = 1) with c_2 | c_2
    · have ec_2 : (p0).toInt = 1 := by rw [c_2]; rfl
      refine lv_tableIn (tgt := 45) hx hb dX2_count_1 (by rw [ec_2]; decide) (by rw [ec_2]; decide) (by rw [ec_2]; rfl) (by decide) ?_
      refine lv_aload_n hx hb dX2_count_45 rfl (lv_at hl 0 rfl) ?_
      refine zw_getf (r := (0, 0, 0)) (v := .int (σ (0, 0, 0) 1)) (C := RX2) (T := TX2) (N := 15) (ci := 2) hx hb hts hwX2 hown hK hP (hR.1 0 (by decide)) rfl rfl 2 (by decide) (hts (.fieldLink RX2 19 "FourTrackDeck" "onDeck" "I") (by decide +kernel)) (fun _ h9 => h9) rfl dX2_count_46 ?_
      exact zw_iret hx hb hr hlk hK hP hD hS dX2_count_49 (by simp only [sp_count, if_neg c_1, if_pos c_2] <;> rfl) (by simp only [sp_count, if_neg c_1, if_pos c_2] <;> rfl)
    · rcases Decidable.em (p0 = 2) with c_3 | c_3
      · have ec_3 : (p0).toInt = 2 := by rw [c_3]; rfl
        refine lv_tableIn (tgt := 50) hx hb dX2_count_1 (by rw [ec_3]; decide) (by rw [ec_3]; decide) (by rw [ec_3]; rfl) (by decide) ?_
        refine lv_aload_n hx hb dX2_count_50 rfl (lv_at hl 0 rfl) ?_
        refine zw_getf (r := (0, 0, 0)) (v := .int (σ (0, 0, 0) 2)) (C := RX2) (T := TX2) (N := 15) (ci := 2) hx hb hts hwX2 hown hK hP (hR.1 0 (by decide)) rfl rfl 3 (by decide) (hts (.fieldLink RX2 22 "FourTrackDeck" "tapeAt" "I") (by decide +kernel)) (fun _ h9 => h9) rfl dX2_count_51 ?_
        exact zw_iret hx hb hr hlk hK hP hD hS dX2_count_54 (by simp only [sp_count, if_neg c_1, if_neg c_2, if_pos c_3] <;> rfl) (by simp only [sp_count, if_neg c_1, if_neg c_2, if_pos c_3] <;> rfl)
      · rcases Decidable.em (p0 = 3) with c_4 | c_4
        · have ec_4 : (p0).toInt = 3 := by rw [c_4]; rfl
          refine lv_tableIn (tgt := 55) hx hb dX2_count_1 (by rw [ec_4]; decide) (by rw [ec_4]; decide) (by rw [ec_4]; rfl) (by decide) ?_
          refine lv_aload_n hx hb dX2_count_55 rfl (lv_at hl 0 rfl) ?_
          refine zw_getf (r := (0, 0, 0)) (v := .int (σ (0, 0, 0) 3)) (C := RX2) (T := TX2) (N := 15) (ci := 2) hx hb hts hwX2 hown hK hP (hR.1 0 (by decide)) rfl rfl 7 (by decide) (hts (.fieldLink RX2 35 "FourTrackDeck" "sourceNumber" "I") (by decide +kernel)) (fun _ h9 => h9) rfl dX2_count_56 ?_
          exact zw_iret hx hb hr hlk hK hP hD hS dX2_count_59 (by simp only [sp_count, if_neg c_1, if_neg c_2, if_neg c_3, if_pos c_4] <;> rfl) (by simp only [sp_count, if_neg c_1, if_neg c_2, if_neg c_3, if_pos c_4] <;> rfl)
        · rcases Decidable.em (p0 = 4) with c_5 | c_5
          · have ec_5 : (p0).toInt = 4 := by rw [c_5]; rfl
            refine lv_tableIn (tgt := 60) hx hb dX2_count_1 (by rw [ec_5]; decide) (by rw [ec_5]; decide) (by rw [ec_5]; rfl) (by decide) ?_
            refine lv_aload_n hx hb dX2_count_60 rfl (lv_at hl 0 rfl) ?_
            refine zw_getf (r := (0, 0, 0)) (v := .int (σ (0, 0, 0) 5)) (C := RX2) (T := TX2) (N := 15) (ci := 2) hx hb hts hwX2 hown hK hP (hR.1 0 (by decide)) rfl rfl 10 (by decide) (hts (.fieldLink RX2 44 "FourTrackDeck" "sheetRows" "I") (by decide +kernel)) (fun _ h9 => h9) rfl dX2_count_61 ?_
            exact zw_iret hx hb hr hlk hK hP hD hS dX2_count_64 (by simp only [sp_count, if_neg c_1, if_neg c_2, if_neg c_3, if_neg c_4, if_pos c_5] <;> rfl) (by simp only [sp_count, if_neg c_1, if_neg c_2, if_neg c_3, if_neg c_4, if_pos c_5] <;> rfl)
          · rcases Decidable.em (p0 = 5) with c_6 | c_6
            · have ec_6 : (p0).toInt = 5 := by rw [c_6]; rfl
              refine lv_tableIn (tgt := 65) hx hb dX2_count_1 (by rw [ec_6]; decide) (by rw [ec_6]; decide) (by rw [ec_6]; rfl) (by decide) ?_
              refine lv_aload_n hx hb dX2_count_65 rfl (lv_at hl 0 rfl) ?_
              refine zw_getf (r := (0, 0, 0)) (v := .int (σ (0, 0, 0) 6)) (C := RX2) (T := TX2) (N := 15) (ci := 2) hx hb hts hwX2 hown hK hP (hR.1 0 (by decide)) rfl rfl 11 (by decide) (hts (.fieldLink RX2 47 "FourTrackDeck" "sheetWidth" "I") (by decide +kernel)) (fun _ h9 => h9) rfl dX2_count_66 ?_
              exact zw_iret hx hb hr hlk hK hP hD hS dX2_count_69 (by simp only [sp_count, if_neg c_1, if_neg c_2, if_neg c_3, if_neg c_4, if_neg c_5, if_pos c_6] <;> rfl) (by simp only [sp_count, if_neg c_1, if_neg c_2, if_neg c_3, if_neg c_4, if_neg c_5, if_pos c_6] <;> rfl)
            · have nc_1 := lv_neT c_1 (a := 0) rfl; have nc_2 := lv_neT c_2 (a := 1) rfl; have nc_3 := lv_neT c_3 (a := 2) rfl; have nc_4 := lv_neT c_4 (a := 3) rfl; have nc_5 := lv_neT c_5 (a := 4) rfl; have nc_6 := lv_neT c_6 (a := 5) rfl
              refine lv_tableOut (tgt := 70) hx hb dX2_count_1 (by omega) (by decide) ?_
              refine lv_aload_n hx hb dX2_count_70 rfl (lv_at hl 0 rfl) ?_
              refine lv_iload_n hx hb dX2_count_71 rfl (lv_at hl 1 rfl) ?_
              refine lv_bipush (v := 10) hx hb dX2_count_72 (by decide) ?_
              refine lv_isub hx hb dX2_count_74 ?_
              rcases Decidable.em (sp_r nr (p0 - 10)) with h_7 | h_7
              · refine zw_cV (r := (0, 0, 0)) (As := [.int (p0 - 10)]) (rest := []) (st1 := [.int (sp_b σ (p0 - 10).toNatClampNeg)]) ⟨hx, hb, hml, hown, hts⟩ (cd_tracksThere_1 (σ := σ) hR hnr (p0 - 10) h_7) (cwV 1 hts gX2_count_X2_tracksThere rfl rfl rfl (by decide +kernel) ⟨Nat.le_of_ble_eq_true rfl, Nat.le_of_ble_eq_true rfl⟩) (hR.1 0 (by decide)) rfl rfl rfl hK hP hD hS hA hN rfl hl.1 rfl (Nat.le_of_ble_eq_true rfl) rfl dX2_count_75 ⟨Nat.zero_le _, Nat.zero_le _⟩ (fun H locs hP hD hS => ?_)
                exact zw_iret hx hb hr hlk hK hP hD hS dX2_count_78 (by simp only [sp_count, if_neg c_1, if_neg c_2, if_neg c_3, if_neg c_4, if_neg c_5, if_neg c_6, if_pos h_7] <;> rfl) (by simp only [sp_count, if_neg c_1, if_neg c_2, if_neg c_3, if_neg c_4, if_neg c_5, if_neg c_6, if_pos h_7] <;> rfl)
              · refine zw_cV (r := (0, 0, 0)) (As := [.int (p0 - 10)]) (rest := []) (st1 := [.int (-1)]) ⟨hx, hb, hml, hown, hts⟩ (cd_tracksThere_0 (σ := σ) hR hnr (p0 - 10) h_7) (cwV 1 hts gX2_count_X2_tracksThere rfl rfl rfl (by decide +kernel) ⟨Nat.le_of_ble_eq_true rfl, Nat.le_of_ble_eq_true rfl⟩) (hR.1 0 (by decide)) rfl rfl rfl hK hP hD hS hA hN rfl hl.1 rfl (Nat.le_of_ble_eq_true rfl) rfl dX2_count_75 ⟨Nat.zero_le _, Nat.zero_le _⟩ (fun H locs hP hD hS => ?_)
                exact zw_iret hx hb hr hlk hK hP hD hS dX2_count_78 (by simp only [sp_count, if_neg c_1, if_neg c_2, if_neg c_3, if_neg c_4, if_neg c_5, if_neg c_6, if_neg h_7] <;> rfl) (by simp only [sp_count, if_neg c_1, if_neg c_2, if_neg c_3, if_neg c_4, if_neg c_5, if_neg c_6, if_neg h_7] <;> rfl)
set_option maxHeartbeats 4000000 in
set_option maxRecDepth 100000 in
theorem cd_status {l : Launch} {dC : Nat → ClassId} {dI : Nat → Nat → Nat} {cA : Nat → ClassId} {ad : zw_R → Nat} {R : List zw_R} {nr : Nat} {len : Nat → Nat} {σ : sp_S} {cM : zw_R → va_E} (hR : ze_R nr R) : zw_M l yX2_status wsX2_status { frames := 0, cells := 0, slots := 0, locals := 0 } (ze_E dC dI cA) [.ref (ad (0, 0, 0))] ad R (ze_X (ze_D cA ad nr len σ) cM) (some (.int ((sp_status nr len σ).1))) (ze_X (ze_D cA ad nr len (sp_status nr len σ).2) cM) := by
  refine zw_body (cc := cX2_status) (maxL := 1) (ret := (some .int)) (by decide) rfl (Nat.le_of_ble_eq_true rfl) ?_
  intro p e s m below meth c A ls hx hb hr hlk hml hts hown hnm hA hK hP hD hS hN hl
  have hl : lv_has ls 1 [(0, .ref (ad (0, 0, 0)))] := hl
  have hwX2 : ∀ w ∈ u_ws RX2 TX2 15, w ∈ wsX2_status := by decide +kernel
  refine lv_aload_n hx hb dX2_status_0 rfl (lv_at hl 0 rfl) ?_
  refine zw_getf (r := (0, 0, 0)) (v := .int (σ (0, 0, 0) 9)) (C := RX2) (T := TX2) (N := 15) (ci := 2) hx hb hts hwX2 hown hK hP (hR.1 0 (by decide)) rfl rfl 14 (by decide) (hts (.fieldLink RX2 56 "FourTrackDeck" "latestStatus" "I") (by decide +kernel)) (fun _ h9 => h9) rfl dX2_status_1 ?_
  exact zw_iret hx hb hr hlk hK hP hD hS dX2_status_4 rfl rfl
