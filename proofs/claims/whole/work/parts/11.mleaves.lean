theorem ze_t4 {x : Int32} (h : sp_t x) : ¬ (4 : Int32) ≤ x := fun q => by
  have h1 := ze_le h.2
  have h2 := ze_le q
  have a1 : (3 : Int32).toInt = 3 := rfl
  have a2 : (4 : Int32).toInt = 4 := rfl
  omega
theorem ze_t3 {x : Int32} (h : ¬ (4 : Int32) ≤ x) : x ≤ 3 := by
  have h2 := ze_nle h
  have a1 : (3 : Int32).toInt = 3 := rfl
  have a2 : (4 : Int32).toInt = 4 := rfl
  exact Int32.le_iff_toInt_le.mpr (by omega)
theorem ze_t9 {x : Int32} (h : sp_t x) (h0 : ¬ x = 0) (h1 : ¬ x = 1) (h2 : ¬ x = 2) : x = 3 := by
  have b1 := ze_le h.1
  have b2 := ze_le h.2
  have a0 : (0 : Int32).toInt = 0 := rfl
  have a1 : (1 : Int32).toInt = 1 := rfl
  have a2 : (2 : Int32).toInt = 2 := rfl
  have a3 : (3 : Int32).toInt = 3 := rfl
  have c0 : ¬ x.toInt = 0 := fun q => h0 (Int32.toInt_inj.mp (q.trans a0.symm))
  have c1 : ¬ x.toInt = 1 := fun q => h1 (Int32.toInt_inj.mp (q.trans a1.symm))
  have c2 : ¬ x.toInt = 2 := fun q => h2 (Int32.toInt_inj.mp (q.trans a2.symm))
  exact Int32.toInt_inj.mp (by omega)
theorem ze_rn {nr : Nat} {x : Int32} (h : sp_r nr x) : ¬ x = -1 := fun q => by
  have h1 := h.1
  rw [q] at h1
  exact absurd h1 (by decide)
theorem zm_b1 {σ : sp_S} {i : Nat} {x : Int32} (ht : sp_t x) (h : ¬ σ (8, i, x.toNatClampNeg) 1 = 0) : (sp_b σ i >>> (x &&& 31)) &&& 1 = 1 := by
  have e := zm_bit (σ := σ) (i := i) (ze_vt ht)
  rw [ze_tn ht, if_neg h] at e
  exact e
theorem zm_b0 {σ : sp_S} {i : Nat} {x : Int32} (ht : sp_t x) (h : σ (8, i, x.toNatClampNeg) 1 = 0) : ¬ (sp_b σ i >>> (x &&& 31)) &&& 1 = 1 := by
  have e := zm_bit (σ := σ) (i := i) (ze_vt ht)
  rw [ze_tn ht, if_pos h] at e
  rw [e]
  decide
section ZV
variable {p : Program} {l : Launch} {e : Env} {RM : Room} {s : State} {m : MethodId} {args : Array Value} {below : List Frame} {meth : Method} {c : Code} {H : Heap} {locs : List Loc} {cells slots : Nat} {Q : State → Prop}
variable {cc : ByteArray} {pc : Nat} {ls : Array Slot} {rest : List Value} {E : zw_E} {A : Nat → Prop} {H0 : Heap} {ad : zw_R → Nat} {R : List zw_R} {cu : zw_R → va_E}
theorem zw_ialdv (hexec : p.tables.exec = Jvm.exec) (hb : c.code = cc) (hK : va_K E.1 E.2.1 E.2.2 s) (hP : va_P E.1 E.2.1 (zw_l ad R cu) H) {r : zw_R} (hr : r ∈ R) (t0 : Nat) {cA : ClassId} {n : Nat} {f : Nat → Int32} (he : cu r = .inl (cA, n, .inl f)) (ht : E.2.2[t0]? = some (cA, .int)) {i : Int32} (hin : vp_in i n) {v : Int32} (hv : f i.toNatClampNeg = v) (hdg : decode cc pc = .ok (.iaload, 1))
    (kk : W p l e RM s m args below meth c H locs cells slots Q (F0 m (pc + 1) ls (.int v :: rest))) : W p l e RM s m args below meth c H locs cells slots Q (F0 m pc ls (.int i :: .ref (ad r) :: rest)) := by
  subst hv
  exact zw_iald hexec hb hK hP hr t0 he ht hin hdg kk
end ZV
set_option maxHeartbeats 4000000 in
set_option maxRecDepth 100000 in
theorem cm_done {l : Launch} {dC : Nat → ClassId} {dI : Nat → Nat → Nat} {cA : Nat → ClassId} {ad : zw_R → Nat} {R : List zw_R} {len : Nat → Nat} {σ : sp_S} {cD : zw_R → va_E} (hM : zm_R R) (p0 : Int32) : zw_M l yX3_done wsX3_done { frames := 0, cells := 0, slots := 0, locals := 0 } (ze_E dC dI cA) [.ref (ad (20, 0, 0)), .int p0] ad R (ze_X cD (ze_M cA ad len σ)) (some (.int p0)) (ze_X cD (ze_M cA ad len (sp_e σ 0))) := by
  refine zw_body (cc := cX3_done) (maxL := 2) (ret := (some .int)) (by decide) rfl (Nat.le_of_ble_eq_true rfl) ?_
  intro p e s m below meth c A ls hx hb hr hlk hml hts hown hnm hA hK hP hD hS hN hl
  have hl : lv_has ls 2 [(0, .ref (ad (20, 0, 0))), (1, .int p0)] := hl
  have hwX3 : ∀ w ∈ u_ws RX3 TX3 17, w ∈ wsX3_done := by decide +kernel
  refine lv_aload_n hx hb dX3_done_0 rfl (lv_at hl 0 rfl) ?_
  refine lv_iconst (v := 0) hx hb dX3_done_1 (by decide) ?_
  refine zw_putf (r := (20, 0, 0)) (v := .int 0) (C := RX3) (T := TX3) (N := 17) (ci := 3) hx hb hts hwX3 tyX3 tyX3_ok nmX3 hown hK hP hD hS (hM 0 (by decide)) rfl rfl 16 (by decide) (hts (.fieldLink RX3 44 "FourTrackDeckModel" "status" "I") (by decide +kernel)) (fun _ h9 => h9) rfl (ty := .int) (by decide +kernel) rfl rfl (Nat.le_of_ble_eq_true rfl) dX3_done_2 (cu1 := ze_X cD (ze_M cA ad len (sp_s σ (0, 0, 0) 9 0))) (zm_D rfl) (fun H locs hP hD hS => ?_)
  refine lv_iload_n hx hb dX3_done_5 rfl (lv_at hl 1 rfl) ?_
  exact zw_iret hx hb hr hlk hK hP hD hS dX3_done_6 rfl rfl
set_option maxHeartbeats 4000000 in
set_option maxRecDepth 100000 in
theorem cm_fails {l : Launch} {dC : Nat → ClassId} {dI : Nat → Nat → Nat} {cA : Nat → ClassId} {ad : zw_R → Nat} {R : List zw_R} {len : Nat → Nat} {σ : sp_S} {cD : zw_R → va_E} (hM : zm_R R) (p0 p1 : Int32) : zw_M l yX3_fails wsX3_fails { frames := 0, cells := 0, slots := 0, locals := 0 } (ze_E dC dI cA) [.ref (ad (20, 0, 0)), .int p0, .int p1] ad R (ze_X cD (ze_M cA ad len σ)) (some (.int p1)) (ze_X cD (ze_M cA ad len (sp_e σ p0))) := by
  refine zw_body (cc := cX3_fails) (maxL := 3) (ret := (some .int)) (by decide) rfl (Nat.le_of_ble_eq_true rfl) ?_
  intro p e s m below meth c A ls hx hb hr hlk hml hts hown hnm hA hK hP hD hS hN hl
  have hl : lv_has ls 3 [(0, .ref (ad (20, 0, 0))), (1, .int p0), (2, .int p1)] := hl
  have hwX3 : ∀ w ∈ u_ws RX3 TX3 17, w ∈ wsX3_fails := by decide +kernel
  refine lv_aload_n hx hb dX3_fails_0 rfl (lv_at hl 0 rfl) ?_
  refine lv_iload_n hx hb dX3_fails_1 rfl (lv_at hl 1 rfl) ?_
  refine zw_putf (r := (20, 0, 0)) (v := .int p0) (C := RX3) (T := TX3) (N := 17) (ci := 3) hx hb hts hwX3 tyX3 tyX3_ok nmX3 hown hK hP hD hS (hM 0 (by decide)) rfl rfl 16 (by decide) (hts (.fieldLink RX3 44 "FourTrackDeckModel" "status" "I") (by decide +kernel)) (fun _ h9 => h9) rfl (ty := .int) (by decide +kernel) rfl rfl (Nat.le_of_ble_eq_true rfl) dX3_fails_2 (cu1 := ze_X cD (ze_M cA ad len (sp_s σ (0, 0, 0) 9 p0))) (zm_D rfl) (fun H locs hP hD hS => ?_)
  refine lv_iload_n hx hb dX3_fails_5 rfl (lv_at hl 2 rfl) ?_
  exact zw_iret hx hb hr hlk hK hP hD hS dX3_fails_6 rfl rfl
set_option maxHeartbeats 4000000 in
set_option maxRecDepth 100000 in
theorem cm_isReel_1 {l : Launch} {dC : Nat → ClassId} {dI : Nat → Nat → Nat} {cA : Nat → ClassId} {ad : zw_R → Nat} {R : List zw_R} {nr : Nat} {len : Nat → Nat} {σ : sp_S} {cD : zw_R → va_E} (hM : zm_R R) (hI0 : σ (0, 0, 0) 0 = nI nr) (p0 : Int32) (h : sp_r nr p0) : zw_M l yX3_isReel wsX3_isReel { frames := 0, cells := 0, slots := 0, locals := 0 } (ze_E dC dI cA) [.ref (ad (20, 0, 0)), .int p0] ad R (ze_X cD (ze_M cA ad len σ)) (some (.int 1)) (ze_X cD (ze_M cA ad len σ)) := by
  refine zw_body (cc := cX3_isReel) (maxL := 2) (ret := (some .boolean)) (by decide) rfl (Nat.le_of_ble_eq_true rfl) ?_
  intro p e s m below meth c A ls hx hb hr hlk hml hts hown hnm hA hK hP hD hS hN hl
  have hl : lv_has ls 2 [(0, .ref (ad (20, 0, 0))), (1, .int p0)] := hl
  have hwX3 : ∀ w ∈ u_ws RX3 TX3 17, w ∈ wsX3_isReel := by decide +kernel
  refine lv_iload_n hx hb dX3_isReel_0 rfl (lv_at hl 1 rfl) ?_
  refine lv_if_lt (tgt := 16) hx hb dX3_isReel_1 (by decide) (fun c_1 => absurd c_1 (Int32.not_lt.mpr h.1)) (fun c_1 => ?_)
  refine lv_iload_n hx hb dX3_isReel_4 rfl (lv_at hl 1 rfl) ?_
  refine lv_aload_n hx hb dX3_isReel_5 rfl (lv_at hl 0 rfl) ?_
  refine zw_getf (r := (20, 0, 0)) (v := .int (σ (0, 0, 0) 0)) (C := RX3) (T := TX3) (N := 17) (ci := 3) hx hb hts hwX3 hown hK hP (hM 0 (by decide)) rfl rfl 0 (by decide) (hts (.fieldLink RX3 47 "FourTrackDeckModel" "reels" "I") (by decide +kernel)) (fun _ h9 => h9) rfl dX3_isReel_6 ?_
  refine lv_icmp_ge (tgt := 16) hx hb dX3_isReel_9 (by decide) (fun c_2 => absurd c_2 (by rw [hI0]; exact Int32.not_le.mpr h.2)) (fun c_2 => ?_)
  refine lv_iconst (v := 1) hx hb dX3_isReel_12 (by decide) ?_
  refine lv_goto (tgt := 17) hx hb dX3_isReel_13 (by decide) ?_
  exact zw_zret hx hb hr rfl hlk hK hP hD hS dX3_isReel_17 rfl rfl
set_option maxHeartbeats 4000000 in
set_option maxRecDepth 100000 in
theorem cm_isReel_0 {l : Launch} {dC : Nat → ClassId} {dI : Nat → Nat → Nat} {cA : Nat → ClassId} {ad : zw_R → Nat} {R : List zw_R} {nr : Nat} {len : Nat → Nat} {σ : sp_S} {cD : zw_R → va_E} (hM : zm_R R) (hI0 : σ (0, 0, 0) 0 = nI nr) (p0 : Int32) (h : ¬ sp_r nr p0) : zw_M l yX3_isReel wsX3_isReel { frames := 0, cells := 0, slots := 0, locals := 0 } (ze_E dC dI cA) [.ref (ad (20, 0, 0)), .int p0] ad R (ze_X cD (ze_M cA ad len σ)) (some (.int 0)) (ze_X cD (ze_M cA ad len σ)) := by
  refine zw_body (cc := cX3_isReel) (maxL := 2) (ret := (some .boolean)) (by decide) rfl (Nat.le_of_ble_eq_true rfl) ?_
  intro p e s m below meth c A ls hx hb hr hlk hml hts hown hnm hA hK hP hD hS hN hl
  have hl : lv_has ls 2 [(0, .ref (ad (20, 0, 0))), (1, .int p0)] := hl
  have hwX3 : ∀ w ∈ u_ws RX3 TX3 17, w ∈ wsX3_isReel := by decide +kernel
  refine lv_iload_n hx hb dX3_isReel_0 rfl (lv_at hl 1 rfl) ?_
  refine lv_if_lt (tgt := 16) hx hb dX3_isReel_1 (by decide) (fun c_1 => ?_) (fun c_1 => ?_)
  · refine lv_iconst (v := 0) hx hb dX3_isReel_16 (by decide) ?_
    exact zw_zret hx hb hr rfl hlk hK hP hD hS dX3_isReel_17 rfl rfl
  · refine lv_iload_n hx hb dX3_isReel_4 rfl (lv_at hl 1 rfl) ?_
    refine lv_aload_n hx hb dX3_isReel_5 rfl (lv_at hl 0 rfl) ?_
    refine zw_getf (r := (20, 0, 0)) (v := .int (σ (0, 0, 0) 0)) (C := RX3) (T := TX3) (N := 17) (ci := 3) hx hb hts hwX3 hown hK hP (hM 0 (by decide)) rfl rfl 0 (by decide) (hts (.fieldLink RX3 47 "FourTrackDeckModel" "reels" "I") (by decide +kernel)) (fun _ h9 => h9) rfl dX3_isReel_6 ?_
    refine lv_icmp_ge (tgt := 16) hx hb dX3_isReel_9 (by decide) (fun c_2 => ?_) (fun c_2 => ?_)
    · refine lv_iconst (v := 0) hx hb dX3_isReel_16 (by decide) ?_
      exact zw_zret hx hb hr rfl hlk hK hP hD hS dX3_isReel_17 rfl rfl
    · exact absurd ⟨Int32.not_lt.mp c_1, by rw [← hI0]; exact Int32.not_le.mp c_2⟩ h
set_option maxHeartbeats 4000000 in
set_option maxRecDepth 100000 in
theorem cm_isTrack_1 {l : Launch} {dC : Nat → ClassId} {dI : Nat → Nat → Nat} {cA : Nat → ClassId} {ad : zw_R → Nat} {R : List zw_R} {len : Nat → Nat} {σ : sp_S} {cD : zw_R → va_E} (p0 : Int32) (h : sp_t p0) : zw_M l yX3_isTrack wsX3_isTrack { frames := 0, cells := 0, slots := 0, locals := 0 } (ze_E dC dI cA) [.ref (ad (20, 0, 0)), .int p0] ad R (ze_X cD (ze_M cA ad len σ)) (some (.int 1)) (ze_X cD (ze_M cA ad len σ)) := by
  refine zw_body (cc := cX3_isTrack) (maxL := 2) (ret := (some .boolean)) (by decide) rfl (Nat.le_of_ble_eq_true rfl) ?_
  intro p e s m below meth c A ls hx hb hr hlk hml hts hown hnm hA hK hP hD hS hN hl
  have hl : lv_has ls 2 [(0, .ref (ad (20, 0, 0))), (1, .int p0)] := hl
  refine lv_iload_n hx hb dX3_isTrack_0 rfl (lv_at hl 1 rfl) ?_
  refine lv_if_lt (tgt := 13) hx hb dX3_isTrack_1 (by decide) (fun c_1 => absurd c_1 (Int32.not_lt.mpr h.1)) (fun c_1 => ?_)
  refine lv_iload_n hx hb dX3_isTrack_4 rfl (lv_at hl 1 rfl) ?_
  refine lv_iconst (v := 4) hx hb dX3_isTrack_5 (by decide) ?_
  refine lv_icmp_ge (tgt := 13) hx hb dX3_isTrack_6 (by decide) (fun c_2 => absurd c_2 (ze_t4 h)) (fun c_2 => ?_)
  refine lv_iconst (v := 1) hx hb dX3_isTrack_9 (by decide) ?_
  refine lv_goto (tgt := 14) hx hb dX3_isTrack_10 (by decide) ?_
  exact zw_zret hx hb hr rfl hlk hK hP hD hS dX3_isTrack_14 rfl rfl
set_option maxHeartbeats 4000000 in
set_option maxRecDepth 100000 in
theorem cm_isTrack_0 {l : Launch} {dC : Nat → ClassId} {dI : Nat → Nat → Nat} {cA : Nat → ClassId} {ad : zw_R → Nat} {R : List zw_R} {len : Nat → Nat} {σ : sp_S} {cD : zw_R → va_E} (p0 : Int32) (h : ¬ sp_t p0) : zw_M l yX3_isTrack wsX3_isTrack { frames := 0, cells := 0, slots := 0, locals := 0 } (ze_E dC dI cA) [.ref (ad (20, 0, 0)), .int p0] ad R (ze_X cD (ze_M cA ad len σ)) (some (.int 0)) (ze_X cD (ze_M cA ad len σ)) := by
  refine zw_body (cc := cX3_isTrack) (maxL := 2) (ret := (some .boolean)) (by decide) rfl (Nat.le_of_ble_eq_true rfl) ?_
  intro p e s m below meth c A ls hx hb hr hlk hml hts hown hnm hA hK hP hD hS hN hl
  have hl : lv_has ls 2 [(0, .ref (ad (20, 0, 0))), (1, .int p0)] := hl
  refine lv_iload_n hx hb dX3_isTrack_0 rfl (lv_at hl 1 rfl) ?_
  refine lv_if_lt (tgt := 13) hx hb dX3_isTrack_1 (by decide) (fun c_1 => ?_) (fun c_1 => ?_)
  · refine lv_iconst (v := 0) hx hb dX3_isTrack_13 (by decide) ?_
    exact zw_zret hx hb hr rfl hlk hK hP hD hS dX3_isTrack_14 rfl rfl
  · refine lv_iload_n hx hb dX3_isTrack_4 rfl (lv_at hl 1 rfl) ?_
    refine lv_iconst (v := 4) hx hb dX3_isTrack_5 (by decide) ?_
    refine lv_icmp_ge (tgt := 13) hx hb dX3_isTrack_6 (by decide) (fun c_2 => ?_) (fun c_2 => ?_)
    · refine lv_iconst (v := 0) hx hb dX3_isTrack_13 (by decide) ?_
      exact zw_zret hx hb hr rfl hlk hK hP hD hS dX3_isTrack_14 rfl rfl
    · exact absurd ⟨Int32.not_lt.mp c_1, ze_t3 c_2⟩ h
set_option maxHeartbeats 4000000 in
set_option maxRecDepth 100000 in
theorem cm_isThere_1 {l : Launch} {dC : Nat → ClassId} {dI : Nat → Nat → Nat} {cA : Nat → ClassId} {ad : zw_R → Nat} {R : List zw_R} {nr : Nat} {len : Nat → Nat} {σ : sp_S} {cD : zw_R → va_E} (hM : zm_R R) (hnr : nr ≤ 8) (p0 p1 : Int32) (hre : sp_r nr p0) (htr : sp_t p1) (h : ¬ σ (8, p0.toNatClampNeg, p1.toNatClampNeg) 1 = 0) : zw_M l yX3_isThere wsX3_isThere { frames := 0, cells := 0, slots := 0, locals := 0 } (ze_E dC dI cA) [.ref (ad (20, 0, 0)), .int p0, .int p1] ad R (ze_X cD (ze_M cA ad len σ)) (some (.int 1)) (ze_X cD (ze_M cA ad len σ)) := by
  refine zw_body (cc := cX3_isThere) (maxL := 3) (ret := (some .boolean)) (by decide) rfl (Nat.le_of_ble_eq_true rfl) ?_
  intro p e s m below meth c A ls hx hb hr hlk hml hts hown hnm hA hK hP hD hS hN hl
  have hl : lv_has ls 3 [(0, .ref (ad (20, 0, 0))), (1, .int p0), (2, .int p1)] := hl
  have hwX3 : ∀ w ∈ u_ws RX3 TX3 17, w ∈ wsX3_isThere := by decide +kernel
  refine lv_aload_n hx hb dX3_isThere_0 rfl (lv_at hl 0 rfl) ?_
  refine zw_getf (r := (20, 0, 0)) (v := .ref (ad (22, 0, 0))) (C := RX3) (T := TX3) (N := 17) (ci := 3) hx hb hts hwX3 hown hK hP (hM 0 (by decide)) rfl rfl 2 (by decide) (hts (.fieldLink RX3 13 "FourTrackDeckModel" "there" "[I") (by decide +kernel)) (fun _ h9 => h9) rfl dX3_isThere_1 ?_
  refine lv_iload_n hx hb dX3_isThere_4 rfl (lv_at hl 1 rfl) ?_
  refine zw_iald (r := (22, 0, 0)) hx hb hK hP (hM 2 (by decide)) 0 rfl rfl (ze_r8 hre hnr).1 dX3_isThere_5 ?_
  refine lv_iload_n hx hb dX3_isThere_6 rfl (lv_at hl 2 rfl) ?_
  refine lv_ishr hx hb dX3_isThere_7 ?_
  refine lv_iconst (v := 1) hx hb dX3_isThere_8 (by decide) ?_
  refine lv_iand hx hb dX3_isThere_9 ?_
  refine lv_iconst (v := 1) hx hb dX3_isThere_10 (by decide) ?_
  refine lv_icmp_ne (tgt := 18) hx hb dX3_isThere_11 (by decide) (fun c_1 => absurd (zm_b1 htr h) c_1) (fun c_1 => ?_)
  refine lv_iconst (v := 1) hx hb dX3_isThere_14 (by decide) ?_
  refine lv_goto (tgt := 19) hx hb dX3_isThere_15 (by decide) ?_
  exact zw_zret hx hb hr rfl hlk hK hP hD hS dX3_isThere_19 rfl rfl
set_option maxHeartbeats 4000000 in
set_option maxRecDepth 100000 in
theorem cm_isThere_0 {l : Launch} {dC : Nat → ClassId} {dI : Nat → Nat → Nat} {cA : Nat → ClassId} {ad : zw_R → Nat} {R : List zw_R} {nr : Nat} {len : Nat → Nat} {σ : sp_S} {cD : zw_R → va_E} (hM : zm_R R) (hnr : nr ≤ 8) (p0 p1 : Int32) (hre : sp_r nr p0) (htr : sp_t p1) (h : σ (8, p0.toNatClampNeg, p1.toNatClampNeg) 1 = 0) : zw_M l yX3_isThere wsX3_isThere { frames := 0, cells := 0, slots := 0, locals := 0 } (ze_E dC dI cA) [.ref (ad (20, 0, 0)), .int p0, .int p1] ad R (ze_X cD (ze_M cA ad len σ)) (some (.int 0)) (ze_X cD (ze_M cA ad len σ)) := by
  refine zw_body (cc := cX3_isThere) (maxL := 3) (ret := (some .boolean)) (by decide) rfl (Nat.le_of_ble_eq_true rfl) ?_
  intro p e s m below meth c A ls hx hb hr hlk hml hts hown hnm hA hK hP hD hS hN hl
  have hl : lv_has ls 3 [(0, .ref (ad (20, 0, 0))), (1, .int p0), (2, .int p1)] := hl
  have hwX3 : ∀ w ∈ u_ws RX3 TX3 17, w ∈ wsX3_isThere := by decide +kernel
  refine lv_aload_n hx hb dX3_isThere_0 rfl (lv_at hl 0 rfl) ?_
  refine zw_getf (r := (20, 0, 0)) (v := .ref (ad (22, 0, 0))) (C := RX3) (T := TX3) (N := 17) (ci := 3) hx hb hts hwX3 hown hK hP (hM 0 (by decide)) rfl rfl 2 (by decide) (hts (.fieldLink RX3 13 "FourTrackDeckModel" "there" "[I") (by decide +kernel)) (fun _ h9 => h9) rfl dX3_isThere_1 ?_
  refine lv_iload_n hx hb dX3_isThere_4 rfl (lv_at hl 1 rfl) ?_
  refine zw_iald (r := (22, 0, 0)) hx hb hK hP (hM 2 (by decide)) 0 rfl rfl (ze_r8 hre hnr).1 dX3_isThere_5 ?_
  refine lv_iload_n hx hb dX3_isThere_6 rfl (lv_at hl 2 rfl) ?_
  refine lv_ishr hx hb dX3_isThere_7 ?_
  refine lv_iconst (v := 1) hx hb dX3_isThere_8 (by decide) ?_
  refine lv_iand hx hb dX3_isThere_9 ?_
  refine lv_iconst (v := 1) hx hb dX3_isThere_10 (by decide) ?_
  refine lv_icmp_ne (tgt := 18) hx hb dX3_isThere_11 (by decide) (fun c_1 => ?_) (fun c_1 => absurd c_1 (zm_b0 htr h))
  refine lv_iconst (v := 0) hx hb dX3_isThere_18 (by decide) ?_
  exact zw_zret hx hb hr rfl hlk hK hP hD hS dX3_isThere_19 rfl rfl
set_option maxHeartbeats 4000000 in
set_option maxRecDepth 100000 in
theorem cm_at {l : Launch} {dC : Nat → ClassId} {dI : Nat → Nat → Nat} {cA : Nat → ClassId} {ad : zw_R → Nat} {R : List zw_R} {len : Nat → Nat} {σ : sp_S} {cD : zw_R → va_E} (p0 p1 p2 : Int32) : zw_M l yX3_at wsX3_at { frames := 0, cells := 0, slots := 0, locals := 0 } (ze_E dC dI cA) [.ref (ad (20, 0, 0)), .int p0, .int p1, .int p2] ad R (ze_X cD (ze_M cA ad len σ)) (some (.int ((4 * p0 + p1) * 64 + p2))) (ze_X cD (ze_M cA ad len σ)) := by
  refine zw_body (cc := cX3_at) (maxL := 4) (ret := (some .int)) (by decide) rfl (Nat.le_of_ble_eq_true rfl) ?_
  intro p e s m below meth c A ls hx hb hr hlk hml hts hown hnm hA hK hP hD hS hN hl
  have hl : lv_has ls 4 [(0, .ref (ad (20, 0, 0))), (1, .int p0), (2, .int p1), (3, .int p2)] := hl
  refine lv_iconst (v := 4) hx hb dX3_at_0 (by decide) ?_
  refine lv_iload_n hx hb dX3_at_1 rfl (lv_at hl 1 rfl) ?_
  refine lv_imul hx hb dX3_at_2 ?_
  refine lv_iload_n hx hb dX3_at_3 rfl (lv_at hl 2 rfl) ?_
  refine lv_iadd hx hb dX3_at_4 ?_
  refine lv_bipush (v := 64) hx hb dX3_at_5 (by decide) ?_
  refine lv_imul hx hb dX3_at_7 ?_
  refine lv_iload_n hx hb dX3_at_8 rfl (lv_at hl 3 rfl) ?_
  refine lv_iadd hx hb dX3_at_9 ?_
  exact zw_iret hx hb hr hlk hK hP hD hS dX3_at_10 rfl rfl
set_option maxHeartbeats 4000000 in
set_option maxRecDepth 100000 in
theorem cm_fault {l : Launch} {dC : Nat → ClassId} {dI : Nat → Nat → Nat} {cA : Nat → ClassId} {ad : zw_R → Nat} {R : List zw_R} {nr : Nat} {len : Nat → Nat} {σ : sp_S} {cD : zw_R → va_E} (hM : zm_R R) (hnr : nr ≤ 8) (p0 p1 p2 : Int32) (hre : sp_r nr p0) (htr : sp_t p1) : zw_M l yX3_fault wsX3_fault { frames := 1, cells := 0, slots := 0, locals := 22 } (ze_E dC dI cA) [.ref (ad (20, 0, 0)), .int p0, .int p1, .int p2] ad R (ze_X cD (ze_M cA ad len σ)) (some (.int (sp_f len σ p0.toNatClampNeg p1.toNatClampNeg p2))) (ze_X cD (ze_M cA ad len σ)) := by
  refine zw_body (cc := cX3_fault) (maxL := 4) (ret := (some .int)) (by decide) rfl (Nat.le_of_ble_eq_true rfl) ?_
  intro p e s m below meth c A ls hx hb hr hlk hml hts hown hnm hA hK hP hD hS hN hl
  have hl : lv_has ls 4 [(0, .ref (ad (20, 0, 0))), (1, .int p0), (2, .int p1), (3, .int p2)] := hl
  have hwX3 : ∀ w ∈ u_ws RX3 TX3 17, w ∈ wsX3_fault := by decide +kernel
  refine lv_aload_n hx hb dX3_fault_0 rfl (lv_at hl 0 rfl) ?_
  refine lv_iload_n hx hb dX3_fault_1 rfl (lv_at hl 1 rfl) ?_
  refine lv_iload_n hx hb dX3_fault_2 rfl (lv_at hl 2 rfl) ?_
  rcases Decidable.em (σ (8, p0.toNatClampNeg, p1.toNatClampNeg) 1 = 0) with h_1 | h_1
  · refine zw_cV (r := (20, 0, 0)) (As := [.int p0, .int p1]) (rest := []) (st1 := [.int 0]) ⟨hx, hb, hml, hown, hts⟩ (cm_isThere_0 (σ := σ) hM hnr p0 p1 hre htr h_1) (cwV 2 hts gX3_fault_X3_isThere rfl rfl rfl (by decide +kernel) ⟨Nat.le_of_ble_eq_true rfl, Nat.le_of_ble_eq_true rfl⟩) (hM 0 (by decide)) rfl rfl rfl hK hP hD hS hA hN rfl hl.1 rfl (Nat.le_of_ble_eq_true rfl) rfl dX3_fault_3 ⟨Nat.zero_le _, Nat.zero_le _⟩ (fun H locs hP hD hS => ?_)
    refine lv_if_ne (tgt := 11) hx hb dX3_fault_6 (by decide) (fun c_2 => absurd (by decide) c_2) (fun c_2 => ?_)
    refine lv_iconst (v := 2) hx hb dX3_fault_9 (by decide) ?_
    exact zw_iret hx hb hr hlk hK hP hD hS dX3_fault_10 (by unfold sp_f; rw [if_pos h_1]) rfl
  · refine zw_cV (r := (20, 0, 0)) (As := [.int p0, .int p1]) (rest := []) (st1 := [.int 1]) ⟨hx, hb, hml, hown, hts⟩ (cm_isThere_1 (σ := σ) hM hnr p0 p1 hre htr h_1) (cwV 2 hts gX3_fault_X3_isThere rfl rfl rfl (by decide +kernel) ⟨Nat.le_of_ble_eq_true rfl, Nat.le_of_ble_eq_true rfl⟩) (hM 0 (by decide)) rfl rfl rfl hK hP hD hS hA hN rfl hl.1 rfl (Nat.le_of_ble_eq_true rfl) rfl dX3_fault_3 ⟨Nat.zero_le _, Nat.zero_le _⟩ (fun H locs hP hD hS => ?_)
    refine lv_if_ne (tgt := 11) hx hb dX3_fault_6 (by decide) (fun c_3 => ?_) (fun c_3 => absurd c_3 (by decide))
    refine lv_iload_n hx hb dX3_fault_11 rfl (lv_at hl 3 rfl) ?_
    refine lv_if_lt (tgt := 25) hx hb dX3_fault_12 (by decide) (fun c_4 => ?_) (fun c_4 => ?_)
    · refine lv_iconst (v := 3) hx hb dX3_fault_25 (by decide) ?_
      refine lv_goto (tgt := 30) hx hb dX3_fault_26 (by decide) ?_
      exact zw_iret hx hb hr hlk hK hP hD hS dX3_fault_30 (by unfold sp_f; rw [if_neg h_1, if_neg (fun q => Int32.not_lt.mpr q.1 c_4)]) rfl
    · refine lv_iload_n hx hb dX3_fault_15 rfl (lv_at hl 3 rfl) ?_
      refine lv_aload_n hx hb dX3_fault_16 rfl (lv_at hl 0 rfl) ?_
      refine zw_getf (r := (20, 0, 0)) (v := .ref (ad (21, 0, 0))) (C := RX3) (T := TX3) (N := 17) (ci := 3) hx hb hts hwX3 hown hK hP (hM 0 (by decide)) rfl rfl 1 (by decide) (hts (.fieldLink RX3 7 "FourTrackDeckModel" "length" "[I") (by decide +kernel)) (fun _ h9 => h9) rfl dX3_fault_17 ?_
      refine lv_iload_n hx hb dX3_fault_20 rfl (lv_at hl 1 rfl) ?_
      refine zw_iald (r := (21, 0, 0)) hx hb hK hP (hM 1 (by decide)) 0 rfl rfl (ze_r8 hre hnr).1 dX3_fault_21 ?_
      refine lv_icmp_lt (tgt := 29) hx hb dX3_fault_22 (by decide) (fun c_5 => ?_) (fun c_5 => ?_)
      · refine lv_iconst (v := 0) hx hb dX3_fault_29 (by decide) ?_
        exact zw_iret hx hb hr hlk hK hP hD hS dX3_fault_30 (by unfold sp_f; rw [if_neg h_1, if_pos ⟨Int32.not_lt.mp c_4, c_5⟩]) rfl
      · refine lv_iconst (v := 3) hx hb dX3_fault_25 (by decide) ?_
        refine lv_goto (tgt := 30) hx hb dX3_fault_26 (by decide) ?_
        exact zw_iret hx hb hr hlk hK hP hD hS dX3_fault_30 (by unfold sp_f; rw [if_neg h_1, if_neg (fun q => c_5 q.2)]) rfl
set_option maxHeartbeats 4000000 in
set_option maxRecDepth 100000 in
theorem cm_fit {l : Launch} {dC : Nat → ClassId} {dI : Nat → Nat → Nat} {cA : Nat → ClassId} {ad : zw_R → Nat} {R : List zw_R} {len : Nat → Nat} {σ : sp_S} {cD : zw_R → va_E} (p0 p1 : Int32) (htr : sp_t p0) : zw_M l yX3_fit wsX3_fit { frames := 0, cells := 0, slots := 0, locals := 0 } (ze_E dC dI cA) [.ref (ad (20, 0, 0)), .int p0, .int p1] ad R (ze_X cD (ze_M cA ad len σ)) (some (.int (sp_as p0.toNatClampNeg p1))) (ze_X cD (ze_M cA ad len σ)) := by
  refine zw_body (cc := cX3_fit) (maxL := 3) (ret := (some .int)) (by decide) rfl (Nat.le_of_ble_eq_true rfl) ?_
  intro p e s m below meth c A ls hx hb hr hlk hml hts hown hnm hA hK hP hD hS hN hl
  have hl : lv_has ls 3 [(0, .ref (ad (20, 0, 0))), (1, .int p0), (2, .int p1)] := hl
  refine lv_iload_n hx hb dX3_fit_0 rfl (lv_at hl 1 rfl) ?_
  refine lv_if_ne (tgt := 9) hx hb dX3_fit_1 (by decide) (fun c_1 => ?_) (fun c_1 => ?_)
  · refine lv_iload_n hx hb dX3_fit_9 rfl (lv_at hl 1 rfl) ?_
    refine lv_iconst (v := 1) hx hb dX3_fit_10 (by decide) ?_
    refine lv_icmp_ne (tgt := 25) hx hb dX3_fit_11 (by decide) (fun c_2 => ?_) (fun c_2 => ?_)
    · refine lv_iload_n hx hb dX3_fit_25 rfl (lv_at hl 1 rfl) ?_
      refine lv_iconst (v := 2) hx hb dX3_fit_26 (by decide) ?_
      refine lv_icmp_ne (tgt := 56) hx hb dX3_fit_27 (by decide) (fun c_3 => ?_) (fun c_3 => ?_)
      · refine lv_iload_n hx hb dX3_fit_56 rfl (lv_at hl 2 rfl) ?_
        refine lv_iconst (v := 1) hx hb dX3_fit_57 (by decide) ?_
        refine lv_iand hx hb dX3_fit_58 ?_
        exact zw_iret hx hb hr hlk hK hP hD hS dX3_fit_59 (by rw [ze_t9 htr c_1 c_2 c_3]; rfl) rfl
      · refine lv_iload_n hx hb dX3_fit_30 rfl (lv_at hl 2 rfl) ?_
        refine lv_sipush (v := (-32768)) hx hb dX3_fit_31 (by decide) ?_
        refine lv_icmp_ge (tgt := 43) hx hb dX3_fit_34 (by decide) (fun c_4 => ?_) (fun c_4 => ?_)
        · refine lv_iload_n hx hb dX3_fit_43 rfl (lv_at hl 2 rfl) ?_
          refine lv_ldc (v := 32768) hx hb hown (hts (.constant RX3 55 32768) (by decide +kernel)) dX3_fit_44 ?_
          refine lv_icmp_le (tgt := 54) hx hb dX3_fit_46 (by decide) (fun c_5 => ?_) (fun c_5 => ?_)
          · refine lv_iload_n hx hb dX3_fit_54 rfl (lv_at hl 2 rfl) ?_
            exact zw_iret hx hb hr hlk hK hP hD hS dX3_fit_55 (by rw [c_3]; exact congrArg (fun z => some (Value.int z)) ((zm_lev p1).symm.trans (by rw [if_neg (Int32.not_lt.mpr c_4), if_neg (Int32.not_lt.mpr c_5)]))) rfl
          · refine lv_ldc (v := 32768) hx hb hown (hts (.constant RX3 55 32768) (by decide +kernel)) dX3_fit_49 ?_
            refine lv_goto (tgt := 55) hx hb dX3_fit_51 (by decide) ?_
            exact zw_iret hx hb hr hlk hK hP hD hS dX3_fit_55 (by rw [c_3]; exact congrArg (fun z => some (Value.int z)) ((zm_lev p1).symm.trans (by rw [if_neg (Int32.not_lt.mpr c_4), if_pos (Int32.not_le.mp c_5)]))) rfl
        · refine lv_sipush (v := (-32768)) hx hb dX3_fit_37 (by decide) ?_
          refine lv_goto (tgt := 55) hx hb dX3_fit_40 (by decide) ?_
          exact zw_iret hx hb hr hlk hK hP hD hS dX3_fit_55 (by rw [c_3]; exact congrArg (fun z => some (Value.int z)) ((zm_lev p1).symm.trans (by rw [if_pos (Int32.not_le.mp c_4)]))) rfl
    · refine lv_iload_n hx hb dX3_fit_14 rfl (lv_at hl 2 rfl) ?_
      refine lv_ldc (v := 65535) hx hb hown (hts (.constant RX3 54 65535) (by decide +kernel)) dX3_fit_15 ?_
      refine lv_iand hx hb dX3_fit_17 ?_
      refine lv_ldc (v := 32768) hx hb hown (hts (.constant RX3 55 32768) (by decide +kernel)) dX3_fit_18 ?_
      refine lv_ixor hx hb dX3_fit_20 ?_
      refine lv_ldc (v := 32768) hx hb hown (hts (.constant RX3 55 32768) (by decide +kernel)) dX3_fit_21 ?_
      refine lv_isub hx hb dX3_fit_23 ?_
      exact zw_iret hx hb hr hlk hK hP hD hS dX3_fit_24 (by rw [c_2]; exact congrArg (fun z => some (Value.int z)) (zm_short p1).symm) rfl
  · refine lv_iload_n hx hb dX3_fit_4 rfl (lv_at hl 2 rfl) ?_
    refine lv_ldc (v := 65535) hx hb hown (hts (.constant RX3 54 65535) (by decide +kernel)) dX3_fit_5 ?_
    refine lv_iand hx hb dX3_fit_7 ?_
    exact zw_iret hx hb hr hlk hK hP hD hS dX3_fit_8 (by rw [c_1]; rfl) rfl
set_option maxHeartbeats 4000000 in
set_option maxRecDepth 100000 in
theorem cm_place {l : Launch} {dC : Nat → ClassId} {dI : Nat → Nat → Nat} {cA : Nat → ClassId} {ad : zw_R → Nat} {R : List zw_R} {len : Nat → Nat} {σ : sp_S} {cD : zw_R → va_E} (hM : zm_R R) (p0 : Int32) (htr : sp_t p0) : zw_M l yX3_place wsX3_place { frames := 0, cells := 0, slots := 0, locals := 0 } (ze_E dC dI cA) [.ref (ad (20, 0, 0)), .int p0] ad R (ze_X cD (ze_M cA ad len σ)) (some (.int (σ (0, 0, 0) 2 + σ (2, 0, 0) p0.toNatClampNeg))) (ze_X cD (ze_M cA ad len σ)) := by
  refine zw_body (cc := cX3_place) (maxL := 2) (ret := (some .int)) (by decide) rfl (Nat.le_of_ble_eq_true rfl) ?_
  intro p e s m below meth c A ls hx hb hr hlk hml hts hown hnm hA hK hP hD hS hN hl
  have hl : lv_has ls 2 [(0, .ref (ad (20, 0, 0))), (1, .int p0)] := hl
  have hwX3 : ∀ w ∈ u_ws RX3 TX3 17, w ∈ wsX3_place := by decide +kernel
  refine lv_aload_n hx hb dX3_place_0 rfl (lv_at hl 0 rfl) ?_
  refine zw_getf (r := (20, 0, 0)) (v := .int (σ (0, 0, 0) 2)) (C := RX3) (T := TX3) (N := 17) (ci := 3) hx hb hts hwX3 hown hK hP (hM 0 (by decide)) rfl rfl 5 (by decide) (hts (.fieldLink RX3 56 "FourTrackDeckModel" "p" "I") (by decide +kernel)) (fun _ h9 => h9) rfl dX3_place_1 ?_
  refine lv_aload_n hx hb dX3_place_4 rfl (lv_at hl 0 rfl) ?_
  refine zw_getf (r := (20, 0, 0)) (v := .ref (ad (24, 0, 0))) (C := RX3) (T := TX3) (N := 17) (ci := 3) hx hb hts hwX3 hown hK hP (hM 0 (by decide)) rfl rfl 6 (by decide) (hts (.fieldLink RX3 23 "FourTrackDeckModel" "offset" "[I") (by decide +kernel)) (fun _ h9 => h9) rfl dX3_place_5 ?_
  refine lv_iload_n hx hb dX3_place_8 rfl (lv_at hl 1 rfl) ?_
  refine zw_iald (r := (24, 0, 0)) hx hb hK hP (hM 4 (by decide)) 0 rfl rfl (ze_ti htr) dX3_place_9 ?_
  refine lv_iadd hx hb dX3_place_10 ?_
  exact zw_iret hx hb hr hlk hK hP hD hS dX3_place_11 rfl rfl
set_option maxHeartbeats 4000000 in
set_option maxRecDepth 100000 in
theorem cm_headFault_v {l : Launch} {dC : Nat → ClassId} {dI : Nat → Nat → Nat} {cA : Nat → ClassId} {ad : zw_R → Nat} {R : List zw_R} {nr : Nat} {len : Nat → Nat} {σ : sp_S} {cD : zw_R → va_E} (hM : zm_R R) (hnr : nr ≤ 8) (p0 : Int32) (h : sp_v nr (σ (0, 0, 0) 1) p0) : zw_M l yX3_headFault wsX3_headFault { frames := 2, cells := 0, slots := 0, locals := 45 } (ze_E dC dI cA) [.ref (ad (20, 0, 0)), .int p0] ad R (ze_X cD (ze_M cA ad len σ)) (some (.int (sp_f len σ (σ (0, 0, 0) 1).toNatClampNeg p0.toNatClampNeg (σ (0, 0, 0) 2 + σ (2, 0, 0) p0.toNatClampNeg)))) (ze_X cD (ze_M cA ad len σ)) := by
  refine zw_body (cc := cX3_headFault) (maxL := 2) (ret := (some .int)) (by decide) rfl (Nat.le_of_ble_eq_true rfl) ?_
  intro p e s m below meth c A ls hx hb hr hlk hml hts hown hnm hA hK hP hD hS hN hl
  have hl : lv_has ls 2 [(0, .ref (ad (20, 0, 0))), (1, .int p0)] := hl
  have hwX3 : ∀ w ∈ u_ws RX3 TX3 17, w ∈ wsX3_headFault := by decide +kernel
  refine lv_aload_n hx hb dX3_headFault_0 rfl (lv_at hl 0 rfl) ?_
  refine lv_iload_n hx hb dX3_headFault_1 rfl (lv_at hl 1 rfl) ?_
  refine zw_cV (r := (20, 0, 0)) (As := [.int p0]) (rest := []) (st1 := [.int 1]) ⟨hx, hb, hml, hown, hts⟩ (cm_isTrack_1 p0 h.2) (cwV 1 hts gX3_headFault_X3_isTrack rfl rfl rfl (by decide +kernel) ⟨Nat.le_of_ble_eq_true rfl, Nat.le_of_ble_eq_true rfl⟩) (hM 0 (by decide)) rfl rfl rfl hK hP hD hS hA hN rfl hl.1 rfl (Nat.le_of_ble_eq_true rfl) rfl dX3_headFault_2 ⟨Nat.zero_le _, Nat.zero_le _⟩ (fun H locs hP hD hS => ?_)
  refine lv_if_ne (tgt := 10) hx hb dX3_headFault_5 (by decide) (fun c_1 => ?_) (fun c_1 => absurd c_1 (by decide))
  refine lv_aload_n hx hb dX3_headFault_10 rfl (lv_at hl 0 rfl) ?_
  refine zw_getf (r := (20, 0, 0)) (v := .int (σ (0, 0, 0) 1)) (C := RX3) (T := TX3) (N := 17) (ci := 3) hx hb hts hwX3 hown hK hP (hM 0 (by decide)) rfl rfl 4 (by decide) (hts (.fieldLink RX3 19 "FourTrackDeckModel" "onDeck" "I") (by decide +kernel)) (fun _ h9 => h9) rfl dX3_headFault_11 ?_
  refine lv_iconst (v := (-1)) hx hb dX3_headFault_14 (by decide) ?_
  refine lv_icmp_ne (tgt := 22) hx hb dX3_headFault_15 (by decide) (fun c_2 => ?_) (fun c_2 => absurd c_2 (ze_rn h.1))
  refine lv_aload_n hx hb dX3_headFault_22 rfl (lv_at hl 0 rfl) ?_
  refine lv_aload_n hx hb dX3_headFault_23 rfl (lv_at hl 0 rfl) ?_
  refine zw_getf (r := (20, 0, 0)) (v := .int (σ (0, 0, 0) 1)) (C := RX3) (T := TX3) (N := 17) (ci := 3) hx hb hts hwX3 hown hK hP (hM 0 (by decide)) rfl rfl 4 (by decide) (hts (.fieldLink RX3 19 "FourTrackDeckModel" "onDeck" "I") (by decide +kernel)) (fun _ h9 => h9) rfl dX3_headFault_24 ?_
  refine lv_iload_n hx hb dX3_headFault_27 rfl (lv_at hl 1 rfl) ?_
  refine lv_aload_n hx hb dX3_headFault_28 rfl (lv_at hl 0 rfl) ?_
  refine lv_iload_n hx hb dX3_headFault_29 rfl (lv_at hl 1 rfl) ?_
  refine zw_cV (r := (20, 0, 0)) (As := [.int p0]) (rest := [.int p0, .int (σ (0, 0, 0) 1), .ref (ad (20, 0, 0))]) (st1 := [.int (σ (0, 0, 0) 2 + σ (2, 0, 0) p0.toNatClampNeg), .int p0, .int (σ (0, 0, 0) 1), .ref (ad (20, 0, 0))]) ⟨hx, hb, hml, hown, hts⟩ (cm_place (σ := σ) hM p0 h.2) (cwV 1 hts gX3_headFault_X3_place rfl rfl rfl (by decide +kernel) ⟨Nat.le_of_ble_eq_true rfl, Nat.le_of_ble_eq_true rfl⟩) (hM 0 (by decide)) rfl rfl rfl hK hP hD hS hA hN rfl hl.1 rfl (Nat.le_of_ble_eq_true rfl) rfl dX3_headFault_30 ⟨Nat.zero_le _, Nat.zero_le _⟩ (fun H locs hP hD hS => ?_)
  refine zw_cV (r := (20, 0, 0)) (As := [.int (σ (0, 0, 0) 1), .int p0, .int (σ (0, 0, 0) 2 + σ (2, 0, 0) p0.toNatClampNeg)]) (rest := []) (st1 := [.int (sp_f len σ (σ (0, 0, 0) 1).toNatClampNeg p0.toNatClampNeg (σ (0, 0, 0) 2 + σ (2, 0, 0) p0.toNatClampNeg))]) ⟨hx, hb, hml, hown, hts⟩ (cm_fault (σ := σ) hM hnr (σ (0, 0, 0) 1) p0 (σ (0, 0, 0) 2 + σ (2, 0, 0) p0.toNatClampNeg) h.1 h.2) (cwV 3 hts gX3_headFault_X3_fault rfl rfl rfl (by decide +kernel) ⟨Nat.le_of_ble_eq_true rfl, Nat.le_of_ble_eq_true rfl⟩) (hM 0 (by decide)) rfl rfl rfl hK hP hD hS hA hN rfl hl.1 rfl (Nat.le_of_ble_eq_true rfl) rfl dX3_headFault_33 ⟨Nat.zero_le _, Nat.zero_le _⟩ (fun H locs hP hD hS => ?_)
  exact zw_iret hx hb hr hlk hK hP hD hS dX3_headFault_36 rfl rfl
set_option maxHeartbeats 4000000 in
set_option maxRecDepth 100000 in
theorem cm_headFault_5 {l : Launch} {dC : Nat → ClassId} {dI : Nat → Nat → Nat} {cA : Nat → ClassId} {ad : zw_R → Nat} {R : List zw_R} {len : Nat → Nat} {σ : sp_S} {cD : zw_R → va_E} (hM : zm_R R) (p0 : Int32) (h : sp_t p0) (h1 : σ (0, 0, 0) 1 = -1) : zw_M l yX3_headFault wsX3_headFault { frames := 2, cells := 0, slots := 0, locals := 45 } (ze_E dC dI cA) [.ref (ad (20, 0, 0)), .int p0] ad R (ze_X cD (ze_M cA ad len σ)) (some (.int 5)) (ze_X cD (ze_M cA ad len σ)) := by
  refine zw_body (cc := cX3_headFault) (maxL := 2) (ret := (some .int)) (by decide) rfl (Nat.le_of_ble_eq_true rfl) ?_
  intro p e s m below meth c A ls hx hb hr hlk hml hts hown hnm hA hK hP hD hS hN hl
  have hl : lv_has ls 2 [(0, .ref (ad (20, 0, 0))), (1, .int p0)] := hl
  have hwX3 : ∀ w ∈ u_ws RX3 TX3 17, w ∈ wsX3_headFault := by decide +kernel
  refine lv_aload_n hx hb dX3_headFault_0 rfl (lv_at hl 0 rfl) ?_
  refine lv_iload_n hx hb dX3_headFault_1 rfl (lv_at hl 1 rfl) ?_
  refine zw_cV (r := (20, 0, 0)) (As := [.int p0]) (rest := []) (st1 := [.int 1]) ⟨hx, hb, hml, hown, hts⟩ (cm_isTrack_1 p0 h) (cwV 1 hts gX3_headFault_X3_isTrack rfl rfl rfl (by decide +kernel) ⟨Nat.le_of_ble_eq_true rfl, Nat.le_of_ble_eq_true rfl⟩) (hM 0 (by decide)) rfl rfl rfl hK hP hD hS hA hN rfl hl.1 rfl (Nat.le_of_ble_eq_true rfl) rfl dX3_headFault_2 ⟨Nat.zero_le _, Nat.zero_le _⟩ (fun H locs hP hD hS => ?_)
  refine lv_if_ne (tgt := 10) hx hb dX3_headFault_5 (by decide) (fun c_1 => ?_) (fun c_1 => absurd c_1 (by decide))
  refine lv_aload_n hx hb dX3_headFault_10 rfl (lv_at hl 0 rfl) ?_
  refine zw_getf (r := (20, 0, 0)) (v := .int (σ (0, 0, 0) 1)) (C := RX3) (T := TX3) (N := 17) (ci := 3) hx hb hts hwX3 hown hK hP (hM 0 (by decide)) rfl rfl 4 (by decide) (hts (.fieldLink RX3 19 "FourTrackDeckModel" "onDeck" "I") (by decide +kernel)) (fun _ h9 => h9) rfl dX3_headFault_11 ?_
  refine lv_iconst (v := (-1)) hx hb dX3_headFault_14 (by decide) ?_
  refine lv_icmp_ne (tgt := 22) hx hb dX3_headFault_15 (by decide) (fun c_2 => absurd h1 c_2) (fun c_2 => ?_)
  refine lv_iconst (v := 5) hx hb dX3_headFault_18 (by decide) ?_
  refine lv_goto (tgt := 36) hx hb dX3_headFault_19 (by decide) ?_
  exact zw_iret hx hb hr hlk hK hP hD hS dX3_headFault_36 rfl rfl
set_option maxHeartbeats 4000000 in
set_option maxRecDepth 100000 in
theorem cm_headFault_1 {l : Launch} {dC : Nat → ClassId} {dI : Nat → Nat → Nat} {cA : Nat → ClassId} {ad : zw_R → Nat} {R : List zw_R} {len : Nat → Nat} {σ : sp_S} {cD : zw_R → va_E} (hM : zm_R R) (p0 : Int32) (h : ¬ sp_t p0) : zw_M l yX3_headFault wsX3_headFault { frames := 2, cells := 0, slots := 0, locals := 45 } (ze_E dC dI cA) [.ref (ad (20, 0, 0)), .int p0] ad R (ze_X cD (ze_M cA ad len σ)) (some (.int 1)) (ze_X cD (ze_M cA ad len σ)) := by
  refine zw_body (cc := cX3_headFault) (maxL := 2) (ret := (some .int)) (by decide) rfl (Nat.le_of_ble_eq_true rfl) ?_
  intro p e s m below meth c A ls hx hb hr hlk hml hts hown hnm hA hK hP hD hS hN hl
  have hl : lv_has ls 2 [(0, .ref (ad (20, 0, 0))), (1, .int p0)] := hl
  refine lv_aload_n hx hb dX3_headFault_0 rfl (lv_at hl 0 rfl) ?_
  refine lv_iload_n hx hb dX3_headFault_1 rfl (lv_at hl 1 rfl) ?_
  refine zw_cV (r := (20, 0, 0)) (As := [.int p0]) (rest := []) (st1 := [.int 0]) ⟨hx, hb, hml, hown, hts⟩ (cm_isTrack_0 p0 h) (cwV 1 hts gX3_headFault_X3_isTrack rfl rfl rfl (by decide +kernel) ⟨Nat.le_of_ble_eq_true rfl, Nat.le_of_ble_eq_true rfl⟩) (hM 0 (by decide)) rfl rfl rfl hK hP hD hS hA hN rfl hl.1 rfl (Nat.le_of_ble_eq_true rfl) rfl dX3_headFault_2 ⟨Nat.zero_le _, Nat.zero_le _⟩ (fun H locs hP hD hS => ?_)
  refine lv_if_ne (tgt := 10) hx hb dX3_headFault_5 (by decide) (fun c_1 => absurd (by decide) c_1) (fun c_1 => ?_)
  refine lv_iconst (v := 1) hx hb dX3_headFault_8 (by decide) ?_
  exact zw_iret hx hb hr hlk hK hP hD hS dX3_headFault_9 rfl rfl
