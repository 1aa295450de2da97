set_option maxHeartbeats 4000000 in
set_option maxRecDepth 100000 in
/-- the call dub -/
theorem lw_c11 {p : Program} {l : Launch} {e : Env} {s : State} {m : MethodId} {below : List Frame} {meth : Method} {c : Code} {b L : Nat} {xs : Nat → Int32} {dC : Nat → ClassId} {dI : Nat → Nat → Nat} {cA : Nat → ClassId} {x3 : Int32} {j cells slots : Nat} {H : Heap} {locs : List Loc} {ls : Array Slot} (C : lw_Cx p s m c b L xs dC dI cA) (h3 : x3 = nI j) (hj : j + 7 ≤ L) (hc : cells + 10 ≤ 600000 ∧ slots + 273 ≤ 7302250) (hO : lw_Ok dC dI cA b s ls x3 H locs) (kk : ∀ (H1 : Heap) (locs1 : List Loc), lw_Ok dC dI cA b s ls x3 H1 locs1 → W p l e room_1 s m #[Value.ref b] below meth c H1 locs1 (cells + 10) (slots + 273) (lw_Z below #[Value.ref b] s) (F0 m 787 ls [])) : W p l e room_1 s m #[Value.ref b] below meth c H locs cells slots (lw_Z below #[Value.ref b] s) (F0 m 455 ls []) := by
  obtain ⟨hx, hb, hml, hown, hts, hX, hbl, hK, hN, hL⟩ := C
  obtain ⟨ad, R, nr, len, σ, hR, hZ, hM, hI, hP, hD, hS, hl⟩ := hO
  have hA : ∀ q : Nat, s.heap.size ≤ q → (fun q : Nat => s.heap.size ≤ q) q := fun _ h => h
  have hbA : ¬ (fun q : Nat => s.heap.size ≤ q) b := Nat.not_le.mpr hbl
  have hc1 : cells ≤ room_1.cells ∧ slots ≤ room_1.slots := ⟨show cells ≤ 600000 by omega, show slots ≤ 7302250 by omega⟩
  have i1 : vp_in (x3 + 1) L := by rw [h3, show (1 : Int32) = nI 1 from rfl, nI_add]; exact vp_in_nI (by omega) (by omega)
  have i2 : vp_in (x3 + 2) L := by rw [h3, show (2 : Int32) = nI 2 from rfl, nI_add]; exact vp_in_nI (by omega) (by omega)
  have i3 : vp_in (x3 + 3) L := by rw [h3, show (3 : Int32) = nI 3 from rfl, nI_add]; exact vp_in_nI (by omega) (by omega)
  have i4 : vp_in (x3 + 4) L := by rw [h3, show (4 : Int32) = nI 4 from rfl, nI_add]; exact vp_in_nI (by omega) (by omega)
  have i5 : vp_in (x3 + 5) L := by rw [h3, show (5 : Int32) = nI 5 from rfl, nI_add]; exact vp_in_nI (by omega) (by omega)
  have i6 : vp_in (x3 + 6) L := by rw [h3, show (6 : Int32) = nI 6 from rfl, nI_add]; exact vp_in_nI (by omega) (by omega)
  refine lv_aload_n hx hb dL_law_455 rfl (lv_at hl 1 rfl) ?_
  refine lv_aload_n hx hb dL_law_456 rfl (lv_at hl 0 rfl) ?_
  refine lv_iload_n hx hb dL_law_457 rfl (lv_at hl 3 rfl) ?_
  refine lv_iconst (v := 1) hx hb dL_law_458 (by decide) ?_
  refine lv_iadd hx hb dL_law_459 ?_
  refine va_sld hx hb hX hbl hbA hS i1 dL_law_460 ?_
  refine lv_aload_n hx hb dL_law_461 rfl (lv_at hl 0 rfl) ?_
  refine lv_iload_n hx hb dL_law_462 rfl (lv_at hl 3 rfl) ?_
  refine lv_iconst (v := 2) hx hb dL_law_463 (by decide) ?_
  refine lv_iadd hx hb dL_law_464 ?_
  refine va_sld hx hb hX hbl hbA hS i2 dL_law_465 ?_
  refine lv_aload_n hx hb dL_law_466 rfl (lv_at hl 0 rfl) ?_
  refine lv_iload_n hx hb dL_law_467 rfl (lv_at hl 3 rfl) ?_
  refine lv_iconst (v := 3) hx hb dL_law_468 (by decide) ?_
  refine lv_iadd hx hb dL_law_469 ?_
  refine va_sld hx hb hX hbl hbA hS i3 dL_law_470 ?_
  refine lv_aload_n hx hb dL_law_471 rfl (lv_at hl 0 rfl) ?_
  refine lv_iload_n hx hb dL_law_472 rfl (lv_at hl 3 rfl) ?_
  refine lv_iconst (v := 4) hx hb dL_law_473 (by decide) ?_
  refine lv_iadd hx hb dL_law_474 ?_
  refine va_sld hx hb hX hbl hbA hS i4 dL_law_475 ?_
  refine lv_aload_n hx hb dL_law_476 rfl (lv_at hl 0 rfl) ?_
  refine lv_iload_n hx hb dL_law_477 rfl (lv_at hl 3 rfl) ?_
  refine lv_iconst (v := 5) hx hb dL_law_478 (by decide) ?_
  refine lv_iadd hx hb dL_law_479 ?_
  refine va_sld hx hb hX hbl hbA hS i5 dL_law_480 ?_
  refine lv_aload_n hx hb dL_law_481 rfl (lv_at hl 0 rfl) ?_
  refine lv_iload_n hx hb dL_law_482 rfl (lv_at hl 3 rfl) ?_
  refine lv_bipush (v := 6) hx hb dL_law_483 (by decide) ?_
  refine lv_iadd hx hb dL_law_485 ?_
  refine va_sld hx hb hX hbl hbA hS i6 dL_law_486 ?_
  refine zw_cV (r := (0, 0, 0)) (As := [.int (xs (x3 + 1).toNatClampNeg), .int (xs (x3 + 2).toNatClampNeg), .int (xs (x3 + 3).toNatClampNeg), .int (xs (x3 + 4).toNatClampNeg), .int (xs (x3 + 5).toNatClampNeg), .int (xs (x3 + 6).toNatClampNeg)]) (rest := []) (st1 := [.int (sp_dub nr len σ (xs (x3 + 1).toNatClampNeg) (xs (x3 + 2).toNatClampNeg) (xs (x3 + 3).toNatClampNeg) (xs (x3 + 4).toNatClampNeg) (xs (x3 + 5).toNatClampNeg) (xs (x3 + 6).toNatClampNeg)).1]) ⟨hx, hb, hml, hown, hts⟩ (cd_dub (σ := σ) hR hI.1 hI.2.2.2.2.1 (xs (x3 + 1).toNatClampNeg) (xs (x3 + 2).toNatClampNeg) (xs (x3 + 3).toNatClampNeg) (xs (x3 + 4).toNatClampNeg) (xs (x3 + 5).toNatClampNeg) (xs (x3 + 6).toNatClampNeg)) (cwV 6 hts gL_law_X2_dub rfl rfl rfl (by decide +kernel) ⟨Nat.le_of_ble_eq_true rfl, Nat.le_of_ble_eq_true rfl⟩) (hR.1 0 (by decide)) rfl rfl rfl hK hP hD hS hA hN rfl hl.1 rfl (Nat.le_of_ble_eq_true rfl) rfl dL_law_487 hc1 (fun H locs hP hD hS => ?_)
  refine lv_aload_n hx hb dL_law_490 rfl (lv_at hl 2 rfl) ?_
  refine lv_aload_n hx hb dL_law_491 rfl (lv_at hl 0 rfl) ?_
  refine lv_iload_n hx hb dL_law_492 rfl (lv_at hl 3 rfl) ?_
  refine lv_iconst (v := 1) hx hb dL_law_493 (by decide) ?_
  refine lv_iadd hx hb dL_law_494 ?_
  refine va_sld hx hb hX hbl hbA hS i1 dL_law_495 ?_
  refine lv_aload_n hx hb dL_law_496 rfl (lv_at hl 0 rfl) ?_
  refine lv_iload_n hx hb dL_law_497 rfl (lv_at hl 3 rfl) ?_
  refine lv_iconst (v := 2) hx hb dL_law_498 (by decide) ?_
  refine lv_iadd hx hb dL_law_499 ?_
  refine va_sld hx hb hX hbl hbA hS i2 dL_law_500 ?_
  refine lv_aload_n hx hb dL_law_501 rfl (lv_at hl 0 rfl) ?_
  refine lv_iload_n hx hb dL_law_502 rfl (lv_at hl 3 rfl) ?_
  refine lv_iconst (v := 3) hx hb dL_law_503 (by decide) ?_
  refine lv_iadd hx hb dL_law_504 ?_
  refine va_sld hx hb hX hbl hbA hS i3 dL_law_505 ?_
  refine lv_aload_n hx hb dL_law_506 rfl (lv_at hl 0 rfl) ?_
  refine lv_iload_n hx hb dL_law_507 rfl (lv_at hl 3 rfl) ?_
  refine lv_iconst (v := 4) hx hb dL_law_508 (by decide) ?_
  refine lv_iadd hx hb dL_law_509 ?_
  refine va_sld hx hb hX hbl hbA hS i4 dL_law_510 ?_
  refine lv_aload_n hx hb dL_law_511 rfl (lv_at hl 0 rfl) ?_
  refine lv_iload_n hx hb dL_law_512 rfl (lv_at hl 3 rfl) ?_
  refine lv_iconst (v := 5) hx hb dL_law_513 (by decide) ?_
  refine lv_iadd hx hb dL_law_514 ?_
  refine va_sld hx hb hX hbl hbA hS i5 dL_law_515 ?_
  refine lv_aload_n hx hb dL_law_516 rfl (lv_at hl 0 rfl) ?_
  refine lv_iload_n hx hb dL_law_517 rfl (lv_at hl 3 rfl) ?_
  refine lv_bipush (v := 6) hx hb dL_law_518 (by decide) ?_
  refine lv_iadd hx hb dL_law_520 ?_
  refine va_sld hx hb hX hbl hbA hS i6 dL_law_521 ?_
  refine zw_cV (r := (20, 0, 0)) (As := [.int (xs (x3 + 1).toNatClampNeg), .int (xs (x3 + 2).toNatClampNeg), .int (xs (x3 + 3).toNatClampNeg), .int (xs (x3 + 4).toNatClampNeg), .int (xs (x3 + 5).toNatClampNeg), .int (xs (x3 + 6).toNatClampNeg)]) (rest := [.int (sp_dub nr len σ (xs (x3 + 1).toNatClampNeg) (xs (x3 + 2).toNatClampNeg) (xs (x3 + 3).toNatClampNeg) (xs (x3 + 4).toNatClampNeg) (xs (x3 + 5).toNatClampNeg) (xs (x3 + 6).toNatClampNeg)).1]) (st1 := [.int (sp_dub nr len σ (xs (x3 + 1).toNatClampNeg) (xs (x3 + 2).toNatClampNeg) (xs (x3 + 3).toNatClampNeg) (xs (x3 + 4).toNatClampNeg) (xs (x3 + 5).toNatClampNeg) (xs (x3 + 6).toNatClampNeg)).1, .int (sp_dub nr len σ (xs (x3 + 1).toNatClampNeg) (xs (x3 + 2).toNatClampNeg) (xs (x3 + 3).toNatClampNeg) (xs (x3 + 4).toNatClampNeg) (xs (x3 + 5).toNatClampNeg) (xs (x3 + 6).toNatClampNeg)).1]) ⟨hx, hb, hml, hown, hts⟩ (cm_dub (σ := σ) hM hI.1 hI.2.2.2.2.1 hI.2.1 (xs (x3 + 1).toNatClampNeg) (xs (x3 + 2).toNatClampNeg) (xs (x3 + 3).toNatClampNeg) (xs (x3 + 4).toNatClampNeg) (xs (x3 + 5).toNatClampNeg) (xs (x3 + 6).toNatClampNeg)) (cwV 6 hts gL_law_X3_dub rfl rfl rfl (by decide +kernel) ⟨Nat.le_of_ble_eq_true rfl, Nat.le_of_ble_eq_true rfl⟩) (hM 0 (by decide)) rfl rfl rfl hK hP hD hS hA hN rfl hl.1 rfl (Nat.le_of_ble_eq_true rfl) rfl dL_law_522 hc1 (fun H locs hP hD hS => ?_)
  refine lv_icmp_eq (tgt := 787) hx hb dL_law_525 (by decide) (fun c_1 => ?_) (fun c_1 => absurd rfl c_1)
  refine W.widen (k := cells + 10) (n := slots + 273) (by omega) (by omega) ?_
  exact kk _ _ ⟨ad, R, nr, len, (sp_dub nr len σ (xs (x3 + 1).toNatClampNeg) (xs (x3 + 2).toNatClampNeg) (xs (x3 + 3).toNatClampNeg) (xs (x3 + 4).toNatClampNeg) (xs (x3 + 5).toNatClampNeg) (xs (x3 + 6).toNatClampNeg)).2, hR, hZ, hM, sk_dub (xs (x3 + 1).toNatClampNeg) (xs (x3 + 2).toNatClampNeg) (xs (x3 + 3).toNatClampNeg) (xs (x3 + 4).toNatClampNeg) (xs (x3 + 5).toNatClampNeg) (xs (x3 + 6).toNatClampNeg) hI, hP, hD, hS, hl⟩
set_option maxHeartbeats 4000000 in
set_option maxRecDepth 100000 in
/-- the call turn -/
theorem lw_c12 {p : Program} {l : Launch} {e : Env} {s : State} {m : MethodId} {below : List Frame} {meth : Method} {c : Code} {b L : Nat} {xs : Nat → Int32} {dC : Nat → ClassId} {dI : Nat → Nat → Nat} {cA : Nat → ClassId} {x3 : Int32} {j cells slots : Nat} {H : Heap} {locs : List Loc} {ls : Array Slot} (C : lw_Cx p s m c b L xs dC dI cA) (h3 : x3 = nI j) (hj : j + 7 ≤ L) (hc : cells + 10 ≤ 600000 ∧ slots + 273 ≤ 7302250) (hO : lw_Ok dC dI cA b s ls x3 H locs) (kk : ∀ (H1 : Heap) (locs1 : List Loc), lw_Ok dC dI cA b s ls x3 H1 locs1 → W p l e room_1 s m #[Value.ref b] below meth c H1 locs1 (cells + 10) (slots + 273) (lw_Z below #[Value.ref b] s) (F0 m 787 ls [])) : W p l e room_1 s m #[Value.ref b] below meth c H locs cells slots (lw_Z below #[Value.ref b] s) (F0 m 530 ls []) := by
  obtain ⟨hx, hb, hml, hown, hts, hX, hbl, hK, hN, hL⟩ := C
  obtain ⟨ad, R, nr, len, σ, hR, hZ, hM, hI, hP, hD, hS, hl⟩ := hO
  have hA : ∀ q : Nat, s.heap.size ≤ q → (fun q : Nat => s.heap.size ≤ q) q := fun _ h => h
  have hbA : ¬ (fun q : Nat => s.heap.size ≤ q) b := Nat.not_le.mpr hbl
  have hc1 : cells ≤ room_1.cells ∧ slots ≤ room_1.slots := ⟨show cells ≤ 600000 by omega, show slots ≤ 7302250 by omega⟩
  have i1 : vp_in (x3 + 1) L := by rw [h3, show (1 : Int32) = nI 1 from rfl, nI_add]; exact vp_in_nI (by omega) (by omega)
  have i2 : vp_in (x3 + 2) L := by rw [h3, show (2 : Int32) = nI 2 from rfl, nI_add]; exact vp_in_nI (by omega) (by omega)
  refine lv_aload_n hx hb dL_law_530 rfl (lv_at hl 1 rfl) ?_
  refine lv_aload_n hx hb dL_law_531 rfl (lv_at hl 0 rfl) ?_
  refine lv_iload_n hx hb dL_law_532 rfl (lv_at hl 3 rfl) ?_
  refine lv_iconst (v := 1) hx hb dL_law_533 (by decide) ?_
  refine lv_iadd hx hb dL_law_534 ?_
  refine va_sld hx hb hX hbl hbA hS i1 dL_law_535 ?_
  refine lv_aload_n hx hb dL_law_536 rfl (lv_at hl 0 rfl) ?_
  refine lv_iload_n hx hb dL_law_537 rfl (lv_at hl 3 rfl) ?_
  refine lv_iconst (v := 2) hx hb dL_law_538 (by decide) ?_
  refine lv_iadd hx hb dL_law_539 ?_
  refine va_sld hx hb hX hbl hbA hS i2 dL_law_540 ?_
  refine zw_cV (r := (0, 0, 0)) (As := [.int (xs (x3 + 1).toNatClampNeg), .int (xs (x3 + 2).toNatClampNeg)]) (rest := []) (st1 := [.int (sp_turn nr len σ (xs (x3 + 1).toNatClampNeg) (xs (x3 + 2).toNatClampNeg)).1]) ⟨hx, hb, hml, hown, hts⟩ (cd_turn (σ := σ) hR hI.1 hI.2.2.2.2.1 (xs (x3 + 1).toNatClampNeg) (xs (x3 + 2).toNatClampNeg)) (cwV 2 hts gL_law_X2_turn rfl rfl rfl (by decide +kernel) ⟨Nat.le_of_ble_eq_true rfl, Nat.le_of_ble_eq_true rfl⟩) (hR.1 0 (by decide)) rfl rfl rfl hK hP hD hS hA hN rfl hl.1 rfl (Nat.le_of_ble_eq_true rfl) rfl dL_law_541 hc1 (fun H locs hP hD hS => ?_)
  refine lv_aload_n hx hb dL_law_544 rfl (lv_at hl 2 rfl) ?_
  refine lv_aload_n hx hb dL_law_545 rfl (lv_at hl 0 rfl) ?_
  refine lv_iload_n hx hb dL_law_546 rfl (lv_at hl 3 rfl) ?_
  refine lv_iconst (v := 1) hx hb dL_law_547 (by decide) ?_
  refine lv_iadd hx hb dL_law_548 ?_
  refine va_sld hx hb hX hbl hbA hS i1 dL_law_549 ?_
  refine lv_aload_n hx hb dL_law_550 rfl (lv_at hl 0 rfl) ?_
  refine lv_iload_n hx hb dL_law_551 rfl (lv_at hl 3 rfl) ?_
  refine lv_iconst (v := 2) hx hb dL_law_552 (by decide) ?_
  refine lv_iadd hx hb dL_law_553 ?_
  refine va_sld hx hb hX hbl hbA hS i2 dL_law_554 ?_
  refine zw_cV (r := (20, 0, 0)) (As := [.int (xs (x3 + 1).toNatClampNeg), .int (xs (x3 + 2).toNatClampNeg)]) (rest := [.int (sp_turn nr len σ (xs (x3 + 1).toNatClampNeg) (xs (x3 + 2).toNatClampNeg)).1]) (st1 := [.int (sp_turn nr len σ (xs (x3 + 1).toNatClampNeg) (xs (x3 + 2).toNatClampNeg)).1, .int (sp_turn nr len σ (xs (x3 + 1).toNatClampNeg) (xs (x3 + 2).toNatClampNeg)).1]) ⟨hx, hb, hml, hown, hts⟩ (cm_turn (σ := σ) hM hI.1 hI.2.2.2.2.1 hI.2.2.1 hI.2.2.2.2.2.2.1 (xs (x3 + 1).toNatClampNeg) (xs (x3 + 2).toNatClampNeg)) (cwV 2 hts gL_law_X3_turn rfl rfl rfl (by decide +kernel) ⟨Nat.le_of_ble_eq_true rfl, Nat.le_of_ble_eq_true rfl⟩) (hM 0 (by decide)) rfl rfl rfl hK hP hD hS hA hN rfl hl.1 rfl (Nat.le_of_ble_eq_true rfl) rfl dL_law_555 hc1 (fun H locs hP hD hS => ?_)
  refine lv_icmp_eq (tgt := 787) hx hb dL_law_558 (by decide) (fun c_1 => ?_) (fun c_1 => absurd rfl c_1)
  refine W.widen (k := cells + 10) (n := slots + 273) (by omega) (by omega) ?_
  exact kk _ _ ⟨ad, R, nr, len, (sp_turn nr len σ (xs (x3 + 1).toNatClampNeg) (xs (x3 + 2).toNatClampNeg)).2, hR, hZ, hM, sk_turn (xs (x3 + 1).toNatClampNeg) (xs (x3 + 2).toNatClampNeg) hI, hP, hD, hS, hl⟩
set_option maxHeartbeats 4000000 in
set_option maxRecDepth 100000 in
/-- the call scan -/
theorem lw_c13 {p : Program} {l : Launch} {e : Env} {s : State} {m : MethodId} {below : List Frame} {meth : Method} {c : Code} {b L : Nat} {xs : Nat → Int32} {dC : Nat → ClassId} {dI : Nat → Nat → Nat} {cA : Nat → ClassId} {x3 : Int32} {j cells slots : Nat} {H : Heap} {locs : List Loc} {ls : Array Slot} (C : lw_Cx p s m c b L xs dC dI cA) (h3 : x3 = nI j) (hj : j + 7 ≤ L) (hc : cells + 10 ≤ 600000 ∧ slots + 273 ≤ 7302250) (hO : lw_Ok dC dI cA b s ls x3 H locs) (kk : ∀ (H1 : Heap) (locs1 : List Loc), lw_Ok dC dI cA b s ls x3 H1 locs1 → W p l e room_1 s m #[Value.ref b] below meth c H1 locs1 (cells + 10) (slots + 273) (lw_Z below #[Value.ref b] s) (F0 m 787 ls [])) : W p l e room_1 s m #[Value.ref b] below meth c H locs cells slots (lw_Z below #[Value.ref b] s) (F0 m 563 ls []) := by
  obtain ⟨hx, hb, hml, hown, hts, hX, hbl, hK, hN, hL⟩ := C
  obtain ⟨ad, R, nr, len, σ, hR, hZ, hM, hI, hP, hD, hS, hl⟩ := hO
  have hA : ∀ q : Nat, s.heap.size ≤ q → (fun q : Nat => s.heap.size ≤ q) q := fun _ h => h
  have hbA : ¬ (fun q : Nat => s.heap.size ≤ q) b := Nat.not_le.mpr hbl
  have hc1 : cells ≤ room_1.cells ∧ slots ≤ room_1.slots := ⟨show cells ≤ 600000 by omega, show slots ≤ 7302250 by omega⟩
  have i1 : vp_in (x3 + 1) L := by rw [h3, show (1 : Int32) = nI 1 from rfl, nI_add]; exact vp_in_nI (by omega) (by omega)
  have i2 : vp_in (x3 + 2) L := by rw [h3, show (2 : Int32) = nI 2 from rfl, nI_add]; exact vp_in_nI (by omega) (by omega)
  refine lv_aload_n hx hb dL_law_563 rfl (lv_at hl 1 rfl) ?_
  refine lv_aload_n hx hb dL_law_564 rfl (lv_at hl 0 rfl) ?_
  refine lv_iload_n hx hb dL_law_565 rfl (lv_at hl 3 rfl) ?_
  refine lv_iconst (v := 1) hx hb dL_law_566 (by decide) ?_
  refine lv_iadd hx hb dL_law_567 ?_
  refine va_sld hx hb hX hbl hbA hS i1 dL_law_568 ?_
  refine lv_aload_n hx hb dL_law_569 rfl (lv_at hl 0 rfl) ?_
  refine lv_iload_n hx hb dL_law_570 rfl (lv_at hl 3 rfl) ?_
  refine lv_iconst (v := 2) hx hb dL_law_571 (by decide) ?_
  refine lv_iadd hx hb dL_law_572 ?_
  refine va_sld hx hb hX hbl hbA hS i2 dL_law_573 ?_
  refine zw_cV (r := (0, 0, 0)) (As := [.int (xs (x3 + 1).toNatClampNeg), .int (xs (x3 + 2).toNatClampNeg)]) (rest := []) (st1 := [.int (sp_scan nr len σ (xs (x3 + 1).toNatClampNeg) (xs (x3 + 2).toNatClampNeg)).1]) ⟨hx, hb, hml, hown, hts⟩ (cd_scan (σ := σ) hR hI.1 hI.2.2.2.2.1 (xs (x3 + 1).toNatClampNeg) (xs (x3 + 2).toNatClampNeg)) (cwV 2 hts gL_law_X2_scan rfl rfl rfl (by decide +kernel) ⟨Nat.le_of_ble_eq_true rfl, Nat.le_of_ble_eq_true rfl⟩) (hR.1 0 (by decide)) rfl rfl rfl hK hP hD hS hA hN rfl hl.1 rfl (Nat.le_of_ble_eq_true rfl) rfl dL_law_574 hc1 (fun H locs hP hD hS => ?_)
  refine lv_aload_n hx hb dL_law_577 rfl (lv_at hl 2 rfl) ?_
  refine lv_aload_n hx hb dL_law_578 rfl (lv_at hl 0 rfl) ?_
  refine lv_iload_n hx hb dL_law_579 rfl (lv_at hl 3 rfl) ?_
  refine lv_iconst (v := 1) hx hb dL_law_580 (by decide) ?_
  refine lv_iadd hx hb dL_law_581 ?_
  refine va_sld hx hb hX hbl hbA hS i1 dL_law_582 ?_
  refine lv_aload_n hx hb dL_law_583 rfl (lv_at hl 0 rfl) ?_
  refine lv_iload_n hx hb dL_law_584 rfl (lv_at hl 3 rfl) ?_
  refine lv_iconst (v := 2) hx hb dL_law_585 (by decide) ?_
  refine lv_iadd hx hb dL_law_586 ?_
  refine va_sld hx hb hX hbl hbA hS i2 dL_law_587 ?_
  refine zw_cV (r := (20, 0, 0)) (As := [.int (xs (x3 + 1).toNatClampNeg), .int (xs (x3 + 2).toNatClampNeg)]) (rest := [.int (sp_scan nr len σ (xs (x3 + 1).toNatClampNeg) (xs (x3 + 2).toNatClampNeg)).1]) (st1 := [.int (sp_scan nr len σ (xs (x3 + 1).toNatClampNeg) (xs (x3 + 2).toNatClampNeg)).1, .int (sp_scan nr len σ (xs (x3 + 1).toNatClampNeg) (xs (x3 + 2).toNatClampNeg)).1]) ⟨hx, hb, hml, hown, hts⟩ (cm_scan (σ := σ) hM hI.1 hI.2.2.2.2.1 hI.2.2.1 (xs (x3 + 1).toNatClampNeg) (xs (x3 + 2).toNatClampNeg)) (cwV 2 hts gL_law_X3_scan rfl rfl rfl (by decide +kernel) ⟨Nat.le_of_ble_eq_true rfl, Nat.le_of_ble_eq_true rfl⟩) (hM 0 (by decide)) rfl rfl rfl hK hP hD hS hA hN rfl hl.1 rfl (Nat.le_of_ble_eq_true rfl) rfl dL_law_588 hc1 (fun H locs hP hD hS => ?_)
  refine lv_icmp_eq (tgt := 787) hx hb dL_law_591 (by decide) (fun c_1 => ?_) (fun c_1 => absurd rfl c_1)
  refine W.widen (k := cells + 10) (n := slots + 273) (by omega) (by omega) ?_
  exact kk _ _ ⟨ad, R, nr, len, (sp_scan nr len σ (xs (x3 + 1).toNatClampNeg) (xs (x3 + 2).toNatClampNeg)).2, hR, hZ, hM, sk_scan (xs (x3 + 1).toNatClampNeg) (xs (x3 + 2).toNatClampNeg) hI, hP, hD, hS, hl⟩
set_option maxHeartbeats 4000000 in
set_option maxRecDepth 100000 in
/-- the call sheet -/
theorem lw_c14 {p : Program} {l : Launch} {e : Env} {s : State} {m : MethodId} {below : List Frame} {meth : Method} {c : Code} {b L : Nat} {xs : Nat → Int32} {dC : Nat → ClassId} {dI : Nat → Nat → Nat} {cA : Nat → ClassId} {x3 : Int32} {j cells slots : Nat} {H : Heap} {locs : List Loc} {ls : Array Slot} (C : lw_Cx p s m c b L xs dC dI cA) (h3 : x3 = nI j) (hj : j + 7 ≤ L) (hc : cells + 10 ≤ 600000 ∧ slots + 273 ≤ 7302250) (hO : lw_Ok dC dI cA b s ls x3 H locs) (kk : ∀ (H1 : Heap) (locs1 : List Loc), lw_Ok dC dI cA b s ls x3 H1 locs1 → W p l e room_1 s m #[Value.ref b] below meth c H1 locs1 (cells + 10) (slots + 273) (lw_Z below #[Value.ref b] s) (F0 m 787 ls [])) : W p l e room_1 s m #[Value.ref b] below meth c H locs cells slots (lw_Z below #[Value.ref b] s) (F0 m 596 ls []) := by
  obtain ⟨hx, hb, hml, hown, hts, hX, hbl, hK, hN, hL⟩ := C
  obtain ⟨ad, R, nr, len, σ, hR, hZ, hM, hI, hP, hD, hS, hl⟩ := hO
  have hA : ∀ q : Nat, s.heap.size ≤ q → (fun q : Nat => s.heap.size ≤ q) q := fun _ h => h
  have hbA : ¬ (fun q : Nat => s.heap.size ≤ q) b := Nat.not_le.mpr hbl
  have hc1 : cells ≤ room_1.cells ∧ slots ≤ room_1.slots := ⟨show cells ≤ 600000 by omega, show slots ≤ 7302250 by omega⟩
  have i1 : vp_in (x3 + 1) L := by rw [h3, show (1 : Int32) = nI 1 from rfl, nI_add]; exact vp_in_nI (by omega) (by omega)
  have i2 : vp_in (x3 + 2) L := by rw [h3, show (2 : Int32) = nI 2 from rfl, nI_add]; exact vp_in_nI (by omega) (by omega)
  refine lv_aload_n hx hb dL_law_596 rfl (lv_at hl 1 rfl) ?_
  refine lv_aload_n hx hb dL_law_597 rfl (lv_at hl 0 rfl) ?_
  refine lv_iload_n hx hb dL_law_598 rfl (lv_at hl 3 rfl) ?_
  refine lv_iconst (v := 1) hx hb dL_law_599 (by decide) ?_
  refine lv_iadd hx hb dL_law_600 ?_
  refine va_sld hx hb hX hbl hbA hS i1 dL_law_601 ?_
  refine lv_aload_n hx hb dL_law_602 rfl (lv_at hl 0 rfl) ?_
  refine lv_iload_n hx hb dL_law_603 rfl (lv_at hl 3 rfl) ?_
  refine lv_iconst (v := 2) hx hb dL_law_604 (by decide) ?_
  refine lv_iadd hx hb dL_law_605 ?_
  refine va_sld hx hb hX hbl hbA hS i2 dL_law_606 ?_
  refine zw_cV (r := (0, 0, 0)) (As := [.int (xs (x3 + 1).toNatClampNeg), .int (xs (x3 + 2).toNatClampNeg)]) (rest := []) (st1 := [.int (sp_sheet nr len σ (xs (x3 + 1).toNatClampNeg) (xs (x3 + 2).toNatClampNeg)).1]) ⟨hx, hb, hml, hown, hts⟩ (cd_sheet (σ := σ) hR (xs (x3 + 1).toNatClampNeg) (xs (x3 + 2).toNatClampNeg)) (cwV 2 hts gL_law_X2_sheet rfl rfl rfl (by decide +kernel) ⟨Nat.le_of_ble_eq_true rfl, Nat.le_of_ble_eq_true rfl⟩) (hR.1 0 (by decide)) rfl rfl rfl hK hP hD hS hA hN rfl hl.1 rfl (Nat.le_of_ble_eq_true rfl) rfl dL_law_607 hc1 (fun H locs hP hD hS => ?_)
  refine lv_aload_n hx hb dL_law_610 rfl (lv_at hl 2 rfl) ?_
  refine lv_aload_n hx hb dL_law_611 rfl (lv_at hl 0 rfl) ?_
  refine lv_iload_n hx hb dL_law_612 rfl (lv_at hl 3 rfl) ?_
  refine lv_iconst (v := 1) hx hb dL_law_613 (by decide) ?_
  refine lv_iadd hx hb dL_law_614 ?_
  refine va_sld hx hb hX hbl hbA hS i1 dL_law_615 ?_
  refine lv_aload_n hx hb dL_law_616 rfl (lv_at hl 0 rfl) ?_
  refine lv_iload_n hx hb dL_law_617 rfl (lv_at hl 3 rfl) ?_
  refine lv_iconst (v := 2) hx hb dL_law_618 (by decide) ?_
  refine lv_iadd hx hb dL_law_619 ?_
  refine va_sld hx hb hX hbl hbA hS i2 dL_law_620 ?_
  refine zw_cV (r := (20, 0, 0)) (As := [.int (xs (x3 + 1).toNatClampNeg), .int (xs (x3 + 2).toNatClampNeg)]) (rest := [.int (sp_sheet nr len σ (xs (x3 + 1).toNatClampNeg) (xs (x3 + 2).toNatClampNeg)).1]) (st1 := [.int (sp_sheet nr len σ (xs (x3 + 1).toNatClampNeg) (xs (x3 + 2).toNatClampNeg)).1, .int (sp_sheet nr len σ (xs (x3 + 1).toNatClampNeg) (xs (x3 + 2).toNatClampNeg)).1]) ⟨hx, hb, hml, hown, hts⟩ (cm_sheet (nr := nr) (σ := σ) hM (xs (x3 + 1).toNatClampNeg) (xs (x3 + 2).toNatClampNeg)) (cwV 2 hts gL_law_X3_sheet rfl rfl rfl (by decide +kernel) ⟨Nat.le_of_ble_eq_true rfl, Nat.le_of_ble_eq_true rfl⟩) (hM 0 (by decide)) rfl rfl rfl hK hP hD hS hA hN rfl hl.1 rfl (Nat.le_of_ble_eq_true rfl) rfl dL_law_621 hc1 (fun H locs hP hD hS => ?_)
  refine lv_icmp_eq (tgt := 787) hx hb dL_law_624 (by decide) (fun c_1 => ?_) (fun c_1 => absurd rfl c_1)
  refine W.widen (k := cells + 10) (n := slots + 273) (by omega) (by omega) ?_
  exact kk _ _ ⟨ad, R, nr, len, (sp_sheet nr len σ (xs (x3 + 1).toNatClampNeg) (xs (x3 + 2).toNatClampNeg)).2, hR, hZ, hM, sk_sheet (xs (x3 + 1).toNatClampNeg) (xs (x3 + 2).toNatClampNeg) hI, hP, hD, hS, hl⟩
set_option maxHeartbeats 4000000 in
set_option maxRecDepth 100000 in
/-- the call cue -/
theorem lw_c15 {p : Program} {l : Launch} {e : Env} {s : State} {m : MethodId} {below : List Frame} {meth : Method} {c : Code} {b L : Nat} {xs : Nat → Int32} {dC : Nat → ClassId} {dI : Nat → Nat → Nat} {cA : Nat → ClassId} {x3 : Int32} {j cells slots : Nat} {H : Heap} {locs : List Loc} {ls : Array Slot} (C : lw_Cx p s m c b L xs dC dI cA) (h3 : x3 = nI j) (hj : j + 7 ≤ L) (hc : cells + 10 ≤ 600000 ∧ slots + 273 ≤ 7302250) (hO : lw_Ok dC dI cA b s ls x3 H locs) (kk : ∀ (H1 : Heap) (locs1 : List Loc), lw_Ok dC dI cA b s ls x3 H1 locs1 → W p l e room_1 s m #[Value.ref b] below meth c H1 locs1 (cells + 10) (slots + 273) (lw_Z below #[Value.ref b] s) (F0 m 787 ls [])) : W p l e room_1 s m #[Value.ref b] below meth c H locs cells slots (lw_Z below #[Value.ref b] s) (F0 m 629 ls []) := by
  obtain ⟨hx, hb, hml, hown, hts, hX, hbl, hK, hN, hL⟩ := C
  obtain ⟨ad, R, nr, len, σ, hR, hZ, hM, hI, hP, hD, hS, hl⟩ := hO
  have hA : ∀ q : Nat, s.heap.size ≤ q → (fun q : Nat => s.heap.size ≤ q) q := fun _ h => h
  have hbA : ¬ (fun q : Nat => s.heap.size ≤ q) b := Nat.not_le.mpr hbl
  have hc1 : cells ≤ room_1.cells ∧ slots ≤ room_1.slots := ⟨show cells ≤ 600000 by omega, show slots ≤ 7302250 by omega⟩
  have i1 : vp_in (x3 + 1) L := by rw [h3, show (1 : Int32) = nI 1 from rfl, nI_add]; exact vp_in_nI (by omega) (by omega)
  have i2 : vp_in (x3 + 2) L := by rw [h3, show (2 : Int32) = nI 2 from rfl, nI_add]; exact vp_in_nI (by omega) (by omega)
  have i3 : vp_in (x3 + 3) L := by rw [h3, show (3 : Int32) = nI 3 from rfl, nI_add]; exact vp_in_nI (by omega) (by omega)
  refine lv_aload_n hx hb dL_law_629 rfl (lv_at hl 1 rfl) ?_
  refine lv_aload_n hx hb dL_law_630 rfl (lv_at hl 0 rfl) ?_
  refine lv_iload_n hx hb dL_law_631 rfl (lv_at hl 3 rfl) ?_
  refine lv_iconst (v := 1) hx hb dL_law_632 (by decide) ?_
  refine lv_iadd hx hb dL_law_633 ?_
  refine va_sld hx hb hX hbl hbA hS i1 dL_law_634 ?_
  refine lv_aload_n hx hb dL_law_635 rfl (lv_at hl 0 rfl) ?_
  refine lv_iload_n hx hb dL_law_636 rfl (lv_at hl 3 rfl) ?_
  refine lv_iconst (v := 2) hx hb dL_law_637 (by decide) ?_
  refine lv_iadd hx hb dL_law_638 ?_
  refine va_sld hx hb hX hbl hbA hS i2 dL_law_639 ?_
  refine lv_aload_n hx hb dL_law_640 rfl (lv_at hl 0 rfl) ?_
  refine lv_iload_n hx hb dL_law_641 rfl (lv_at hl 3 rfl) ?_
  refine lv_iconst (v := 3) hx hb dL_law_642 (by decide) ?_
  refine lv_iadd hx hb dL_law_643 ?_
  refine va_sld hx hb hX hbl hbA hS i3 dL_law_644 ?_
  refine zw_cV (r := (0, 0, 0)) (As := [.int (xs (x3 + 1).toNatClampNeg), .int (xs (x3 + 2).toNatClampNeg), .int (xs (x3 + 3).toNatClampNeg)]) (rest := []) (st1 := [.int (sp_cue nr len σ (xs (x3 + 1).toNatClampNeg) (xs (x3 + 2).toNatClampNeg) (xs (x3 + 3).toNatClampNeg)).1]) ⟨hx, hb, hml, hown, hts⟩ (cd_cue (σ := σ) hR hI.2.2.2.2.2.1.1 hI.2.2.2.2.2.1.2 (xs (x3 + 1).toNatClampNeg) (xs (x3 + 2).toNatClampNeg) (xs (x3 + 3).toNatClampNeg)) (cwV 3 hts gL_law_X2_cue rfl rfl rfl (by decide +kernel) ⟨Nat.le_of_ble_eq_true rfl, Nat.le_of_ble_eq_true rfl⟩) (hR.1 0 (by decide)) rfl rfl rfl hK hP hD hS hA hN rfl hl.1 rfl (Nat.le_of_ble_eq_true rfl) rfl dL_law_645 hc1 (fun H locs hP hD hS => ?_)
  refine lv_aload_n hx hb dL_law_648 rfl (lv_at hl 2 rfl) ?_
  refine lv_aload_n hx hb dL_law_649 rfl (lv_at hl 0 rfl) ?_
  refine lv_iload_n hx hb dL_law_650 rfl (lv_at hl 3 rfl) ?_
  refine lv_iconst (v := 1) hx hb dL_law_651 (by decide) ?_
  refine lv_iadd hx hb dL_law_652 ?_
  refine va_sld hx hb hX hbl hbA hS i1 dL_law_653 ?_
  refine lv_aload_n hx hb dL_law_654 rfl (lv_at hl 0 rfl) ?_
  refine lv_iload_n hx hb dL_law_655 rfl (lv_at hl 3 rfl) ?_
  refine lv_iconst (v := 2) hx hb dL_law_656 (by decide) ?_
  refine lv_iadd hx hb dL_law_657 ?_
  refine va_sld hx hb hX hbl hbA hS i2 dL_law_658 ?_
  refine lv_aload_n hx hb dL_law_659 rfl (lv_at hl 0 rfl) ?_
  refine lv_iload_n hx hb dL_law_660 rfl (lv_at hl 3 rfl) ?_
  refine lv_iconst (v := 3) hx hb dL_law_661 (by decide) ?_
  refine lv_iadd hx hb dL_law_662 ?_
  refine va_sld hx hb hX hbl hbA hS i3 dL_law_663 ?_
  refine zw_cV (r := (20, 0, 0)) (As := [.int (xs (x3 + 1).toNatClampNeg), .int (xs (x3 + 2).toNatClampNeg), .int (xs (x3 + 3).toNatClampNeg)]) (rest := [.int (sp_cue nr len σ (xs (x3 + 1).toNatClampNeg) (xs (x3 + 2).toNatClampNeg) (xs (x3 + 3).toNatClampNeg)).1]) (st1 := [.int (sp_cue nr len σ (xs (x3 + 1).toNatClampNeg) (xs (x3 + 2).toNatClampNeg) (xs (x3 + 3).toNatClampNeg)).1, .int (sp_cue nr len σ (xs (x3 + 1).toNatClampNeg) (xs (x3 + 2).toNatClampNeg) (xs (x3 + 3).toNatClampNeg)).1]) ⟨hx, hb, hml, hown, hts⟩ (cm_cue (nr := nr) (σ := σ) hM hI.2.2.2.2.2.1.1 hI.2.2.2.2.2.1.2 (xs (x3 + 1).toNatClampNeg) (xs (x3 + 2).toNatClampNeg) (xs (x3 + 3).toNatClampNeg)) (cwV 3 hts gL_law_X3_cue rfl rfl rfl (by decide +kernel) ⟨Nat.le_of_ble_eq_true rfl, Nat.le_of_ble_eq_true rfl⟩) (hM 0 (by decide)) rfl rfl rfl hK hP hD hS hA hN rfl hl.1 rfl (Nat.le_of_ble_eq_true rfl) rfl dL_law_664 hc1 (fun H locs hP hD hS => ?_)
  refine lv_icmp_eq (tgt := 787) hx hb dL_law_667 (by decide) (fun c_1 => ?_) (fun c_1 => absurd rfl c_1)
  refine W.widen (k := cells + 10) (n := slots + 273) (by omega) (by omega) ?_
  exact kk _ _ ⟨ad, R, nr, len, (sp_cue nr len σ (xs (x3 + 1).toNatClampNeg) (xs (x3 + 2).toNatClampNeg) (xs (x3 + 3).toNatClampNeg)).2, hR, hZ, hM, sk_cue (xs (x3 + 1).toNatClampNeg) (xs (x3 + 2).toNatClampNeg) (xs (x3 + 3).toNatClampNeg) hI, hP, hD, hS, hl⟩
set_option maxHeartbeats 4000000 in
set_option maxRecDepth 100000 in
/-- the call seek -/
theorem lw_c16 {p : Program} {l : Launch} {e : Env} {s : State} {m : MethodId} {below : List Frame} {meth : Method} {c : Code} {b L : Nat} {xs : Nat → Int32} {dC : Nat → ClassId} {dI : Nat → Nat → Nat} {cA : Nat → ClassId} {x3 : Int32} {j cells slots : Nat} {H : Heap} {locs : List Loc} {ls : Array Slot} (C : lw_Cx p s m c b L xs dC dI cA) (h3 : x3 = nI j) (hj : j + 7 ≤ L) (hc : cells + 10 ≤ 600000 ∧ slots + 273 ≤ 7302250) (hO : lw_Ok dC dI cA b s ls x3 H locs) (kk : ∀ (H1 : Heap) (locs1 : List Loc), lw_Ok dC dI cA b s ls x3 H1 locs1 → W p l e room_1 s m #[Value.ref b] below meth c H1 locs1 (cells + 10) (slots + 273) (lw_Z below #[Value.ref b] s) (F0 m 787 ls [])) : W p l e room_1 s m #[Value.ref b] below meth c H locs cells slots (lw_Z below #[Value.ref b] s) (F0 m 672 ls []) := by
  obtain ⟨hx, hb, hml, hown, hts, hX, hbl, hK, hN, hL⟩ := C
  obtain ⟨ad, R, nr, len, σ, hR, hZ, hM, hI, hP, hD, hS, hl⟩ := hO
  have hA : ∀ q : Nat, s.heap.size ≤ q → (fun q : Nat => s.heap.size ≤ q) q := fun _ h => h
  have hbA : ¬ (fun q : Nat => s.heap.size ≤ q) b := Nat.not_le.mpr hbl
  have hc1 : cells ≤ room_1.cells ∧ slots ≤ room_1.slots := ⟨show cells ≤ 600000 by omega, show slots ≤ 7302250 by omega⟩
  have i1 : vp_in (x3 + 1) L := by rw [h3, show (1 : Int32) = nI 1 from rfl, nI_add]; exact vp_in_nI (by omega) (by omega)
  have i2 : vp_in (x3 + 2) L := by rw [h3, show (2 : Int32) = nI 2 from rfl, nI_add]; exact vp_in_nI (by omega) (by omega)
  refine lv_aload_n hx hb dL_law_672 rfl (lv_at hl 1 rfl) ?_
  refine lv_aload_n hx hb dL_law_673 rfl (lv_at hl 0 rfl) ?_
  refine lv_iload_n hx hb dL_law_674 rfl (lv_at hl 3 rfl) ?_
  refine lv_iconst (v := 1) hx hb dL_law_675 (by decide) ?_
  refine lv_iadd hx hb dL_law_676 ?_
  refine va_sld hx hb hX hbl hbA hS i1 dL_law_677 ?_
  refine lv_aload_n hx hb dL_law_678 rfl (lv_at hl 0 rfl) ?_
  refine lv_iload_n hx hb dL_law_679 rfl (lv_at hl 3 rfl) ?_
  refine lv_iconst (v := 2) hx hb dL_law_680 (by decide) ?_
  refine lv_iadd hx hb dL_law_681 ?_
  refine va_sld hx hb hX hbl hbA hS i2 dL_law_682 ?_
  refine zw_cV (r := (0, 0, 0)) (As := [.int (xs (x3 + 1).toNatClampNeg), .int (xs (x3 + 2).toNatClampNeg)]) (rest := []) (st1 := [.int (sp_seek nr len σ (xs (x3 + 1).toNatClampNeg) (xs (x3 + 2).toNatClampNeg)).1]) ⟨hx, hb, hml, hown, hts⟩ (cd_seek (σ := σ) hR hI.2.2.2.2.2.1.1 hI.2.2.2.2.2.1.2 (xs (x3 + 1).toNatClampNeg) (xs (x3 + 2).toNatClampNeg)) (cwV 2 hts gL_law_X2_seek rfl rfl rfl (by decide +kernel) ⟨Nat.le_of_ble_eq_true rfl, Nat.le_of_ble_eq_true rfl⟩) (hR.1 0 (by decide)) rfl rfl rfl hK hP hD hS hA hN rfl hl.1 rfl (Nat.le_of_ble_eq_true rfl) rfl dL_law_683 hc1 (fun H locs hP hD hS => ?_)
  refine lv_aload_n hx hb dL_law_686 rfl (lv_at hl 2 rfl) ?_
  refine lv_aload_n hx hb dL_law_687 rfl (lv_at hl 0 rfl) ?_
  refine lv_iload_n hx hb dL_law_688 rfl (lv_at hl 3 rfl) ?_
  refine lv_iconst (v := 1) hx hb dL_law_689 (by decide) ?_
  refine lv_iadd hx hb dL_law_690 ?_
  refine va_sld hx hb hX hbl hbA hS i1 dL_law_691 ?_
  refine lv_aload_n hx hb dL_law_692 rfl (lv_at hl 0 rfl) ?_
  refine lv_iload_n hx hb dL_law_693 rfl (lv_at hl 3 rfl) ?_
  refine lv_iconst (v := 2) hx hb dL_law_694 (by decide) ?_
  refine lv_iadd hx hb dL_law_695 ?_
  refine va_sld hx hb hX hbl hbA hS i2 dL_law_696 ?_
  refine zw_cV (r := (20, 0, 0)) (As := [.int (xs (x3 + 1).toNatClampNeg), .int (xs (x3 + 2).toNatClampNeg)]) (rest := [.int (sp_seek nr len σ (xs (x3 + 1).toNatClampNeg) (xs (x3 + 2).toNatClampNeg)).1]) (st1 := [.int (sp_seek nr len σ (xs (x3 + 1).toNatClampNeg) (xs (x3 + 2).toNatClampNeg)).1, .int (sp_seek nr len σ (xs (x3 + 1).toNatClampNeg) (xs (x3 + 2).toNatClampNeg)).1]) ⟨hx, hb, hml, hown, hts⟩ (cm_seek (nr := nr) (σ := σ) hM hI.2.2.2.2.2.1.1 hI.2.2.2.2.2.1.2 (xs (x3 + 1).toNatClampNeg) (xs (x3 + 2).toNatClampNeg)) (cwV 2 hts gL_law_X3_seek rfl rfl rfl (by decide +kernel) ⟨Nat.le_of_ble_eq_true rfl, Nat.le_of_ble_eq_true rfl⟩) (hM 0 (by decide)) rfl rfl rfl hK hP hD hS hA hN rfl hl.1 rfl (Nat.le_of_ble_eq_true rfl) rfl dL_law_697 hc1 (fun H locs hP hD hS => ?_)
  refine lv_icmp_eq (tgt := 787) hx hb dL_law_700 (by decide) (fun c_1 => ?_) (fun c_1 => absurd rfl c_1)
  refine W.widen (k := cells + 10) (n := slots + 273) (by omega) (by omega) ?_
  exact kk _ _ ⟨ad, R, nr, len, (sp_seek nr len σ (xs (x3 + 1).toNatClampNeg) (xs (x3 + 2).toNatClampNeg)).2, hR, hZ, hM, sk_seek (xs (x3 + 1).toNatClampNeg) (xs (x3 + 2).toNatClampNeg) hI, hP, hD, hS, hl⟩
set_option maxHeartbeats 4000000 in
set_option maxRecDepth 100000 in
/-- the call trip -/
theorem lw_c17 {p : Program} {l : Launch} {e : Env} {s : State} {m : MethodId} {below : List Frame} {meth : Method} {c : Code} {b L : Nat} {xs : Nat → Int32} {dC : Nat → ClassId} {dI : Nat → Nat → Nat} {cA : Nat → ClassId} {x3 : Int32} {j cells slots : Nat} {H : Heap} {locs : List Loc} {ls : Array Slot} (C : lw_Cx p s m c b L xs dC dI cA) (h3 : x3 = nI j) (hj : j + 7 ≤ L) (hc : cells + 10 ≤ 600000 ∧ slots + 273 ≤ 7302250) (hO : lw_Ok dC dI cA b s ls x3 H locs) (kk : ∀ (H1 : Heap) (locs1 : List Loc), lw_Ok dC dI cA b s ls x3 H1 locs1 → W p l e room_1 s m #[Value.ref b] below meth c H1 locs1 (cells + 10) (slots + 273) (lw_Z below #[Value.ref b] s) (F0 m 787 ls [])) : W p l e room_1 s m #[Value.ref b] below meth c H locs cells slots (lw_Z below #[Value.ref b] s) (F0 m 705 ls []) := by
  obtain ⟨hx, hb, hml, hown, hts, hX, hbl, hK, hN, hL⟩ := C
  obtain ⟨ad, R, nr, len, σ, hR, hZ, hM, hI, hP, hD, hS, hl⟩ := hO
  have hA : ∀ q : Nat, s.heap.size ≤ q → (fun q : Nat => s.heap.size ≤ q) q := fun _ h => h
  have hbA : ¬ (fun q : Nat => s.heap.size ≤ q) b := Nat.not_le.mpr hbl
  have hc1 : cells ≤ room_1.cells ∧ slots ≤ room_1.slots := ⟨show cells ≤ 600000 by omega, show slots ≤ 7302250 by omega⟩
  have i1 : vp_in (x3 + 1) L := by rw [h3, show (1 : Int32) = nI 1 from rfl, nI_add]; exact vp_in_nI (by omega) (by omega)
  refine lv_aload_n hx hb dL_law_705 rfl (lv_at hl 1 rfl) ?_
  refine lv_aload_n hx hb dL_law_706 rfl (lv_at hl 0 rfl) ?_
  refine lv_iload_n hx hb dL_law_707 rfl (lv_at hl 3 rfl) ?_
  refine lv_iconst (v := 1) hx hb dL_law_708 (by decide) ?_
  refine lv_iadd hx hb dL_law_709 ?_
  refine va_sld hx hb hX hbl hbA hS i1 dL_law_710 ?_
  refine zw_cV (r := (0, 0, 0)) (As := [.int (xs (x3 + 1).toNatClampNeg)]) (rest := []) (st1 := [.int (sp_trip nr len σ (xs (x3 + 1).toNatClampNeg)).1]) ⟨hx, hb, hml, hown, hts⟩ (cd_trip (σ := σ) hR (xs (x3 + 1).toNatClampNeg)) (cwV 1 hts gL_law_X2_trip rfl rfl rfl (by decide +kernel) ⟨Nat.le_of_ble_eq_true rfl, Nat.le_of_ble_eq_true rfl⟩) (hR.1 0 (by decide)) rfl rfl rfl hK hP hD hS hA hN rfl hl.1 rfl (Nat.le_of_ble_eq_true rfl) rfl dL_law_711 hc1 (fun H locs hP hD hS => ?_)
  refine lv_aload_n hx hb dL_law_714 rfl (lv_at hl 2 rfl) ?_
  refine lv_aload_n hx hb dL_law_715 rfl (lv_at hl 0 rfl) ?_
  refine lv_iload_n hx hb dL_law_716 rfl (lv_at hl 3 rfl) ?_
  refine lv_iconst (v := 1) hx hb dL_law_717 (by decide) ?_
  refine lv_iadd hx hb dL_law_718 ?_
  refine va_sld hx hb hX hbl hbA hS i1 dL_law_719 ?_
  refine zw_cV (r := (20, 0, 0)) (As := [.int (xs (x3 + 1).toNatClampNeg)]) (rest := [.int (sp_trip nr len σ (xs (x3 + 1).toNatClampNeg)).1]) (st1 := [.int (sp_trip nr len σ (xs (x3 + 1).toNatClampNeg)).1, .int (sp_trip nr len σ (xs (x3 + 1).toNatClampNeg)).1]) ⟨hx, hb, hml, hown, hts⟩ (cm_trip (nr := nr) (σ := σ) hM (xs (x3 + 1).toNatClampNeg)) (cwV 1 hts gL_law_X3_trip rfl rfl rfl (by decide +kernel) ⟨Nat.le_of_ble_eq_true rfl, Nat.le_of_ble_eq_true rfl⟩) (hM 0 (by decide)) rfl rfl rfl hK hP hD hS hA hN rfl hl.1 rfl (Nat.le_of_ble_eq_true rfl) rfl dL_law_720 hc1 (fun H locs hP hD hS => ?_)
  refine lv_icmp_eq (tgt := 787) hx hb dL_law_723 (by decide) (fun c_1 => ?_) (fun c_1 => absurd rfl c_1)
  refine W.widen (k := cells + 10) (n := slots + 273) (by omega) (by omega) ?_
  exact kk _ _ ⟨ad, R, nr, len, (sp_trip nr len σ (xs (x3 + 1).toNatClampNeg)).2, hR, hZ, hM, sk_trip (xs (x3 + 1).toNatClampNeg) hI, hP, hD, hS, hl⟩
set_option maxHeartbeats 4000000 in
set_option maxRecDepth 100000 in
/-- the call meter -/
theorem lw_c18 {p : Program} {l : Launch} {e : Env} {s : State} {m : MethodId} {below : List Frame} {meth : Method} {c : Code} {b L : Nat} {xs : Nat → Int32} {dC : Nat → ClassId} {dI : Nat → Nat → Nat} {cA : Nat → ClassId} {x3 : Int32} {j cells slots : Nat} {H : Heap} {locs : List Loc} {ls : Array Slot} (C : lw_Cx p s m c b L xs dC dI cA) (h3 : x3 = nI j) (hj : j + 7 ≤ L) (hc : cells + 10 ≤ 600000 ∧ slots + 273 ≤ 7302250) (hO : lw_Ok dC dI cA b s ls x3 H locs) (kk : ∀ (H1 : Heap) (locs1 : List Loc), lw_Ok dC dI cA b s ls x3 H1 locs1 → W p l e room_1 s m #[Value.ref b] below meth c H1 locs1 (cells + 10) (slots + 273) (lw_Z below #[Value.ref b] s) (F0 m 787 ls [])) : W p l e room_1 s m #[Value.ref b] below meth c H locs cells slots (lw_Z below #[Value.ref b] s) (F0 m 728 ls []) := by
  obtain ⟨hx, hb, hml, hown, hts, hX, hbl, hK, hN, hL⟩ := C
  obtain ⟨ad, R, nr, len, σ, hR, hZ, hM, hI, hP, hD, hS, hl⟩ := hO
  have hA : ∀ q : Nat, s.heap.size ≤ q → (fun q : Nat => s.heap.size ≤ q) q := fun _ h => h
  have hbA : ¬ (fun q : Nat => s.heap.size ≤ q) b := Nat.not_le.mpr hbl
  have hc1 : cells ≤ room_1.cells ∧ slots ≤ room_1.slots := ⟨show cells ≤ 600000 by omega, show slots ≤ 7302250 by omega⟩
  have i1 : vp_in (x3 + 1) L := by rw [h3, show (1 : Int32) = nI 1 from rfl, nI_add]; exact vp_in_nI (by omega) (by omega)
  refine lv_aload_n hx hb dL_law_728 rfl (lv_at hl 1 rfl) ?_
  refine lv_aload_n hx hb dL_law_729 rfl (lv_at hl 0 rfl) ?_
  refine lv_iload_n hx hb dL_law_730 rfl (lv_at hl 3 rfl) ?_
  refine lv_iconst (v := 1) hx hb dL_law_731 (by decide) ?_
  refine lv_iadd hx hb dL_law_732 ?_
  refine va_sld hx hb hX hbl hbA hS i1 dL_law_733 ?_
  refine zw_cV (r := (0, 0, 0)) (As := [.int (xs (x3 + 1).toNatClampNeg)]) (rest := []) (st1 := [.int (sp_meter nr len σ (xs (x3 + 1).toNatClampNeg)).1]) ⟨hx, hb, hml, hown, hts⟩ (cd_meter (σ := σ) hR (xs (x3 + 1).toNatClampNeg)) (cwV 1 hts gL_law_X2_meter rfl rfl rfl (by decide +kernel) ⟨Nat.le_of_ble_eq_true rfl, Nat.le_of_ble_eq_true rfl⟩) (hR.1 0 (by decide)) rfl rfl rfl hK hP hD hS hA hN rfl hl.1 rfl (Nat.le_of_ble_eq_true rfl) rfl dL_law_734 hc1 (fun H locs hP hD hS => ?_)
  refine lv_aload_n hx hb dL_law_737 rfl (lv_at hl 2 rfl) ?_
  refine lv_aload_n hx hb dL_law_738 rfl (lv_at hl 0 rfl) ?_
  refine lv_iload_n hx hb dL_law_739 rfl (lv_at hl 3 rfl) ?_
  refine lv_iconst (v := 1) hx hb dL_law_740 (by decide) ?_
  refine lv_iadd hx hb dL_law_741 ?_
  refine va_sld hx hb hX hbl hbA hS i1 dL_law_742 ?_
  refine zw_cV (r := (20, 0, 0)) (As := [.int (xs (x3 + 1).toNatClampNeg)]) (rest := [.int (sp_meter nr len σ (xs (x3 + 1).toNatClampNeg)).1]) (st1 := [.int (sp_meter nr len σ (xs (x3 + 1).toNatClampNeg)).1, .int (sp_meter nr len σ (xs (x3 + 1).toNatClampNeg)).1]) ⟨hx, hb, hml, hown, hts⟩ (cm_meter (nr := nr) (σ := σ) hM (xs (x3 + 1).toNatClampNeg)) (cwV 1 hts gL_law_X3_meter rfl rfl rfl (by decide +kernel) ⟨Nat.le_of_ble_eq_true rfl, Nat.le_of_ble_eq_true rfl⟩) (hM 0 (by decide)) rfl rfl rfl hK hP hD hS hA hN rfl hl.1 rfl (Nat.le_of_ble_eq_true rfl) rfl dL_law_743 hc1 (fun H locs hP hD hS => ?_)
  refine lv_icmp_eq (tgt := 787) hx hb dL_law_746 (by decide) (fun c_1 => ?_) (fun c_1 => absurd rfl c_1)
  refine W.widen (k := cells + 10) (n := slots + 273) (by omega) (by omega) ?_
  exact kk _ _ ⟨ad, R, nr, len, (sp_meter nr len σ (xs (x3 + 1).toNatClampNeg)).2, hR, hZ, hM, sk_meter (xs (x3 + 1).toNatClampNeg) hI, hP, hD, hS, hl⟩
set_option maxHeartbeats 4000000 in
set_option maxRecDepth 100000 in
/-- the call count -/
theorem lw_c19 {p : Program} {l : Launch} {e : Env} {s : State} {m : MethodId} {below : List Frame} {meth : Method} {c : Code} {b L : Nat} {xs : Nat → Int32} {dC : Nat → ClassId} {dI : Nat → Nat → Nat} {cA : Nat → ClassId} {x3 : Int32} {j cells slots : Nat} {H : Heap} {locs : List Loc} {ls : Array Slot} (C : lw_Cx p s m c b L xs dC dI cA) (h3 : x3 = nI j) (hj : j + 7 ≤ L) (hc : cells + 10 ≤ 600000 ∧ slots + 273 ≤ 7302250) (hO : lw_Ok dC dI cA b s ls x3 H locs) (kk : ∀ (H1 : Heap) (locs1 : List Loc), lw_Ok dC dI cA b s ls x3 H1 locs1 → W p l e room_1 s m #[Value.ref b] below meth c H1 locs1 (cells + 10) (slots + 273) (lw_Z below #[Value.ref b] s) (F0 m 787 ls [])) : W p l e room_1 s m #[Value.ref b] below meth c H locs cells slots (lw_Z below #[Value.ref b] s) (F0 m 751 ls []) := by
  obtain ⟨hx, hb, hml, hown, hts, hX, hbl, hK, hN, hL⟩ := C
  obtain ⟨ad, R, nr, len, σ, hR, hZ, hM, hI, hP, hD, hS, hl⟩ := hO
  have hA : ∀ q : Nat, s.heap.size ≤ q → (fun q : Nat => s.heap.size ≤ q) q := fun _ h => h
  have hbA : ¬ (fun q : Nat => s.heap.size ≤ q) b := Nat.not_le.mpr hbl
  have hc1 : cells ≤ room_1.cells ∧ slots ≤ room_1.slots := ⟨show cells ≤ 600000 by omega, show slots ≤ 7302250 by omega⟩
  have i1 : vp_in (x3 + 1) L := by rw [h3, show (1 : Int32) = nI 1 from rfl, nI_add]; exact vp_in_nI (by omega) (by omega)
  refine lv_aload_n hx hb dL_law_751 rfl (lv_at hl 1 rfl) ?_
  refine lv_aload_n hx hb dL_law_752 rfl (lv_at hl 0 rfl) ?_
  refine lv_iload_n hx hb dL_law_753 rfl (lv_at hl 3 rfl) ?_
  refine lv_iconst (v := 1) hx hb dL_law_754 (by decide) ?_
  refine lv_iadd hx hb dL_law_755 ?_
  refine va_sld hx hb hX hbl hbA hS i1 dL_law_756 ?_
  refine zw_cV (r := (0, 0, 0)) (As := [.int (xs (x3 + 1).toNatClampNeg)]) (rest := []) (st1 := [.int (sp_count nr len σ (xs (x3 + 1).toNatClampNeg)).1]) ⟨hx, hb, hml, hown, hts⟩ (cd_count (σ := σ) hR hI.1 (xs (x3 + 1).toNatClampNeg)) (cwV 1 hts gL_law_X2_count rfl rfl rfl (by decide +kernel) ⟨Nat.le_of_ble_eq_true rfl, Nat.le_of_ble_eq_true rfl⟩) (hR.1 0 (by decide)) rfl rfl rfl hK hP hD hS hA hN rfl hl.1 rfl (Nat.le_of_ble_eq_true rfl) rfl dL_law_757 hc1 (fun H locs hP hD hS => ?_)
  refine lv_aload_n hx hb dL_law_760 rfl (lv_at hl 2 rfl) ?_
  refine lv_aload_n hx hb dL_law_761 rfl (lv_at hl 0 rfl) ?_
  refine lv_iload_n hx hb dL_law_762 rfl (lv_at hl 3 rfl) ?_
  refine lv_iconst (v := 1) hx hb dL_law_763 (by decide) ?_
  refine lv_iadd hx hb dL_law_764 ?_
  refine va_sld hx hb hX hbl hbA hS i1 dL_law_765 ?_
  refine zw_cV (r := (20, 0, 0)) (As := [.int (xs (x3 + 1).toNatClampNeg)]) (rest := [.int (sp_count nr len σ (xs (x3 + 1).toNatClampNeg)).1]) (st1 := [.int (sp_count nr len σ (xs (x3 + 1).toNatClampNeg)).1, .int (sp_count nr len σ (xs (x3 + 1).toNatClampNeg)).1]) ⟨hx, hb, hml, hown, hts⟩ (cm_count (σ := σ) hM hI.1 hI.2.1 (xs (x3 + 1).toNatClampNeg)) (cwV 1 hts gL_law_X3_count rfl rfl rfl (by decide +kernel) ⟨Nat.le_of_ble_eq_true rfl, Nat.le_of_ble_eq_true rfl⟩) (hM 0 (by decide)) rfl rfl rfl hK hP hD hS hA hN rfl hl.1 rfl (Nat.le_of_ble_eq_true rfl) rfl dL_law_766 hc1 (fun H locs hP hD hS => ?_)
  refine lv_icmp_eq (tgt := 787) hx hb dL_law_769 (by decide) (fun c_1 => ?_) (fun c_1 => absurd rfl c_1)
  refine W.widen (k := cells + 10) (n := slots + 273) (by omega) (by omega) ?_
  exact kk _ _ ⟨ad, R, nr, len, (sp_count nr len σ (xs (x3 + 1).toNatClampNeg)).2, hR, hZ, hM, sk_count (xs (x3 + 1).toNatClampNeg) hI, hP, hD, hS, hl⟩
set_option maxHeartbeats 4000000 in
set_option maxRecDepth 100000 in
/-- the call status -/
theorem lw_c20 {p : Program} {l : Launch} {e : Env} {s : State} {m : MethodId} {below : List Frame} {meth : Method} {c : Code} {b L : Nat} {xs : Nat → Int32} {dC : Nat → ClassId} {dI : Nat → Nat → Nat} {cA : Nat → ClassId} {x3 : Int32} {j cells slots : Nat} {H : Heap} {locs : List Loc} {ls : Array Slot} (C : lw_Cx p s m c b L xs dC dI cA) (h3 : x3 = nI j) (hj : j + 7 ≤ L) (hc : cells + 10 ≤ 600000 ∧ slots + 273 ≤ 7302250) (hO : lw_Ok dC dI cA b s ls x3 H locs) (kk : ∀ (H1 : Heap) (locs1 : List Loc), lw_Ok dC dI cA b s ls x3 H1 locs1 → W p l e room_1 s m #[Value.ref b] below meth c H1 locs1 (cells + 10) (slots + 273) (lw_Z below #[Value.ref b] s) (F0 m 787 ls [])) : W p l e room_1 s m #[Value.ref b] below meth c H locs cells slots (lw_Z below #[Value.ref b] s) (F0 m 774 ls []) := by
  obtain ⟨hx, hb, hml, hown, hts, hX, hbl, hK, hN, hL⟩ := C
  obtain ⟨ad, R, nr, len, σ, hR, hZ, hM, hI, hP, hD, hS, hl⟩ := hO
  have hA : ∀ q : Nat, s.heap.size ≤ q → (fun q : Nat => s.heap.size ≤ q) q := fun _ h => h
  have hbA : ¬ (fun q : Nat => s.heap.size ≤ q) b := Nat.not_le.mpr hbl
  have hc1 : cells ≤ room_1.cells ∧ slots ≤ room_1.slots := ⟨show cells ≤ 600000 by omega, show slots ≤ 7302250 by omega⟩
  refine lv_aload_n hx hb dL_law_774 rfl (lv_at hl 1 rfl) ?_
  refine zw_cV (r := (0, 0, 0)) (As := []) (rest := []) (st1 := [.int (sp_status nr len σ).1]) ⟨hx, hb, hml, hown, hts⟩ (cd_status (σ := σ) hR) (cwV 0 hts gL_law_X2_status rfl rfl rfl (by decide +kernel) ⟨Nat.le_of_ble_eq_true rfl, Nat.le_of_ble_eq_true rfl⟩) (hR.1 0 (by decide)) rfl rfl rfl hK hP hD hS hA hN rfl hl.1 rfl (Nat.le_of_ble_eq_true rfl) rfl dL_law_775 hc1 (fun H locs hP hD hS => ?_)
  refine lv_aload_n hx hb dL_law_778 rfl (lv_at hl 2 rfl) ?_
  refine zw_cV (r := (20, 0, 0)) (As := []) (rest := [.int (sp_status nr len σ).1]) (st1 := [.int (sp_status nr len σ).1, .int (sp_status nr len σ).1]) ⟨hx, hb, hml, hown, hts⟩ (cm_status (nr := nr) (σ := σ) hM) (cwV 0 hts gL_law_X3_status rfl rfl rfl (by decide +kernel) ⟨Nat.le_of_ble_eq_true rfl, Nat.le_of_ble_eq_true rfl⟩) (hM 0 (by decide)) rfl rfl rfl hK hP hD hS hA hN rfl hl.1 rfl (Nat.le_of_ble_eq_true rfl) rfl dL_law_779 hc1 (fun H locs hP hD hS => ?_)
  refine lv_icmp_eq (tgt := 787) hx hb dL_law_782 (by decide) (fun c_1 => ?_) (fun c_1 => absurd rfl c_1)
  refine W.widen (k := cells + 10) (n := slots + 273) (by omega) (by omega) ?_
  exact kk _ _ ⟨ad, R, nr, len, (sp_status nr len σ).2, hR, hZ, hM, sk_status hI, hP, hD, hS, hl⟩
