set_option maxHeartbeats 4000000 in
set_option maxRecDepth 100000 in
/-- THE LAW'S LOOP: with j calls done, class and reference hold the same numbers -/
theorem lw_loop {p : Program} {l : Launch} {e : Env} {s : State} {m : MethodId} {below : List Frame} {meth : Method} {c : Code} {b L : Nat} {xs : Nat → Int32} {dC : Nat → ClassId} {dI : Nat → Nat → Nat} {cA : Nat → ClassId} (C : lw_Cx p s m c b L xs dC dI cA) (hr : meth.sig.returnType = ret) (hlocks : meth.locks = false) : ∀ (n j : Nat) (x3 : Int32) (H : Heap) (locs : List Loc) (ls : Array Slot), x3 = nI (7 * j) → 7 * j ≤ L → L + 1 ≤ 7 * j + n → lw_Ok dC dI cA b s ls x3 H locs → W p l e room_1 s m #[Value.ref b] below meth c H locs (20 + 10 * j) (4000 + 273 * j) (lw_Z below #[Value.ref b] s) (F0 m 18 ls []) := by
  intro n
  induction n with
  | zero =>
    intro j x3 H locs ls h3 h1 h2
    exact absurd h2 (by omega)
  | succ n ih =>
    intro j x3 H locs ls h3 hj7 hn hO
    obtain ⟨hx, hb, hml, hown, hts, hX, hbl, hK, hN, hL⟩ := id C
    have hbA : ¬ (fun q : Nat => s.heap.size ≤ q) b := Nat.not_le.mpr hbl
    have tail : ∀ (H1 : Heap) (locs1 : List Loc), 7 * j + 7 ≤ L → lw_Ok dC dI cA b s ls x3 H1 locs1 → W p l e room_1 s m #[Value.ref b] below meth c H1 locs1 (20 + 10 * j + 10) (4000 + 273 * j + 273) (lw_Z below #[Value.ref b] s) (F0 m 787 ls []) := by
      intro H1 locs1 hj hO1
      obtain ⟨ad, R, nr, len, σ, hR, hZ, hM, hI, hP, hD, hS, hl⟩ := hO1
      refine lv_iinc (v := x3 + 7) (lv' := [(3, .int (x3 + 7)), (0, .ref b), (1, .ref (ad (0, 0, 0))), (2, .ref (ad (20, 0, 0)))]) hx hb dL_law_787 hl (k := 3) rfl rfl (by decide) rfl (fun ls hl => ?_)
      refine lv_goto (tgt := 18) hx hb dL_law_790 (by decide) ?_
      refine W.widen (k := 20 + 10 * (j + 1)) (n := 4000 + 273 * (j + 1)) (by omega) (by omega) ?_
      exact ih (j + 1) (x3 + 7) H1 locs1 ls (by rw [h3, show (7 : Int32) = nI 7 from rfl, nI_add]; congr 1) (by omega) (by omega) ⟨ad, R, nr, len, σ, hR, hZ, hM, hI, hP, hD, hS, lv_sub hl [1, 2, 3, 0] rfl⟩
    obtain ⟨ad, R, nr, len, σ, hR, hZ, hM, hI, hP, hD, hS, hl⟩ := id hO
    refine lv_iload_n hx hb dL_law_18 rfl (lv_at hl 3 rfl) ?_
    refine lv_aload_n hx hb dL_law_19 rfl (lv_at hl 0 rfl) ?_
    refine va_slen hx hb hX hbl hbA hS dL_law_20 ?_
    refine lv_bipush (v := 7) hx hb dL_law_21 (by decide) ?_
    refine lv_isub hx hb dL_law_23 ?_
    refine lv_icmp_gt (tgt := 793) hx hb dL_law_24 (by decide) (fun c_1 => ?_) (fun c_1 => ?_)
    · refine lv_iconst (v := 1) hx hb dL_law_793 (by decide) ?_
      refine va_forget (fun q hq => hS.2.2 q hq) ?_
      refine W.widen (k := 600000) (n := 7302250) (by omega) (by omega) ?_
      exact lw_ret hx hb hr hlocks dL_law_794
    · have hj : 7 * j + 7 ≤ L := by
        have q := ze_nl c_1
        rw [show (Int32.ofNat L - 7 : Int32) = nI L - nI 7 from rfl, pk_sub_toInt (by omega) (by decide), h3, nI_toInt (by omega)] at q
        omega
      refine lv_aload_n hx hb dL_law_27 rfl (lv_at hl 0 rfl) ?_
      refine lv_iload_n hx hb dL_law_28 rfl (lv_at hl 3 rfl) ?_
      refine va_sld hx hb hX hbl hbA hS (by rw [h3]; exact vp_in_nI (by omega) (by omega)) dL_law_29 ?_
      refine lv_bipush (v := 31) hx hb dL_law_30 (by decide) ?_
      refine lv_iand hx hb dL_law_32 ?_
      obtain ⟨t, ht, et⟩ := pk_andE (xs x3.toNatClampNeg) (m := 31) 5 (by decide)
      rw [et]
      have hc : 20 + 10 * j + 10 ≤ 600000 ∧ 4000 + 273 * j + 273 ≤ 7302250 := ⟨by omega, by omega⟩
      have hk : t = 0 ∨ t = 1 ∨ t = 2 ∨ t = 3 ∨ t = 4 ∨ t = 5 ∨ t = 6 ∨ t = 7 ∨ t = 8 ∨ t = 9 ∨ t = 10 ∨ t = 11 ∨ t = 12 ∨ t = 13 ∨ t = 14 ∨ t = 15 ∨ t = 16 ∨ t = 17 ∨ t = 18 ∨ t = 19 ∨ t = 20 ∨ 21 ≤ t := by omega
      rcases hk with rfl | rfl | rfl | rfl | rfl | rfl | rfl | rfl | rfl | rfl | rfl | rfl | rfl | rfl | rfl | rfl | rfl | rfl | rfl | rfl | rfl | h21
      · refine lv_tableIn (off := 99) (tgt := 132) hx hb dL_law_33 (by decide) (by decide) rfl (by decide) ?_
        exact lw_c0 C h3 hj hc hO (fun H1 locs1 hO1 => tail H1 locs1 hj hO1)
      · refine lv_tableIn (off := 132) (tgt := 165) hx hb dL_law_33 (by decide) (by decide) rfl (by decide) ?_
        exact lw_c1 C h3 hj hc hO (fun H1 locs1 hO1 => tail H1 locs1 hj hO1)
      · refine lv_tableIn (off := 165) (tgt := 198) hx hb dL_law_33 (by decide) (by decide) rfl (by decide) ?_
        exact lw_c2 C h3 hj hc hO (fun H1 locs1 hO1 => tail H1 locs1 hj hO1)
      · refine lv_tableIn (off := 198) (tgt := 231) hx hb dL_law_33 (by decide) (by decide) rfl (by decide) ?_
        exact lw_c3 C h3 hj hc hO (fun H1 locs1 hO1 => tail H1 locs1 hj hO1)
      · refine lv_tableIn (off := 221) (tgt := 254) hx hb dL_law_33 (by decide) (by decide) rfl (by decide) ?_
        exact lw_c4 C h3 hj hc hO (fun H1 locs1 hO1 => tail H1 locs1 hj hO1)
      · refine lv_tableIn (off := 254) (tgt := 287) hx hb dL_law_33 (by decide) (by decide) rfl (by decide) ?_
        exact lw_c5 C h3 hj hc hO (fun H1 locs1 hO1 => tail H1 locs1 hj hO1)
      · refine lv_tableIn (off := 287) (tgt := 320) hx hb dL_law_33 (by decide) (by decide) rfl (by decide) ?_
        exact lw_c6 C h3 hj hc hO (fun H1 locs1 hO1 => tail H1 locs1 hj hO1)
      · refine lv_tableIn (off := 320) (tgt := 353) hx hb dL_law_33 (by decide) (by decide) rfl (by decide) ?_
        exact lw_c7 C h3 hj hc hO (fun H1 locs1 hO1 => tail H1 locs1 hj hO1)
      · refine lv_tableIn (off := 343) (tgt := 376) hx hb dL_law_33 (by decide) (by decide) rfl (by decide) ?_
        exact lw_c8 C h3 hj hc hO (fun H1 locs1 hO1 => tail H1 locs1 hj hO1)
      · refine lv_tableIn (off := 366) (tgt := 399) hx hb dL_law_33 (by decide) (by decide) rfl (by decide) ?_
        exact lw_c9 C h3 hj hc hO (fun H1 locs1 hO1 => tail H1 locs1 hj hO1)
      · refine lv_tableIn (off := 399) (tgt := 432) hx hb dL_law_33 (by decide) (by decide) rfl (by decide) ?_
        exact lw_c10 C h3 hj hc hO (fun H1 locs1 hO1 => tail H1 locs1 hj hO1)
      · refine lv_tableIn (off := 422) (tgt := 455) hx hb dL_law_33 (by decide) (by decide) rfl (by decide) ?_
        exact lw_c11 C h3 hj hc hO (fun H1 locs1 hO1 => tail H1 locs1 hj hO1)
      · refine lv_tableIn (off := 497) (tgt := 530) hx hb dL_law_33 (by decide) (by decide) rfl (by decide) ?_
        exact lw_c12 C h3 hj hc hO (fun H1 locs1 hO1 => tail H1 locs1 hj hO1)
      · refine lv_tableIn (off := 530) (tgt := 563) hx hb dL_law_33 (by decide) (by decide) rfl (by decide) ?_
        exact lw_c13 C h3 hj hc hO (fun H1 locs1 hO1 => tail H1 locs1 hj hO1)
      · refine lv_tableIn (off := 563) (tgt := 596) hx hb dL_law_33 (by decide) (by decide) rfl (by decide) ?_
        exact lw_c14 C h3 hj hc hO (fun H1 locs1 hO1 => tail H1 locs1 hj hO1)
      · refine lv_tableIn (off := 596) (tgt := 629) hx hb dL_law_33 (by decide) (by decide) rfl (by decide) ?_
        exact lw_c15 C h3 hj hc hO (fun H1 locs1 hO1 => tail H1 locs1 hj hO1)
      · refine lv_tableIn (off := 639) (tgt := 672) hx hb dL_law_33 (by decide) (by decide) rfl (by decide) ?_
        exact lw_c16 C h3 hj hc hO (fun H1 locs1 hO1 => tail H1 locs1 hj hO1)
      · refine lv_tableIn (off := 672) (tgt := 705) hx hb dL_law_33 (by decide) (by decide) rfl (by decide) ?_
        exact lw_c17 C h3 hj hc hO (fun H1 locs1 hO1 => tail H1 locs1 hj hO1)
      · refine lv_tableIn (off := 695) (tgt := 728) hx hb dL_law_33 (by decide) (by decide) rfl (by decide) ?_
        exact lw_c18 C h3 hj hc hO (fun H1 locs1 hO1 => tail H1 locs1 hj hO1)
      · refine lv_tableIn (off := 718) (tgt := 751) hx hb dL_law_33 (by decide) (by decide) rfl (by decide) ?_
        exact lw_c19 C h3 hj hc hO (fun H1 locs1 hO1 => tail H1 locs1 hj hO1)
      · refine lv_tableIn (off := 741) (tgt := 774) hx hb dL_law_33 (by decide) (by decide) rfl (by decide) ?_
        exact lw_c20 C h3 hj hc hO (fun H1 locs1 hO1 => tail H1 locs1 hj hO1)
      · refine lv_tableOut (tgt := 787) hx hb dL_law_33 (Or.inr (by rw [nI_toInt (by omega)]; omega)) (by decide) ?_
        refine W.widen (k := 20 + 10 * j + 10) (n := 4000 + 273 * j + 273) (by omega) (by omega) ?_
        exact tail H locs hj hO
