def sp_lay (nr : Nat) (len : Nat → Nat) (σ : sp_S) (p0 p1 : Int32) : Int32 × sp_S := if sp_v nr p0 p1 then ((if σ (8, p0.toNatClampNeg, p1.toNatClampNeg) 1 = 0 then 1 else 0), sp_e (zw_u (sp_s σ (8, p0.toNatClampNeg, p1.toNatClampNeg) 1 1) (9, p0.toNatClampNeg, p1.toNatClampNeg) (fun j => if j < len p0.toNatClampNeg then 0 else (sp_s σ (8, p0.toNatClampNeg, p1.toNatClampNeg) 1 1) (9, p0.toNatClampNeg, p1.toNatClampNeg) j)) 0) else (-1, sp_e σ 1)
def sp_sheet (nr : Nat) (len : Nat → Nat) (σ : sp_S) (p0 p1 : Int32) : Int32 × sp_S := if 16 < p0 then (-1, sp_e σ 1) else if p1 ≤ 16 then (if p0 < 0 then (-1, sp_e σ 4) else if 0 ≤ p1 then (p0 * p1, sp_e (zw_u (sp_s (sp_s σ (0, 0, 0) 5 p0) (0, 0, 0) 6 p1) (5, 0, 0) (fun j => if j < 256 then 0 else (sp_s (sp_s σ (0, 0, 0) 5 p0) (0, 0, 0) 6 p1) (5, 0, 0) j)) 0) else (-1, sp_e σ 4)) else (-1, sp_e σ 1)
def sp_mv (nr : Nat) (len : Nat → Nat) (σ : sp_S) (p0 : Int32) : Int32 × sp_S := if sp_v nr (σ (0, 0, 0) 1) p0 then (if σ (3, 0, 0) p0.toNatClampNeg = 0 then (0, σ) else if sp_f len σ (σ (0, 0, 0) 1).toNatClampNeg p0.toNatClampNeg (σ (0, 0, 0) 2 + σ (2, 0, 0) p0.toNatClampNeg) = 0 then (if σ (3, 0, 0) p0.toNatClampNeg = 1 then (0, sp_s σ (4, 0, 0) p0.toNatClampNeg (σ (4, 0, 0) p0.toNatClampNeg + sp_n len σ (σ (0, 0, 0) 1).toNatClampNeg p0.toNatClampNeg (σ (0, 0, 0) 2 + σ (2, 0, 0) p0.toNatClampNeg))) else if σ (3, 0, 0) p0.toNatClampNeg = 3 then (0, sp_s (sp_put len σ (σ (0, 0, 0) 1).toNatClampNeg p0.toNatClampNeg (σ (0, 0, 0) 2 + σ (2, 0, 0) p0.toNatClampNeg) (sp_n len σ (σ (0, 0, 0) 1).toNatClampNeg p0.toNatClampNeg (σ (0, 0, 0) 2 + σ (2, 0, 0) p0.toNatClampNeg) + σ (0, 0, 0) 3)) (0, 0, 0) 3 ((sp_put len σ (σ (0, 0, 0) 1).toNatClampNeg p0.toNatClampNeg (σ (0, 0, 0) 2 + σ (2, 0, 0) p0.toNatClampNeg) (sp_n len σ (σ (0, 0, 0) 1).toNatClampNeg p0.toNatClampNeg (σ (0, 0, 0) 2 + σ (2, 0, 0) p0.toNatClampNeg) + σ (0, 0, 0) 3)) (0, 0, 0) 3 + (sp_put len σ (σ (0, 0, 0) 1).toNatClampNeg p0.toNatClampNeg (σ (0, 0, 0) 2 + σ (2, 0, 0) p0.toNatClampNeg) (sp_n len σ (σ (0, 0, 0) 1).toNatClampNeg p0.toNatClampNeg (σ (0, 0, 0) 2 + σ (2, 0, 0) p0.toNatClampNeg) + σ (0, 0, 0) 3)) (0, 0, 0) 4)) else (0, sp_s (sp_put len σ (σ (0, 0, 0) 1).toNatClampNeg p0.toNatClampNeg (σ (0, 0, 0) 2 + σ (2, 0, 0) p0.toNatClampNeg) (σ (0, 0, 0) 3)) (0, 0, 0) 3 ((sp_put len σ (σ (0, 0, 0) 1).toNatClampNeg p0.toNatClampNeg (σ (0, 0, 0) 2 + σ (2, 0, 0) p0.toNatClampNeg) (σ (0, 0, 0) 3)) (0, 0, 0) 3 + (sp_put len σ (σ (0, 0, 0) 1).toNatClampNeg p0.toNatClampNeg (σ (0, 0, 0) 2 + σ (2, 0, 0) p0.toNatClampNeg) (σ (0, 0, 0) 3)) (0, 0, 0) 4))) else (sp_f len σ (σ (0, 0, 0) 1).toNatClampNeg p0.toNatClampNeg (σ (0, 0, 0) 2 + σ (2, 0, 0) p0.toNatClampNeg), σ)) else (0, σ)
def sp_tk (nr : Nat) (len : Nat → Nat) : Nat → Int32 → sp_S → sp_S
  | 0, _, σ => sp_s σ (0, 0, 0) 2 (σ (0, 0, 0) 2 + 1)
  | k + 1, t, σ => if (sp_mv nr len σ t).1 = 0 then sp_tk nr len k (t + 1) (sp_mv nr len σ t).2 else sp_s (sp_s (sp_mv nr len σ t).2 (0, 0, 0) 7 t) (0, 0, 0) 8 (sp_mv nr len σ t).1
theorem sp_01 : (0 : Int32) + 1 = 1 := rfl
theorem sp_12 : (1 : Int32) + 1 = 2 := rfl
theorem sp_23 : (2 : Int32) + 1 = 3 := rfl
def sp_rl (nr : Nat) (len : Nat → Nat) : Nat → Int32 → sp_S → Int32 × sp_S
  | 0, k, σ => (k, sp_e σ 0)
  | m + 1, k, σ => if sp_tk nr len 4 0 σ (0, 0, 0) 8 = 0 then sp_rl nr len m (k + 1) (sp_tk nr len 4 0 σ) else (k, sp_e (sp_tk nr len 4 0 σ) (sp_tk nr len 4 0 σ (0, 0, 0) 8))
def sp_run (nr : Nat) (len : Nat → Nat) (σ : sp_S) (p0 : Int32) : Int32 × sp_S := if sp_w p0 1 100 then (if σ (0, 0, 0) 1 = -1 then (0, sp_e σ 5) else sp_rl nr len p0.toNatClampNeg 0 (sp_s (sp_s σ (0, 0, 0) 7 (-1)) (0, 0, 0) 8 0)) else (0, sp_e σ 1)
def sp_dl (len : Nat → Nat) (i t : Nat) (a : Int32) (i2 t2 : Nat) : Nat → Int32 → sp_S → Int32 × sp_S
  | 0, k, σ => (k, sp_e σ 0)
  | m + 1, k, σ => if (if sp_f len σ i t (a + k) = 0 then sp_f len σ i2 t2 (σ (0, 0, 0) 2 + k) else sp_f len σ i t (a + k)) = 0 then sp_dl len i t a i2 t2 m (k + 1) (sp_put len σ i2 t2 (σ (0, 0, 0) 2 + k) (sp_n len σ i t (a + k))) else (k, sp_e σ (if sp_f len σ i t (a + k) = 0 then sp_f len σ i2 t2 (σ (0, 0, 0) 2 + k) else sp_f len σ i t (a + k)))
def sp_dub (nr : Nat) (len : Nat → Nat) (σ : sp_S) (p0 p1 p2 p3 p4 p5 : Int32) : Int32 × sp_S := if sp_v nr p0 p1 then (if sp_v nr p4 p5 then (if sp_w p3 0 64 then sp_dl len p0.toNatClampNeg p1.toNatClampNeg p2 p4.toNatClampNeg p5.toNatClampNeg p3.toNatClampNeg 0 σ else (0, sp_e σ 1)) else (0, sp_e σ 1)) else (0, sp_e σ 1)
def sp_ul (len : Nat → Nat) (i t : Nat) (a b : Int32) : Nat → Int32 → sp_S → Int32 × sp_S
  | 0, k, σ => (k, sp_e σ 0)
  | m + 1, k, σ => if (if sp_f len σ i t (a + k) = 0 then sp_f len σ i t (b - k) else sp_f len σ i t (a + k)) = 0 then sp_ul len i t a b m (k + 1) (sp_put len (sp_put len σ i t (a + k) (sp_n len σ i t (b - k))) i t (b - k) (sp_n len σ i t (a + k))) else (k, sp_e σ (if sp_f len σ i t (a + k) = 0 then sp_f len σ i t (b - k) else sp_f len σ i t (a + k)))
def sp_turn (nr : Nat) (len : Nat → Nat) (σ : sp_S) (p0 p1 : Int32) : Int32 × sp_S := if sp_w p1 0 64 then (if sp_v nr (σ (0, 0, 0) 1) p0 then sp_ul len (σ (0, 0, 0) 1).toNatClampNeg p0.toNatClampNeg (σ (0, 0, 0) 2 + σ (2, 0, 0) p0.toNatClampNeg) ((σ (0, 0, 0) 2 + σ (2, 0, 0) p0.toNatClampNeg) + p1 - 1) (p1.toNatClampNeg / 2) 0 σ else (0, sp_e σ (if sp_t p0 then 5 else 1))) else (0, sp_e σ 1)
def sp_sl (len : Nat → Nat) (i t : Nat) (a v : Int32) : Nat → Int32 → sp_S → Int32 × sp_S
  | 0, _, σ => (-1, sp_e σ 3)
  | m + 1, k, σ => if sp_f len σ i t (a + k) = 0 then (if sp_n len σ i t (a + k) = v then (k, sp_e σ 0) else sp_sl len i t a v m (k + 1) σ) else (-1, sp_e σ (sp_f len σ i t (a + k)))
def sp_scan (nr : Nat) (len : Nat → Nat) (σ : sp_S) (p0 p1 : Int32) : Int32 × sp_S := if sp_v nr (σ (0, 0, 0) 1) p0 then sp_sl len (σ (0, 0, 0) 1).toNatClampNeg p0.toNatClampNeg (σ (0, 0, 0) 2 + σ (2, 0, 0) p0.toNatClampNeg) p1 64 0 σ else (-1, sp_e σ (if sp_t p0 then 5 else 1))
theorem ze_nn {x : Int32} (h : 0 ≤ x) : nI x.toNatClampNeg = x := by
  have h1 := ze_le h
  have h3 := ze_cl x
  have h4 : (0 : Int32).toInt = 0 := rfl
  have h5 := Int32.toInt_lt x
  apply Int32.toInt_inj.mp
  rw [nI_toInt (by omega)]
  omega
theorem ze_nb {x M : Int32} {n : Nat} (hM : M.toInt = n) (h0 : 0 ≤ x) (h : x ≤ M) : x.toNatClampNeg ≤ n := by
  have h1 := ze_le h0
  have h2 := ze_le h
  have h3 := ze_cl x
  have h4 : (0 : Int32).toInt = 0 := rfl
  omega
theorem ze_half {x : Int32} (h0 : 0 ≤ x) (h : x ≤ 64) : x / 2 = nI (x.toNatClampNeg / 2) ∧ (x / 2).toNatClampNeg = x.toNatClampNeg / 2 := by
  have hb := ze_nb (n := 64) rfl h0 h
  have e : x / 2 = nI (x.toNatClampNeg / 2) := by
    conv => lhs; rw [← ze_nn h0]
    exact pk_div (d := 2) (by omega) (by decide) (by decide)
  exact ⟨e, by rw [e, nI_clamp (by omega)]⟩
set_option maxHeartbeats 4000000 in
set_option maxRecDepth 100000 in
/-- Arrays.fill of an int array -/
theorem cj_fill {l : Launch} {E : zw_E} {ad : zw_R → Nat} {R : List zw_R} {cu : zw_R → va_E} {r : zw_R} (hr1 : r ∈ R) {a0 : ClassId} {n : Nat} {f : Nat → Int32} (he : cu r = .inl (a0, n, .inl f)) (ht : E.2.2[0]? = some (a0, .int)) (hn : n ≤ 256) (v : Int32) : zw_M l yJ7_fill_53178 wsJ7_fill_53178 { frames := 0, cells := 0, slots := 0, locals := 0 } E [.ref (ad r), .int v] ad R cu none (zw_u cu r (.inl (a0, n, .inl (fun j => if j < n then v else f j)))) := by
  refine zw_body (cc := cJ7_fill_53178) (maxL := 4) (ret := none) (by decide) rfl (Nat.le_of_ble_eq_true rfl) ?_
  intro p e s m below meth c A ls hx hb hr hlk hml hts hown hnm hA hK hP hD hS hN hl
  have hl : lv_has ls 4 [(0, .ref (ad r)), (1, .int v)] := hl
  have key : ∀ (mm j : Nat) (k : Int32) (H : Heap) (locs : List Loc) (ls : Array Slot), k = nI j → j + mm = n → va_P E.1 E.2.1 (zw_l ad R (zw_u cu r (.inl (a0, n, .inl (fun q => if q < j then v else f q))))) H → va_D A (zw_l ad R (zw_u cu r (.inl (a0, n, .inl (fun q => if q < j then v else f q))))) → va_S A s.heap H locs → lv_has ls 4 [(3, .int (Int32.ofNat n)), (2, .int k), (0, .ref (ad r)), (1, .int v)] → W p l e { frames := 0, cells := 0, slots := 0, locals := 0 } s m [Value.ref (ad r), Value.int v].toArray below meth c H locs 0 0 (MQ below (zw_Q none (zw_B E A ad R (zw_u cu r (.inl (a0, n, .inl (fun j => if j < n then v else f j))))) A) [Value.ref (ad r), Value.int v].toArray s 0 0 A) (F0 m 5 ls []) := by
    intro mm
    induction mm with
    | zero =>
      intro j k H locs ls hk hj hP hD hS hl
      have hge : Int32.ofNat n ≤ k := by rw [hk]; exact nI_le (by omega) (by omega)
      refine lv_iload_n hx hb dJ7_fill_53178_5 rfl (lv_at hl 1 rfl) ?_
      refine lv_iload_n hx hb dJ7_fill_53178_6 rfl (lv_at hl 0 rfl) ?_
      refine lv_icmp_ge (tgt := 20) hx hb dJ7_fill_53178_7 (by decide) (fun c_1 => ?_) (fun c_1 => absurd hge c_1)
      have hjn : j = n := by omega
      subst hjn
      exact zw_vret hx hb hr hlk hK hP hD hS dJ7_fill_53178_20 rfl rfl
    | succ mm ih =>
      intro j k H locs ls hk hj hP hD hS hl
      have hlt : ¬ Int32.ofNat n ≤ k := by rw [hk]; exact nI_ge (by omega) (by omega)
      refine lv_iload_n hx hb dJ7_fill_53178_5 rfl (lv_at hl 1 rfl) ?_
      refine lv_iload_n hx hb dJ7_fill_53178_6 rfl (lv_at hl 0 rfl) ?_
      refine lv_icmp_ge (tgt := 20) hx hb dJ7_fill_53178_7 (by decide) (fun c_1 => absurd c_1 hlt) (fun c_1 => ?_)
      refine lv_aload_n hx hb dJ7_fill_53178_10 rfl (lv_at hl 2 rfl) ?_
      refine lv_iload_n hx hb dJ7_fill_53178_11 rfl (lv_at hl 1 rfl) ?_
      refine lv_iload_n hx hb dJ7_fill_53178_12 rfl (lv_at hl 3 rfl) ?_
      refine zw_iast (r := r) hx hb hK hP hD hS hr1 0 (zw_us _ _ _) ht (by rw [hk]; exact vp_in_nI (by omega) (by omega)) dJ7_fill_53178_13 (cu1 := zw_u cu r (.inl (a0, n, .inl (fun q => if q < j + 1 then v else f q)))) ?_ (fun H locs hP hD hS => ?_)
      · rw [zw_uu, hk, nI_clamp (by omega)]
        congr 5
        funext q
        unfold upd
        by_cases h1 : q = j
        · subst h1
          simp
        · by_cases h2 : q < j
          · rw [if_neg h1, if_pos (show q < j + 1 by omega)]
            exact (if_pos h2).symm
          · rw [if_neg h1, if_neg (show ¬ q < j + 1 by omega)]
            exact (if_neg h2).symm
      refine lv_iinc (v := k + 1) (lv' := [(2, .int (k + 1)), (3, .int (Int32.ofNat n)), (0, .ref (ad r)), (1, .int v)]) hx hb dJ7_fill_53178_14 hl (k := 1) rfl rfl (by decide) rfl (fun ls hl => ?_)
      refine lv_goto (tgt := 5) hx hb dJ7_fill_53178_17 (by decide) ?_
      exact ih (j + 1) (k + 1) _ _ _ (by rw [hk, nI_1]) (by omega) hP hD hS (lv_sub hl [1, 0, 2, 3] rfl)
  refine lv_iconst (v := 0) hx hb dJ7_fill_53178_0 (by decide) ?_
  refine lv_istore_n (lv' := [(2, .int 0), (0, .ref (ad r)), (1, .int v)]) hx hb dJ7_fill_53178_1 rfl hl (by decide) rfl (fun ls hl => ?_)
  refine lv_aload_n hx hb dJ7_fill_53178_2 rfl (lv_at hl 1 rfl) ?_
  refine zw_alen (r := r) (v := Int32.ofNat n) hx hb hK hP hr1 0 he ht rfl dJ7_fill_53178_3 ?_
  refine lv_istore_n (lv' := [(3, .int (Int32.ofNat n)), (2, .int 0), (0, .ref (ad r)), (1, .int v)]) hx hb dJ7_fill_53178_4 rfl hl (by decide) rfl (fun ls hl => ?_)
  have hcu : zw_u cu r (.inl (a0, n, .inl (fun q => if q < 0 then v else f q))) = cu := by
    funext q
    by_cases h : q = r
    · subst h
      rw [zw_us, he]
      simp
    · rw [zw_un _ _ h]
  exact key n 0 0 _ _ _ nI_0.symm (by omega) (by rw [hcu]; exact hP) (by rw [hcu]; exact hD) hS hl
theorem zw_Meq {l : Launch} {y : MethodName} {ws : List Cond} {rm : Room} {E : zw_E} {av : List Value} {ad : zw_R → Nat} {R : List zw_R} {cu cu1 cu2 : zw_R → va_E} {ans : Option Value} (h : zw_M l y ws rm E av ad R cu ans cu1) (e : cu2 = cu1) : zw_M l y ws rm E av ad R cu ans cu2 := e ▸ h
set_option maxHeartbeats 4000000 in
set_option maxRecDepth 100000 in
/-- Track.wipe -/
theorem cd_wipe {l : Launch} {dC : Nat → ClassId} {dI : Nat → Nat → Nat} {cA : Nat → ClassId} {ad : zw_R → Nat} {R : List zw_R} {nr : Nat} {len : Nat → Nat} {σ : sp_S} {cM : zw_R → va_E} (hR : ze_R nr R) (i t : Nat) (hi : i < nr) (ht : t < 4) (hlen : len i ≤ 64) : zw_M l yX1_wipe wsX1_wipe { frames := 1, cells := 0, slots := 0, locals := 23 } (ze_E dC dI cA) [.ref (ad (8, i, t))] ad R (ze_X (ze_D cA ad nr len σ) cM) none (ze_X (ze_D cA ad nr len (zw_u σ (9, i, t) (fun j => if j < len i then 0 else σ (9, i, t) j))) cM) := by
  refine zw_body (cc := cX1_wipe) (maxL := 1) (ret := none) (by decide) rfl (Nat.le_of_ble_eq_true rfl) ?_
  intro p e s m below meth c A ls hx hb hr hlk hml hts hown hnm hA hK hP hD hS hN hl
  have hl : lv_has ls 1 [(0, .ref (ad (8, i, t)))] := hl
  have hwX1 : ∀ w ∈ u_ws RX1 TX1 3, w ∈ wsX1_wipe := by decide +kernel
  refine lv_aload_n hx hb dX1_wipe_0 rfl (lv_at hl 0 rfl) ?_
  refine zw_getf (r := (8, i, t)) (v := .ref (ad (9, i, t))) (C := RX1) (T := TX1) (N := 3) (ci := 1) hx hb hts hwX1 hown hK hP ((hR.2 i hi).2.2 t ht).1 rfl rfl 1 (by decide) (hts (.fieldLink RX1 15 "FourTrackDeck$Track" "numbers" "[I") (by decide +kernel)) (fun _ h9 => h9) rfl dX1_wipe_1 ?_
  refine lv_iconst (v := 0) hx hb dX1_wipe_4 (by decide) ?_
  refine zw_cS (As := [.ref (ad (9, i, t)), .int 0]) (rest := []) (st1 := []) ⟨hx, hb, hml, hown, hts⟩ (zw_Meq (cj_fill (r := (9, i, t)) (n := len i) (f := σ (9, i, t)) ((hR.2 i hi).2.2 t ht).2 rfl rfl (Nat.le_trans hlen (by decide)) 0) (ze_up (σ := σ) (x := fun j => if j < len i then 0 else σ (9, i, t) j) rfl rfl)) (va_cwS 2 hts gX1_wipe_J7_fill_53178 rfl rfl rfl (by decide +kernel) ⟨Nat.le_of_ble_eq_true rfl, Nat.le_of_ble_eq_true rfl⟩) hK hP hD hS hA hN rfl hl.1 rfl (Nat.le_of_ble_eq_true rfl) rfl dX1_wipe_5 ⟨Nat.zero_le _, Nat.zero_le _⟩ (fun H locs hP hD hS => ?_)
  exact zw_vret hx hb hr hlk hK hP hD hS dX1_wipe_8 rfl rfl
set_option maxHeartbeats 4000000 in
set_option maxRecDepth 100000 in
theorem cd_lay {l : Launch} {dC : Nat → ClassId} {dI : Nat → Nat → Nat} {cA : Nat → ClassId} {ad : zw_R → Nat} {R : List zw_R} {nr : Nat} {len : Nat → Nat} {σ : sp_S} {cM : zw_R → va_E} (hR : ze_R nr R) (hnr : nr ≤ 8) (hlen : ∀ i, i < nr → len i ≤ 64) (p0 p1 : Int32) : zw_M l yX2_lay wsX2_lay { frames := 3, cells := 0, slots := 0, locals := 65 } (ze_E dC dI cA) [.ref (ad (0, 0, 0)), .int p0, .int p1] ad R (ze_X (ze_D cA ad nr len σ) cM) (some (.int ((sp_lay nr len σ p0 p1).1))) (ze_X (ze_D cA ad nr len (sp_lay nr len σ p0 p1).2) cM) := by
  refine zw_body (cc := cX2_lay) (maxL := 5) (ret := (some .int)) (by decide) rfl (Nat.le_of_ble_eq_true rfl) ?_
  intro p e s m below meth c A ls hx hb hr hlk hml hts hown hnm hA hK hP hD hS hN hl
  have hl : lv_has ls 5 [(0, .ref (ad (0, 0, 0))), (1, .int p0), (2, .int p1)] := hl
  have hwX1 : ∀ w ∈ u_ws RX1 TX1 3, w ∈ wsX2_lay := by decide +kernel
  refine lv_aload_n hx hb dX2_lay_0 rfl (lv_at hl 0 rfl) ?_
  refine lv_iload_n hx hb dX2_lay_1 rfl (lv_at hl 1 rfl) ?_
  refine lv_iload_n hx hb dX2_lay_2 rfl (lv_at hl 2 rfl) ?_
  rcases Decidable.em (sp_v nr p0 p1) with h_1 | h_1
  · refine zw_cV (r := (0, 0, 0)) (As := [.int p0, .int p1]) (rest := []) (st1 := [.ref (ad (8, p0.toNatClampNeg, p1.toNatClampNeg))]) ⟨hx, hb, hml, hown, hts⟩ (cd_trackOf_1 (σ := σ) hR hnr p0 p1 h_1) (cwV 2 hts gX2_lay_X2_trackOf rfl rfl rfl (by decide +kernel) ⟨Nat.le_of_ble_eq_true rfl, Nat.le_of_ble_eq_true rfl⟩) (hR.1 0 (by decide)) rfl rfl rfl hK hP hD hS hA hN rfl hl.1 rfl (Nat.le_of_ble_eq_true rfl) rfl dX2_lay_3 ⟨Nat.zero_le _, Nat.zero_le _⟩ (fun H locs hP hD hS => ?_)
    refine lv_astore_n (lv' := [(3, .ref (ad (8, p0.toNatClampNeg, p1.toNatClampNeg))), (0, .ref (ad (0, 0, 0))), (1, .int p0), (2, .int p1)]) hx hb dX2_lay_6 rfl hl (by decide) rfl (fun ls hl => ?_)
    refine lv_aload_n hx hb dX2_lay_7 rfl (lv_at hl 0 rfl) ?_
    refine lv_ifnonnull (tgt := 18) hx hb dX2_lay_8 (by decide) ?_
    refine lv_aload_n hx hb dX2_lay_18 rfl (lv_at hl 0 rfl) ?_
    refine zw_getN (r := (8, p0.toNatClampNeg, p1.toNatClampNeg)) (v := .int (σ (8, p0.toNatClampNeg, p1.toNatClampNeg) 1)) (C := RX1) (T := TX1) (N := 3) (ci := 1) hx hb hts hwX1 hown hK hP ((hR.2 p0.toNatClampNeg (ze_vr h_1.1 hnr)).2.2 p1.toNatClampNeg (ze_vt h_1.2)).1 rfl rfl 2 (by decide) ((hN.1 ("FourTrackDeck", 74, "FourTrackDeck$Track", "isThere", "Z", "FourTrackDeck") (by decide +kernel)).use rfl) (fun _ h9 => h9) rfl dX2_lay_19 ?_
    refine lv_if_eq (tgt := 29) hx hb dX2_lay_22 (by decide) (fun c_2 => ?_) (fun c_2 => ?_)
    · refine lv_iconst (v := 1) hx hb dX2_lay_29 (by decide) ?_
      refine lv_istore (lv' := [(4, .int 1), (3, .ref (ad (8, p0.toNatClampNeg, p1.toNatClampNeg))), (0, .ref (ad (0, 0, 0))), (1, .int p0), (2, .int p1)]) hx hb dX2_lay_30 hl (by decide) rfl (fun ls hl => ?_)
      refine lv_aload_n hx hb dX2_lay_32 rfl (lv_at hl 1 rfl) ?_
      refine lv_iconst (v := 1) hx hb dX2_lay_33 (by decide) ?_
      refine zw_putN (r := (8, p0.toNatClampNeg, p1.toNatClampNeg)) (v := .int 1) (C := RX1) (T := TX1) (N := 3) (ci := 1) hx hb hts hwX1 tyX1 tyX1_ok nmX1 hown hK hP hD hS ((hR.2 p0.toNatClampNeg (ze_vr h_1.1 hnr)).2.2 p1.toNatClampNeg (ze_vt h_1.2)).1 rfl rfl 2 (by decide) ((hN.1 ("FourTrackDeck", 74, "FourTrackDeck$Track", "isThere", "Z", "FourTrackDeck") (by decide +kernel)).use rfl) (fun _ h9 => h9) rfl (ty := .boolean) (by decide +kernel) rfl rfl (Nat.le_of_ble_eq_true rfl) dX2_lay_34 (cu1 := ze_X (ze_D cA ad nr len (sp_s σ (8, p0.toNatClampNeg, p1.toNatClampNeg) 1 1)) cM) (ze_up rfl rfl) (fun H locs hP hD hS => ?_)
      refine lv_aload_n hx hb dX2_lay_37 rfl (lv_at hl 1 rfl) ?_
      refine zw_cVN (r := (8, p0.toNatClampNeg, p1.toNatClampNeg)) (As := []) (rest := []) (st1 := []) ⟨hx, hb, hml, hown, hts⟩ (cd_wipe (σ := (sp_s σ (8, p0.toNatClampNeg, p1.toNatClampNeg) 1 1)) hR p0.toNatClampNeg p1.toNatClampNeg (ze_vr h_1.1 hnr) (ze_vt h_1.2) (hlen _ (ze_vr h_1.1 hnr))) ⟨va_cnB (host := "FourTrackDeck") 0 hts gX2_lay_X1_wipe_n80 rfl rfl rfl (hN.2.1 ("FourTrackDeck", 80, yX1_wipe, "FourTrackDeck") (by decide +kernel)) (hts (.initialized RX1) (by decide +kernel)) (by decide +kernel) ⟨Nat.le_of_ble_eq_true rfl, Nat.le_of_ble_eq_true rfl⟩, hts (.instanceMethod yX1_wipe) (by decide +kernel), hts (.selects RX1 yX1_wipe yX1_wipe) (by decide +kernel)⟩ ((hR.2 p0.toNatClampNeg (ze_vr h_1.1 hnr)).2.2 p1.toNatClampNeg (ze_vt h_1.2)).1 rfl rfl rfl hK hP hD hS hA hN rfl hl.1 rfl (Nat.le_of_ble_eq_true rfl) rfl dX2_lay_38 ⟨Nat.zero_le _, Nat.zero_le _⟩ (fun H locs hP hD hS => ?_)
      refine lv_aload_n hx hb dX2_lay_41 rfl (lv_at hl 2 rfl) ?_
      refine lv_iconst (v := 0) hx hb dX2_lay_42 (by decide) ?_
      refine lv_iload hx hb dX2_lay_43 (lv_at hl 0 rfl) ?_
      refine zw_cV (r := (0, 0, 0)) (As := [.int 0, .int 1]) (rest := []) (st1 := [.int 1]) ⟨hx, hb, hml, hown, hts⟩ (cd_end (σ := (zw_u (sp_s σ (8, p0.toNatClampNeg, p1.toNatClampNeg) 1 1) (9, p0.toNatClampNeg, p1.toNatClampNeg) (fun j => if j < len p0.toNatClampNeg then 0 else (sp_s σ (8, p0.toNatClampNeg, p1.toNatClampNeg) 1 1) (9, p0.toNatClampNeg, p1.toNatClampNeg) j))) hR 0 1) (cwV 2 hts gX2_lay_X2_end rfl rfl rfl (by decide +kernel) ⟨Nat.le_of_ble_eq_true rfl, Nat.le_of_ble_eq_true rfl⟩) (hR.1 0 (by decide)) rfl rfl rfl hK hP hD hS hA hN rfl hl.1 rfl (Nat.le_of_ble_eq_true rfl) rfl dX2_lay_45 ⟨Nat.zero_le _, Nat.zero_le _⟩ (fun H locs hP hD hS => ?_)
      exact zw_iret hx hb hr hlk hK hP hD hS dX2_lay_48 (by simp only [sp_lay, if_pos h_1, if_pos c_2] <;> rfl) (by simp only [sp_lay, if_pos h_1, if_pos c_2] <;> rfl)
    · refine lv_iconst (v := 0) hx hb dX2_lay_25 (by decide) ?_
      refine lv_goto (tgt := 30) hx hb dX2_lay_26 (by decide) ?_
      refine lv_istore (lv' := [(4, .int 0), (3, .ref (ad (8, p0.toNatClampNeg, p1.toNatClampNeg))), (0, .ref (ad (0, 0, 0))), (1, .int p0), (2, .int p1)]) hx hb dX2_lay_30 hl (by decide) rfl (fun ls hl => ?_)
      refine lv_aload_n hx hb dX2_lay_32 rfl (lv_at hl 1 rfl) ?_
      refine lv_iconst (v := 1) hx hb dX2_lay_33 (by decide) ?_
      refine zw_putN (r := (8, p0.toNatClampNeg, p1.toNatClampNeg)) (v := .int 1) (C := RX1) (T := TX1) (N := 3) (ci := 1) hx hb hts hwX1 tyX1 tyX1_ok nmX1 hown hK hP hD hS ((hR.2 p0.toNatClampNeg (ze_vr h_1.1 hnr)).2.2 p1.toNatClampNeg (ze_vt h_1.2)).1 rfl rfl 2 (by decide) ((hN.1 ("FourTrackDeck", 74, "FourTrackDeck$Track", "isThere", "Z", "FourTrackDeck") (by decide +kernel)).use rfl) (fun _ h9 => h9) rfl (ty := .boolean) (by decide +kernel) rfl rfl (Nat.le_of_ble_eq_true rfl) dX2_lay_34 (cu1 := ze_X (ze_D cA ad nr len (sp_s σ (8, p0.toNatClampNeg, p1.toNatClampNeg) 1 1)) cM) (ze_up rfl rfl) (fun H locs hP hD hS => ?_)
      refine lv_aload_n hx hb dX2_lay_37 rfl (lv_at hl 1 rfl) ?_
      refine zw_cVN (r := (8, p0.toNatClampNeg, p1.toNatClampNeg)) (As := []) (rest := []) (st1 := []) ⟨hx, hb, hml, hown, hts⟩ (cd_wipe (σ := (sp_s σ (8, p0.toNatClampNeg, p1.toNatClampNeg) 1 1)) hR p0.toNatClampNeg p1.toNatClampNeg (ze_vr h_1.1 hnr) (ze_vt h_1.2) (hlen _ (ze_vr h_1.1 hnr))) ⟨va_cnB (host := "FourTrackDeck") 0 hts gX2_lay_X1_wipe_n80 rfl rfl rfl (hN.2.1 ("FourTrackDeck", 80, yX1_wipe, "FourTrackDeck") (by decide +kernel)) (hts (.initialized RX1) (by decide +kernel)) (by decide +kernel) ⟨Nat.le_of_ble_eq_true rfl, Nat.le_of_ble_eq_true rfl⟩, hts (.instanceMethod yX1_wipe) (by decide +kernel), hts (.selects RX1 yX1_wipe yX1_wipe) (by decide +kernel)⟩ ((hR.2 p0.toNatClampNeg (ze_vr h_1.1 hnr)).2.2 p1.toNatClampNeg (ze_vt h_1.2)).1 rfl rfl rfl hK hP hD hS hA hN rfl hl.1 rfl (Nat.le_of_ble_eq_true rfl) rfl dX2_lay_38 ⟨Nat.zero_le _, Nat.zero_le _⟩ (fun H locs hP hD hS => ?_)
      refine lv_aload_n hx hb dX2_lay_41 rfl (lv_at hl 2 rfl) ?_
      refine lv_iconst (v := 0) hx hb dX2_lay_42 (by decide) ?_
      refine lv_iload hx hb dX2_lay_43 (lv_at hl 0 rfl) ?_
      refine zw_cV (r := (0, 0, 0)) (As := [.int 0, .int 0]) (rest := []) (st1 := [.int 0]) ⟨hx, hb, hml, hown, hts⟩ (cd_end (σ := (zw_u (sp_s σ (8, p0.toNatClampNeg, p1.toNatClampNeg) 1 1) (9, p0.toNatClampNeg, p1.toNatClampNeg) (fun j => if j < len p0.toNatClampNeg then 0 else (sp_s σ (8, p0.toNatClampNeg, p1.toNatClampNeg) 1 1) (9, p0.toNatClampNeg, p1.toNatClampNeg) j))) hR 0 0) (cwV 2 hts gX2_lay_X2_end rfl rfl rfl (by decide +kernel) ⟨Nat.le_of_ble_eq_true rfl, Nat.le_of_ble_eq_true rfl⟩) (hR.1 0 (by decide)) rfl rfl rfl hK hP hD hS hA hN rfl hl.1 rfl (Nat.le_of_ble_eq_true rfl) rfl dX2_lay_45 ⟨Nat.zero_le _, Nat.zero_le _⟩ (fun H locs hP hD hS => ?_)
      exact zw_iret hx hb hr hlk hK hP hD hS dX2_lay_48 (by simp only [sp_lay, if_pos h_1, if_neg c_2] <;> rfl) (by simp only [sp_lay, if_pos h_1, if_neg c_2] <;> rfl)
  · refine zw_cV (r := (0, 0, 0)) (As := [.int p0, .int p1]) (rest := []) (st1 := [.null]) ⟨hx, hb, hml, hown, hts⟩ (cd_trackOf_0 (σ := σ) hR hnr p0 p1 h_1) (cwV 2 hts gX2_lay_X2_trackOf rfl rfl rfl (by decide +kernel) ⟨Nat.le_of_ble_eq_true rfl, Nat.le_of_ble_eq_true rfl⟩) (hR.1 0 (by decide)) rfl rfl rfl hK hP hD hS hA hN rfl hl.1 rfl (Nat.le_of_ble_eq_true rfl) rfl dX2_lay_3 ⟨Nat.zero_le _, Nat.zero_le _⟩ (fun H locs hP hD hS => ?_)
    refine lv_astore_nN (lv' := [(3, .null), (0, .ref (ad (0, 0, 0))), (1, .int p0), (2, .int p1)]) hx hb dX2_lay_6 rfl hl (by decide) rfl (fun ls hl => ?_)
    refine lv_aload_nN hx hb dX2_lay_7 rfl (lv_at hl 0 rfl) ?_
    refine lv_ifnonnullN hx hb dX2_lay_8 ?_
    refine lv_aload_n hx hb dX2_lay_11 rfl (lv_at hl 1 rfl) ?_
    refine lv_iconst (v := 1) hx hb dX2_lay_12 (by decide) ?_
    refine lv_iconst (v := (-1)) hx hb dX2_lay_13 (by decide) ?_
    refine zw_cV (r := (0, 0, 0)) (As := [.int 1, .int (-1)]) (rest := []) (st1 := [.int (-1)]) ⟨hx, hb, hml, hown, hts⟩ (cd_end (σ := σ) hR 1 (-1)) (cwV 2 hts gX2_lay_X2_end rfl rfl rfl (by decide +kernel) ⟨Nat.le_of_ble_eq_true rfl, Nat.le_of_ble_eq_true rfl⟩) (hR.1 0 (by decide)) rfl rfl rfl hK hP hD hS hA hN rfl hl.1 rfl (Nat.le_of_ble_eq_true rfl) rfl dX2_lay_14 ⟨Nat.zero_le _, Nat.zero_le _⟩ (fun H locs hP hD hS => ?_)
    exact zw_iret hx hb hr hlk hK hP hD hS dX2_lay_17 (by simp only [sp_lay, if_neg h_1] <;> rfl) (by simp only [sp_lay, if_neg h_1] <;> rfl)
set_option maxHeartbeats 4000000 in
set_option maxRecDepth 100000 in
theorem cd_sheet {l : Launch} {dC : Nat → ClassId} {dI : Nat → Nat → Nat} {cA : Nat → ClassId} {ad : zw_R → Nat} {R : List zw_R} {nr : Nat} {len : Nat → Nat} {σ : sp_S} {cM : zw_R → va_E} (hR : ze_R nr R) (p0 p1 : Int32) : zw_M l yX2_sheet wsX2_sheet { frames := 1, cells := 0, slots := 0, locals := 23 } (ze_E dC dI cA) [.ref (ad (0, 0, 0)), .int p0, .int p1] ad R (ze_X (ze_D cA ad nr len σ) cM) (some (.int ((sp_sheet nr len σ p0 p1).1))) (ze_X (ze_D cA ad nr len (sp_sheet nr len σ p0 p1).2) cM) := by
  refine zw_body (cc := cX2_sheet) (maxL := 3) (ret := (some .int)) (by decide) rfl (Nat.le_of_ble_eq_true rfl) ?_
  intro p e s m below meth c A ls hx hb hr hlk hml hts hown hnm hA hK hP hD hS hN hl
  have hl : lv_has ls 3 [(0, .ref (ad (0, 0, 0))), (1, .int p0), (2, .int p1)] := hl
  have hwX2 : ∀ w ∈ u_ws RX2 TX2 15, w ∈ wsX2_sheet := by decide +kernel
  refine lv_iload_n hx hb dX2_sheet_0 rfl (lv_at hl 1 rfl) ?_
  refine lv_bipush (v := 16) hx hb dX2_sheet_1 (by decide) ?_
  refine lv_icmp_gt (tgt := 12) hx hb dX2_sheet_3 (by decide) (fun c_1 => ?_) (fun c_1 => ?_)
  · refine lv_aload_n hx hb dX2_sheet_12 rfl (lv_at hl 0 rfl) ?_
    refine lv_iconst (v := 1) hx hb dX2_sheet_13 (by decide) ?_
    refine lv_iconst (v := (-1)) hx hb dX2_sheet_14 (by decide) ?_
    refine zw_cV (r := (0, 0, 0)) (As := [.int 1, .int (-1)]) (rest := []) (st1 := [.int (-1)]) ⟨hx, hb, hml, hown, hts⟩ (cd_end (σ := σ) hR 1 (-1)) (cwV 2 hts gX2_sheet_X2_end rfl rfl rfl (by decide +kernel) ⟨Nat.le_of_ble_eq_true rfl, Nat.le_of_ble_eq_true rfl⟩) (hR.1 0 (by decide)) rfl rfl rfl hK hP hD hS hA hN rfl hl.1 rfl (Nat.le_of_ble_eq_true rfl) rfl dX2_sheet_15 ⟨Nat.zero_le _, Nat.zero_le _⟩ (fun H locs hP hD hS => ?_)
    exact zw_iret hx hb hr hlk hK hP hD hS dX2_sheet_18 (by simp only [sp_sheet, if_pos c_1] <;> rfl) (by simp only [sp_sheet, if_pos c_1] <;> rfl)
  · refine lv_iload_n hx hb dX2_sheet_6 rfl (lv_at hl 2 rfl) ?_
    refine lv_bipush (v := 16) hx hb dX2_sheet_7 (by decide) ?_
    refine lv_icmp_le (tgt := 19) hx hb dX2_sheet_9 (by decide) (fun c_2 => ?_) (fun c_2 => ?_)
    · refine lv_iload_n hx hb dX2_sheet_19 rfl (lv_at hl 1 rfl) ?_
      refine lv_if_lt (tgt := 27) hx hb dX2_sheet_20 (by decide) (fun c_3 => ?_) (fun c_3 => ?_)
      · refine lv_aload_n hx hb dX2_sheet_27 rfl (lv_at hl 0 rfl) ?_
        refine lv_iconst (v := 4) hx hb dX2_sheet_28 (by decide) ?_
        refine lv_iconst (v := (-1)) hx hb dX2_sheet_29 (by decide) ?_
        refine zw_cV (r := (0, 0, 0)) (As := [.int 4, .int (-1)]) (rest := []) (st1 := [.int (-1)]) ⟨hx, hb, hml, hown, hts⟩ (cd_end (σ := σ) hR 4 (-1)) (cwV 2 hts gX2_sheet_X2_end rfl rfl rfl (by decide +kernel) ⟨Nat.le_of_ble_eq_true rfl, Nat.le_of_ble_eq_true rfl⟩) (hR.1 0 (by decide)) rfl rfl rfl hK hP hD hS hA hN rfl hl.1 rfl (Nat.le_of_ble_eq_true rfl) rfl dX2_sheet_30 ⟨Nat.zero_le _, Nat.zero_le _⟩ (fun H locs hP hD hS => ?_)
        exact zw_iret hx hb hr hlk hK hP hD hS dX2_sheet_33 (by simp only [sp_sheet, if_neg c_1, if_pos c_2, if_pos c_3] <;> rfl) (by simp only [sp_sheet, if_neg c_1, if_pos c_2, if_pos c_3] <;> rfl)
      · refine lv_iload_n hx hb dX2_sheet_23 rfl (lv_at hl 2 rfl) ?_
        refine lv_if_ge (tgt := 34) hx hb dX2_sheet_24 (by decide) (fun c_4 => ?_) (fun c_4 => ?_)
        · refine lv_aload_n hx hb dX2_sheet_34 rfl (lv_at hl 0 rfl) ?_
          refine lv_iload_n hx hb dX2_sheet_35 rfl (lv_at hl 1 rfl) ?_
          refine zw_putf (r := (0, 0, 0)) (v := .int p0) (C := RX2) (T := TX2) (N := 15) (ci := 2) hx hb hts hwX2 tyX2 tyX2_ok nmX2 hown hK hP hD hS (hR.1 0 (by decide)) rfl rfl 10 (by decide) (hts (.fieldLink RX2 44 "FourTrackDeck" "sheetRows" "I") (by decide +kernel)) (fun _ h9 => h9) rfl (ty := .int) (by decide +kernel) rfl rfl (Nat.le_of_ble_eq_true rfl) dX2_sheet_36 (cu1 := ze_X (ze_D cA ad nr len (sp_s σ (0, 0, 0) 5 p0)) cM) (ze_up rfl rfl) (fun H locs hP hD hS => ?_)
          refine lv_aload_n hx hb dX2_sheet_39 rfl (lv_at hl 0 rfl) ?_
          refine lv_iload_n hx hb dX2_sheet_40 rfl (lv_at hl 2 rfl) ?_
          refine zw_putf (r := (0, 0, 0)) (v := .int p1) (C := RX2) (T := TX2) (N := 15) (ci := 2) hx hb hts hwX2 tyX2 tyX2_ok nmX2 hown hK hP hD hS (hR.1 0 (by decide)) rfl rfl 11 (by decide) (hts (.fieldLink RX2 47 "FourTrackDeck" "sheetWidth" "I") (by decide +kernel)) (fun _ h9 => h9) rfl (ty := .int) (by decide +kernel) rfl rfl (Nat.le_of_ble_eq_true rfl) dX2_sheet_41 (cu1 := ze_X (ze_D cA ad nr len (sp_s (sp_s σ (0, 0, 0) 5 p0) (0, 0, 0) 6 p1)) cM) (ze_up rfl rfl) (fun H locs hP hD hS => ?_)
          refine lv_aload_n hx hb dX2_sheet_44 rfl (lv_at hl 0 rfl) ?_
          refine zw_getf (r := (0, 0, 0)) (v := .ref (ad (5, 0, 0))) (C := RX2) (T := TX2) (N := 15) (ci := 2) hx hb hts hwX2 hown hK hP (hR.1 0 (by decide)) rfl rfl 9 (by decide) (hts (.fieldLink RX2 41 "FourTrackDeck" "cells" "[I") (by decide +kernel)) (fun _ h9 => h9) rfl dX2_sheet_45 ?_
          refine lv_iconst (v := 0) hx hb dX2_sheet_48 (by decide) ?_
          refine zw_cS (As := [.ref (ad (5, 0, 0)), .int 0]) (rest := []) (st1 := []) ⟨hx, hb, hml, hown, hts⟩ (zw_Meq (cj_fill (r := (5, 0, 0)) (n := 256) (f := (sp_s (sp_s σ (0, 0, 0) 5 p0) (0, 0, 0) 6 p1) (5, 0, 0)) (hR.1 5 (by decide)) rfl rfl (Nat.le_refl 256) 0) (ze_up (σ := (sp_s (sp_s σ (0, 0, 0) 5 p0) (0, 0, 0) 6 p1)) (x := fun j => if j < 256 then 0 else (sp_s (sp_s σ (0, 0, 0) 5 p0) (0, 0, 0) 6 p1) (5, 0, 0) j) rfl rfl)) (va_cwS 2 hts gX2_sheet_J7_fill_53178 rfl rfl rfl (by decide +kernel) ⟨Nat.le_of_ble_eq_true rfl, Nat.le_of_ble_eq_true rfl⟩) hK hP hD hS hA hN rfl hl.1 rfl (Nat.le_of_ble_eq_true rfl) rfl dX2_sheet_49 ⟨Nat.zero_le _, Nat.zero_le _⟩ (fun H locs hP hD hS => ?_)
          refine lv_aload_n hx hb dX2_sheet_52 rfl (lv_at hl 0 rfl) ?_
          refine lv_iconst (v := 0) hx hb dX2_sheet_53 (by decide) ?_
          refine lv_iload_n hx hb dX2_sheet_54 rfl (lv_at hl 1 rfl) ?_
          refine lv_iload_n hx hb dX2_sheet_55 rfl (lv_at hl 2 rfl) ?_
          refine lv_imul hx hb dX2_sheet_56 ?_
          refine zw_cV (r := (0, 0, 0)) (As := [.int 0, .int (p0 * p1)]) (rest := []) (st1 := [.int (p0 * p1)]) ⟨hx, hb, hml, hown, hts⟩ (cd_end (σ := (zw_u (sp_s (sp_s σ (0, 0, 0) 5 p0) (0, 0, 0) 6 p1) (5, 0, 0) (fun j => if j < 256 then 0 else (sp_s (sp_s σ (0, 0, 0) 5 p0) (0, 0, 0) 6 p1) (5, 0, 0) j))) hR 0 (p0 * p1)) (cwV 2 hts gX2_sheet_X2_end rfl rfl rfl (by decide +kernel) ⟨Nat.le_of_ble_eq_true rfl, Nat.le_of_ble_eq_true rfl⟩) (hR.1 0 (by decide)) rfl rfl rfl hK hP hD hS hA hN rfl hl.1 rfl (Nat.le_of_ble_eq_true rfl) rfl dX2_sheet_57 ⟨Nat.zero_le _, Nat.zero_le _⟩ (fun H locs hP hD hS => ?_)
          exact zw_iret hx hb hr hlk hK hP hD hS dX2_sheet_60 (by simp only [sp_sheet, if_neg c_1, if_pos c_2, if_neg c_3, if_pos c_4] <;> rfl) (by simp only [sp_sheet, if_neg c_1, if_pos c_2, if_neg c_3, if_pos c_4] <;> rfl)
        · refine lv_aload_n hx hb dX2_sheet_27 rfl (lv_at hl 0 rfl) ?_
          refine lv_iconst (v := 4) hx hb dX2_sheet_28 (by decide) ?_
          refine lv_iconst (v := (-1)) hx hb dX2_sheet_29 (by decide) ?_
          refine zw_cV (r := (0, 0, 0)) (As := [.int 4, .int (-1)]) (rest := []) (st1 := [.int (-1)]) ⟨hx, hb, hml, hown, hts⟩ (cd_end (σ := σ) hR 4 (-1)) (cwV 2 hts gX2_sheet_X2_end rfl rfl rfl (by decide +kernel) ⟨Nat.le_of_ble_eq_true rfl, Nat.le_of_ble_eq_true rfl⟩) (hR.1 0 (by decide)) rfl rfl rfl hK hP hD hS hA hN rfl hl.1 rfl (Nat.le_of_ble_eq_true rfl) rfl dX2_sheet_30 ⟨Nat.zero_le _, Nat.zero_le _⟩ (fun H locs hP hD hS => ?_)
          exact zw_iret hx hb hr hlk hK hP hD hS dX2_sheet_33 (by simp only [sp_sheet, if_neg c_1, if_pos c_2, if_neg c_3, if_neg c_4] <;> rfl) (by simp only [sp_sheet, if_neg c_1, if_pos c_2, if_neg c_3, if_neg c_4] <;> rfl)
    · refine lv_aload_n hx hb dX2_sheet_12 rfl (lv_at hl 0 rfl) ?_
      refine lv_iconst (v := 1) hx hb dX2_sheet_13 (by decide) ?_
      refine lv_iconst (v := (-1)) hx hb dX2_sheet_14 (by decide) ?_
      refine zw_cV (r := (0, 0, 0)) (As := [.int 1, .int (-1)]) (rest := []) (st1 := [.int (-1)]) ⟨hx, hb, hml, hown, hts⟩ (cd_end (σ := σ) hR 1 (-1)) (cwV 2 hts gX2_sheet_X2_end rfl rfl rfl (by decide +kernel) ⟨Nat.le_of_ble_eq_true rfl, Nat.le_of_ble_eq_true rfl⟩) (hR.1 0 (by decide)) rfl rfl rfl hK hP hD hS hA hN rfl hl.1 rfl (Nat.le_of_ble_eq_true rfl) rfl dX2_sheet_15 ⟨Nat.zero_le _, Nat.zero_le _⟩ (fun H locs hP hD hS => ?_)
      exact zw_iret hx hb hr hlk hK hP hD hS dX2_sheet_18 (by simp only [sp_sheet, if_neg c_1, if_neg c_2] <;> rfl) (by simp only [sp_sheet, if_neg c_1, if_neg c_2] <;> rfl)
set_option maxHeartbeats 4000000 in
set_option maxRecDepth 100000 in
/-- moveHead -/
theorem cd_moveHead {l : Launch} {dC : Nat → ClassId} {dI : Nat → Nat → Nat} {cA : Nat → ClassId} {ad : zw_R → Nat} {R : List zw_R} {nr : Nat} {len : Nat → Nat} {σ : sp_S} {cM : zw_R → va_E} (hR : ze_R nr R) (hnr : nr ≤ 8) (hlen : ∀ i, i < nr → len i ≤ 64) (p0 : Int32) (h : sp_t p0) : zw_M l yX2_moveHead wsX2_moveHead { frames := 3, cells := 0, slots := 0, locals := 65 } (ze_E dC dI cA) [.ref (ad (0, 0, 0)), .int p0] ad R (ze_X (ze_D cA ad nr len σ) cM) (some (.int ((sp_mv nr len σ p0).1))) (ze_X (ze_D cA ad nr len (sp_mv nr len σ p0).2) cM) := by
  refine zw_body (cc := cX2_moveHead) (maxL := 7) (ret := (some .int)) (by decide) rfl (Nat.le_of_ble_eq_true rfl) ?_
  intro p e s m below meth c A ls hx hb hr hlk hml hts hown hnm hA hK hP hD hS hN hl
  have hl : lv_has ls 7 [(0, .ref (ad (0, 0, 0))), (1, .int p0)] := hl
  have hwX2 : ∀ w ∈ u_ws RX2 TX2 15, w ∈ wsX2_moveHead := by decide +kernel
  refine lv_aload_n hx hb dX2_moveHead_0 rfl (lv_at hl 0 rfl) ?_
  refine zw_getf (r := (0, 0, 0)) (v := .ref (ad (3, 0, 0))) (C := RX2) (T := TX2) (N := 15) (ci := 2) hx hb hts hwX2 hown hK hP (hR.1 0 (by decide)) rfl rfl 5 (by decide) (hts (.fieldLink RX2 29 "FourTrackDeck" "modes" "[I") (by decide +kernel)) (fun _ h9 => h9) rfl dX2_moveHead_1 ?_
  refine lv_iload_n hx hb dX2_moveHead_4 rfl (lv_at hl 1 rfl) ?_
  refine zw_iald (r := (3, 0, 0)) hx hb hK hP (hR.1 3 (by decide)) 0 rfl rfl (ze_ti h) dX2_moveHead_5 ?_
  refine lv_istore_n (lv' := [(2, .int (σ (3, 0, 0) p0.toNatClampNeg)), (0, .ref (ad (0, 0, 0))), (1, .int p0)]) hx hb dX2_moveHead_6 rfl hl (by decide) rfl (fun ls hl => ?_)
  refine lv_aload_n hx hb dX2_moveHead_7 rfl (lv_at hl 1 rfl) ?_
  refine lv_aload_n hx hb dX2_moveHead_8 rfl (lv_at hl 1 rfl) ?_
  refine zw_getf (r := (0, 0, 0)) (v := .int (σ (0, 0, 0) 1)) (C := RX2) (T := TX2) (N := 15) (ci := 2) hx hb hts hwX2 hown hK hP (hR.1 0 (by decide)) rfl rfl 2 (by decide) (hts (.fieldLink RX2 19 "FourTrackDeck" "onDeck" "I") (by decide +kernel)) (fun _ h9 => h9) rfl dX2_moveHead_9 ?_
  refine lv_iload_n hx hb dX2_moveHead_12 rfl (lv_at hl 2 rfl) ?_
  rcases Decidable.em (sp_v nr (σ (0, 0, 0) 1) p0) with h_1 | h_1
  · refine zw_cV (r := (0, 0, 0)) (As := [.int (σ (0, 0, 0) 1), .int p0]) (rest := []) (st1 := [.ref (ad (8, (σ (0, 0, 0) 1).toNatClampNeg, p0.toNatClampNeg))]) ⟨hx, hb, hml, hown, hts⟩ (cd_trackOf_1 (σ := σ) hR hnr (σ (0, 0, 0) 1) p0 h_1) (cwV 2 hts gX2_moveHead_X2_trackOf rfl rfl rfl (by decide +kernel) ⟨Nat.le_of_ble_eq_true rfl, Nat.le_of_ble_eq_true rfl⟩) (hR.1 0 (by decide)) rfl rfl rfl hK hP hD hS hA hN rfl hl.1 rfl (Nat.le_of_ble_eq_true rfl) rfl dX2_moveHead_13 ⟨Nat.zero_le _, Nat.zero_le _⟩ (fun H locs hP hD hS => ?_)
    refine lv_astore_n (lv' := [(3, .ref (ad (8, (σ (0, 0, 0) 1).toNatClampNeg, p0.toNatClampNeg))), (2, .int (σ (3, 0, 0) p0.toNatClampNeg)), (0, .ref (ad (0, 0, 0))), (1, .int p0)]) hx hb dX2_moveHead_16 rfl hl (by decide) rfl (fun ls hl => ?_)
    refine lv_iload_n hx hb dX2_moveHead_17 rfl (lv_at hl 1 rfl) ?_
    refine lv_if_eq (tgt := 25) hx hb dX2_moveHead_18 (by decide) (fun c_2 => ?_) (fun c_2 => ?_)
    · refine lv_iconst (v := 0) hx hb dX2_moveHead_25 (by decide) ?_
      exact zw_iret hx hb hr hlk hK hP hD hS dX2_moveHead_26 (by simp only [sp_mv, if_pos h_1, if_pos c_2] <;> rfl) (by simp only [sp_mv, if_pos h_1, if_pos c_2] <;> rfl)
    · refine lv_aload_n hx hb dX2_moveHead_21 rfl (lv_at hl 0 rfl) ?_
      refine lv_ifnonnull (tgt := 27) hx hb dX2_moveHead_22 (by decide) ?_
      refine lv_aload_n hx hb dX2_moveHead_27 rfl (lv_at hl 2 rfl) ?_
      refine lv_iload_n hx hb dX2_moveHead_28 rfl (lv_at hl 3 rfl) ?_
      refine zw_cV (r := (0, 0, 0)) (As := [.int p0]) (rest := []) (st1 := [.int (σ (0, 0, 0) 2 + σ (2, 0, 0) p0.toNatClampNeg)]) ⟨hx, hb, hml, hown, hts⟩ (cd_place (σ := σ) hR p0 h_1.2) (cwV 1 hts gX2_moveHead_X2_placeOfHead rfl rfl rfl (by decide +kernel) ⟨Nat.le_of_ble_eq_true rfl, Nat.le_of_ble_eq_true rfl⟩) (hR.1 0 (by decide)) rfl rfl rfl hK hP hD hS hA hN rfl hl.1 rfl (Nat.le_of_ble_eq_true rfl) rfl dX2_moveHead_29 ⟨Nat.zero_le _, Nat.zero_le _⟩ (fun H locs hP hD hS => ?_)
      refine lv_istore (lv' := [(4, .int (σ (0, 0, 0) 2 + σ (2, 0, 0) p0.toNatClampNeg)), (3, .ref (ad (8, (σ (0, 0, 0) 1).toNatClampNeg, p0.toNatClampNeg))), (2, .int (σ (3, 0, 0) p0.toNatClampNeg)), (0, .ref (ad (0, 0, 0))), (1, .int p0)]) hx hb dX2_moveHead_32 hl (by decide) rfl (fun ls hl => ?_)
      refine lv_aload_n hx hb dX2_moveHead_34 rfl (lv_at hl 1 rfl) ?_
      refine lv_iload hx hb dX2_moveHead_35 (lv_at hl 0 rfl) ?_
      refine zw_cVN (r := (8, (σ (0, 0, 0) 1).toNatClampNeg, p0.toNatClampNeg)) (As := [.int (σ (0, 0, 0) 2 + σ (2, 0, 0) p0.toNatClampNeg)]) (rest := []) (st1 := [.int (sp_f len σ (σ (0, 0, 0) 1).toNatClampNeg p0.toNatClampNeg (σ (0, 0, 0) 2 + σ (2, 0, 0) p0.toNatClampNeg))]) ⟨hx, hb, hml, hown, hts⟩ (cd_faultAt (σ := σ) hR (σ (0, 0, 0) 1).toNatClampNeg p0.toNatClampNeg (ze_vr h_1.1 hnr) (ze_vt h_1.2) (σ (0, 0, 0) 2 + σ (2, 0, 0) p0.toNatClampNeg)) ⟨va_cnB (host := "FourTrackDeck") 1 hts gX2_moveHead_X1_faultAt_n98 rfl rfl rfl (hN.2.1 ("FourTrackDeck", 98, yX1_faultAt, "FourTrackDeck") (by decide +kernel)) (hts (.initialized RX1) (by decide +kernel)) (by decide +kernel) ⟨Nat.le_of_ble_eq_true rfl, Nat.le_of_ble_eq_true rfl⟩, hts (.instanceMethod yX1_faultAt) (by decide +kernel), hts (.selects RX1 yX1_faultAt yX1_faultAt) (by decide +kernel)⟩ ((hR.2 (σ (0, 0, 0) 1).toNatClampNeg (ze_vr h_1.1 hnr)).2.2 p0.toNatClampNeg (ze_vt h_1.2)).1 rfl rfl rfl hK hP hD hS hA hN rfl hl.1 rfl (Nat.le_of_ble_eq_true rfl) rfl dX2_moveHead_37 ⟨Nat.zero_le _, Nat.zero_le _⟩ (fun H locs hP hD hS => ?_)
      refine lv_istore (lv' := [(5, .int (sp_f len σ (σ (0, 0, 0) 1).toNatClampNeg p0.toNatClampNeg (σ (0, 0, 0) 2 + σ (2, 0, 0) p0.toNatClampNeg))), (4, .int (σ (0, 0, 0) 2 + σ (2, 0, 0) p0.toNatClampNeg)), (3, .ref (ad (8, (σ (0, 0, 0) 1).toNatClampNeg, p0.toNatClampNeg))), (2, .int (σ (3, 0, 0) p0.toNatClampNeg)), (0, .ref (ad (0, 0, 0))), (1, .int p0)]) hx hb dX2_moveHead_40 hl (by decide) rfl (fun ls hl => ?_)
      refine lv_iload hx hb dX2_moveHead_42 (lv_at hl 0 rfl) ?_
      refine lv_if_eq (tgt := 50) hx hb dX2_moveHead_44 (by decide) (fun c_3 => ?_) (fun c_3 => ?_)
      · refine lv_aload_n hx hb dX2_moveHead_50 rfl (lv_at hl 2 rfl) ?_
        refine lv_iload hx hb dX2_moveHead_51 (lv_at hl 1 rfl) ?_
        refine zw_cVN (r := (8, (σ (0, 0, 0) 1).toNatClampNeg, p0.toNatClampNeg)) (As := [.int (σ (0, 0, 0) 2 + σ (2, 0, 0) p0.toNatClampNeg)]) (rest := []) (st1 := [.int (sp_n len σ (σ (0, 0, 0) 1).toNatClampNeg p0.toNatClampNeg (σ (0, 0, 0) 2 + σ (2, 0, 0) p0.toNatClampNeg))]) ⟨hx, hb, hml, hown, hts⟩ (cd_numberAt (σ := σ) hR (σ (0, 0, 0) 1).toNatClampNeg p0.toNatClampNeg (ze_vr h_1.1 hnr) (ze_vt h_1.2) (hlen _ (ze_vr h_1.1 hnr)) (σ (0, 0, 0) 2 + σ (2, 0, 0) p0.toNatClampNeg)) ⟨va_cnB (host := "FourTrackDeck") 1 hts gX2_moveHead_X1_numberAt_n101 rfl rfl rfl (hN.2.1 ("FourTrackDeck", 101, yX1_numberAt, "FourTrackDeck") (by decide +kernel)) (hts (.initialized RX1) (by decide +kernel)) (by decide +kernel) ⟨Nat.le_of_ble_eq_true rfl, Nat.le_of_ble_eq_true rfl⟩, hts (.instanceMethod yX1_numberAt) (by decide +kernel), hts (.selects RX1 yX1_numberAt yX1_numberAt) (by decide +kernel)⟩ ((hR.2 (σ (0, 0, 0) 1).toNatClampNeg (ze_vr h_1.1 hnr)).2.2 p0.toNatClampNeg (ze_vt h_1.2)).1 rfl rfl rfl hK hP hD hS hA hN rfl hl.1 rfl (Nat.le_of_ble_eq_true rfl) rfl dX2_moveHead_53 ⟨Nat.zero_le _, Nat.zero_le _⟩ (fun H locs hP hD hS => ?_)
        refine lv_istore (lv' := [(6, .int (sp_n len σ (σ (0, 0, 0) 1).toNatClampNeg p0.toNatClampNeg (σ (0, 0, 0) 2 + σ (2, 0, 0) p0.toNatClampNeg))), (5, .int (sp_f len σ (σ (0, 0, 0) 1).toNatClampNeg p0.toNatClampNeg (σ (0, 0, 0) 2 + σ (2, 0, 0) p0.toNatClampNeg))), (4, .int (σ (0, 0, 0) 2 + σ (2, 0, 0) p0.toNatClampNeg)), (3, .ref (ad (8, (σ (0, 0, 0) 1).toNatClampNeg, p0.toNatClampNeg))), (2, .int (σ (3, 0, 0) p0.toNatClampNeg)), (0, .ref (ad (0, 0, 0))), (1, .int p0)]) hx hb dX2_moveHead_56 hl (by decide) rfl (fun ls hl => ?_)
        refine lv_iload_n hx hb dX2_moveHead_58 rfl (lv_at hl 4 rfl) ?_
        refine lv_iconst (v := 1) hx hb dX2_moveHead_59 (by decide) ?_
        refine lv_icmp_ne (tgt := 76) hx hb dX2_moveHead_60 (by decide) (fun c_4 => ?_) (fun c_4 => ?_)
        · refine lv_aload_n hx hb dX2_moveHead_76 rfl (lv_at hl 3 rfl) ?_
          refine lv_iload hx hb dX2_moveHead_77 (lv_at hl 2 rfl) ?_
          refine lv_iload_n hx hb dX2_moveHead_79 rfl (lv_at hl 4 rfl) ?_
          refine lv_iconst (v := 3) hx hb dX2_moveHead_80 (by decide) ?_
          refine lv_icmp_ne (tgt := 94) hx hb dX2_moveHead_81 (by decide) (fun c_5 => ?_) (fun c_5 => ?_)
          · refine lv_aload_n hx hb dX2_moveHead_94 rfl (lv_at hl 5 rfl) ?_
            refine zw_getf (r := (0, 0, 0)) (v := .int (σ (0, 0, 0) 3)) (C := RX2) (T := TX2) (N := 15) (ci := 2) hx hb hts hwX2 hown hK hP (hR.1 0 (by decide)) rfl rfl 7 (by decide) (hts (.fieldLink RX2 35 "FourTrackDeck" "sourceNumber" "I") (by decide +kernel)) (fun _ h9 => h9) rfl dX2_moveHead_95 ?_
            refine zw_cVN (r := (8, (σ (0, 0, 0) 1).toNatClampNeg, p0.toNatClampNeg)) (As := [.int (σ (0, 0, 0) 2 + σ (2, 0, 0) p0.toNatClampNeg), .int (σ (0, 0, 0) 3)]) (rest := []) (st1 := []) ⟨hx, hb, hml, hown, hts⟩ (cd_put (σ := σ) hR (σ (0, 0, 0) 1).toNatClampNeg p0.toNatClampNeg (ze_vr h_1.1 hnr) (ze_vt h_1.2) (hlen _ (ze_vr h_1.1 hnr)) (σ (0, 0, 0) 2 + σ (2, 0, 0) p0.toNatClampNeg) (σ (0, 0, 0) 3)) ⟨va_cnB (host := "FourTrackDeck") 2 hts gX2_moveHead_X1_put_n104 rfl rfl rfl (hN.2.1 ("FourTrackDeck", 104, yX1_put, "FourTrackDeck") (by decide +kernel)) (hts (.initialized RX1) (by decide +kernel)) (by decide +kernel) ⟨Nat.le_of_ble_eq_true rfl, Nat.le_of_ble_eq_true rfl⟩, hts (.instanceMethod yX1_put) (by decide +kernel), hts (.selects RX1 yX1_put yX1_put) (by decide +kernel)⟩ ((hR.2 (σ (0, 0, 0) 1).toNatClampNeg (ze_vr h_1.1 hnr)).2.2 p0.toNatClampNeg (ze_vt h_1.2)).1 rfl rfl rfl hK hP hD hS hA hN rfl hl.1 rfl (Nat.le_of_ble_eq_true rfl) rfl dX2_moveHead_98 ⟨Nat.zero_le _, Nat.zero_le _⟩ (fun H locs hP hD hS => ?_)
            refine lv_aload_n hx hb dX2_moveHead_101 rfl (lv_at hl 5 rfl) ?_
            refine lv_dup hx hb dX2_moveHead_102 rfl ?_
            refine zw_getf (r := (0, 0, 0)) (v := .int ((sp_put len σ (σ (0, 0, 0) 1).toNatClampNeg p0.toNatClampNeg (σ (0, 0, 0) 2 + σ (2, 0, 0) p0.toNatClampNeg) (σ (0, 0, 0) 3)) (0, 0, 0) 3)) (C := RX2) (T := TX2) (N := 15) (ci := 2) hx hb hts hwX2 hown hK hP (hR.1 0 (by decide)) rfl rfl 7 (by decide) (hts (.fieldLink RX2 35 "FourTrackDeck" "sourceNumber" "I") (by decide +kernel)) (fun _ h9 => h9) rfl dX2_moveHead_103 ?_
            refine lv_aload_n hx hb dX2_moveHead_106 rfl (lv_at hl 5 rfl) ?_
            refine zw_getf (r := (0, 0, 0)) (v := .int ((sp_put len σ (σ (0, 0, 0) 1).toNatClampNeg p0.toNatClampNeg (σ (0, 0, 0) 2 + σ (2, 0, 0) p0.toNatClampNeg) (σ (0, 0, 0) 3)) (0, 0, 0) 4)) (C := RX2) (T := TX2) (N := 15) (ci := 2) hx hb hts hwX2 hown hK hP (hR.1 0 (by decide)) rfl rfl 8 (by decide) (hts (.fieldLink RX2 38 "FourTrackDeck" "sourceStep" "I") (by decide +kernel)) (fun _ h9 => h9) rfl dX2_moveHead_107 ?_
            refine lv_iadd hx hb dX2_moveHead_110 ?_
            refine zw_putf (r := (0, 0, 0)) (v := .int (((sp_put len σ (σ (0, 0, 0) 1).toNatClampNeg p0.toNatClampNeg (σ (0, 0, 0) 2 + σ (2, 0, 0) p0.toNatClampNeg) (σ (0, 0, 0) 3)) (0, 0, 0) 3) + ((sp_put len σ (σ (0, 0, 0) 1).toNatClampNeg p0.toNatClampNeg (σ (0, 0, 0) 2 + σ (2, 0, 0) p0.toNatClampNeg) (σ (0, 0, 0) 3)) (0, 0, 0) 4))) (C := RX2) (T := TX2) (N := 15) (ci := 2) hx hb hts hwX2 tyX2 tyX2_ok nmX2 hown hK hP hD hS (hR.1 0 (by decide)) rfl rfl 7 (by decide) (hts (.fieldLink RX2 35 "FourTrackDeck" "sourceNumber" "I") (by decide +kernel)) (fun _ h9 => h9) rfl (ty := .int) (by decide +kernel) rfl rfl (Nat.le_of_ble_eq_true rfl) dX2_moveHead_111 (cu1 := ze_X (ze_D cA ad nr len (sp_s (sp_put len σ (σ (0, 0, 0) 1).toNatClampNeg p0.toNatClampNeg (σ (0, 0, 0) 2 + σ (2, 0, 0) p0.toNatClampNeg) (σ (0, 0, 0) 3)) (0, 0, 0) 3 (((sp_put len σ (σ (0, 0, 0) 1).toNatClampNeg p0.toNatClampNeg (σ (0, 0, 0) 2 + σ (2, 0, 0) p0.toNatClampNeg) (σ (0, 0, 0) 3)) (0, 0, 0) 3) + ((sp_put len σ (σ (0, 0, 0) 1).toNatClampNeg p0.toNatClampNeg (σ (0, 0, 0) 2 + σ (2, 0, 0) p0.toNatClampNeg) (σ (0, 0, 0) 3)) (0, 0, 0) 4)))) cM) (ze_up rfl rfl) (fun H locs hP hD hS => ?_)
            refine lv_iconst (v := 0) hx hb dX2_moveHead_114 (by decide) ?_
            exact zw_iret hx hb hr hlk hK hP hD hS dX2_moveHead_115 (by simp only [sp_mv, if_pos h_1, if_neg c_2, if_pos c_3, if_neg c_4, if_neg c_5] <;> rfl) (by simp only [sp_mv, if_pos h_1, if_neg c_2, if_pos c_3, if_neg c_4, if_neg c_5] <;> rfl)
          · refine lv_iload hx hb dX2_moveHead_84 (lv_at hl 0 rfl) ?_
            refine lv_aload_n hx hb dX2_moveHead_86 rfl (lv_at hl 5 rfl) ?_
            refine zw_getf (r := (0, 0, 0)) (v := .int (σ (0, 0, 0) 3)) (C := RX2) (T := TX2) (N := 15) (ci := 2) hx hb hts hwX2 hown hK hP (hR.1 0 (by decide)) rfl rfl 7 (by decide) (hts (.fieldLink RX2 35 "FourTrackDeck" "sourceNumber" "I") (by decide +kernel)) (fun _ h9 => h9) rfl dX2_moveHead_87 ?_
            refine lv_iadd hx hb dX2_moveHead_90 ?_
            refine lv_goto (tgt := 98) hx hb dX2_moveHead_91 (by decide) ?_
            refine zw_cVN (r := (8, (σ (0, 0, 0) 1).toNatClampNeg, p0.toNatClampNeg)) (As := [.int (σ (0, 0, 0) 2 + σ (2, 0, 0) p0.toNatClampNeg), .int ((sp_n len σ (σ (0, 0, 0) 1).toNatClampNeg p0.toNatClampNeg (σ (0, 0, 0) 2 + σ (2, 0, 0) p0.toNatClampNeg)) + (σ (0, 0, 0) 3))]) (rest := []) (st1 := []) ⟨hx, hb, hml, hown, hts⟩ (cd_put (σ := σ) hR (σ (0, 0, 0) 1).toNatClampNeg p0.toNatClampNeg (ze_vr h_1.1 hnr) (ze_vt h_1.2) (hlen _ (ze_vr h_1.1 hnr)) (σ (0, 0, 0) 2 + σ (2, 0, 0) p0.toNatClampNeg) ((sp_n len σ (σ (0, 0, 0) 1).toNatClampNeg p0.toNatClampNeg (σ (0, 0, 0) 2 + σ (2, 0, 0) p0.toNatClampNeg)) + (σ (0, 0, 0) 3))) ⟨va_cnB (host := "FourTrackDeck") 2 hts gX2_moveHead_X1_put_n104 rfl rfl rfl (hN.2.1 ("FourTrackDeck", 104, yX1_put, "FourTrackDeck") (by decide +kernel)) (hts (.initialized RX1) (by decide +kernel)) (by decide +kernel) ⟨Nat.le_of_ble_eq_true rfl, Nat.le_of_ble_eq_true rfl⟩, hts (.instanceMethod yX1_put) (by decide +kernel), hts (.selects RX1 yX1_put yX1_put) (by decide +kernel)⟩ ((hR.2 (σ (0, 0, 0) 1).toNatClampNeg (ze_vr h_1.1 hnr)).2.2 p0.toNatClampNeg (ze_vt h_1.2)).1 rfl rfl rfl hK hP hD hS hA hN rfl hl.1 rfl (Nat.le_of_ble_eq_true rfl) rfl dX2_moveHead_98 ⟨Nat.zero_le _, Nat.zero_le _⟩ (fun H locs hP hD hS => ?_)
            refine lv_aload_n hx hb dX2_moveHead_101 rfl (lv_at hl 5 rfl) ?_
            refine lv_dup hx hb dX2_moveHead_102 rfl ?_
            refine zw_getf (r := (0, 0, 0)) (v := .int ((sp_put len σ (σ (0, 0, 0) 1).toNatClampNeg p0.toNatClampNeg (σ (0, 0, 0) 2 + σ (2, 0, 0) p0.toNatClampNeg) ((sp_n len σ (σ (0, 0, 0) 1).toNatClampNeg p0.toNatClampNeg (σ (0, 0, 0) 2 + σ (2, 0, 0) p0.toNatClampNeg)) + (σ (0, 0, 0) 3))) (0, 0, 0) 3)) (C := RX2) (T := TX2) (N := 15) (ci := 2) hx hb hts hwX2 hown hK hP (hR.1 0 (by decide)) rfl rfl 7 (by decide) (hts (.fieldLink RX2 35 "FourTrackDeck" "sourceNumber" "I") (by decide +kernel)) (fun _ h9 => h9) rfl dX2_moveHead_103 ?_
            refine lv_aload_n hx hb dX2_moveHead_106 rfl (lv_at hl 5 rfl) ?_
            refine zw_getf (r := (0, 0, 0)) (v := .int ((sp_put len σ (σ (0, 0, 0) 1).toNatClampNeg p0.toNatClampNeg (σ (0, 0, 0) 2 + σ (2, 0, 0) p0.toNatClampNeg) ((sp_n len σ (σ (0, 0, 0) 1).toNatClampNeg p0.toNatClampNeg (σ (0, 0, 0) 2 + σ (2, 0, 0) p0.toNatClampNeg)) + (σ (0, 0, 0) 3))) (0, 0, 0) 4)) (C := RX2) (T := TX2) (N := 15) (ci := 2) hx hb hts hwX2 hown hK hP (hR.1 0 (by decide)) rfl rfl 8 (by decide) (hts (.fieldLink RX2 38 "FourTrackDeck" "sourceStep" "I") (by decide +kernel)) (fun _ h9 => h9) rfl dX2_moveHead_107 ?_
            refine lv_iadd hx hb dX2_moveHead_110 ?_
            refine zw_putf (r := (0, 0, 0)) (v := .int (((sp_put len σ (σ (0, 0, 0) 1).toNatClampNeg p0.toNatClampNeg (σ (0, 0, 0) 2 + σ (2, 0, 0) p0.toNatClampNeg) ((sp_n len σ (σ (0, 0, 0) 1).toNatClampNeg p0.toNatClampNeg (σ (0, 0, 0) 2 + σ (2, 0, 0) p0.toNatClampNeg)) + (σ (0, 0, 0) 3))) (0, 0, 0) 3) + ((sp_put len σ (σ (0, 0, 0) 1).toNatClampNeg p0.toNatClampNeg (σ (0, 0, 0) 2 + σ (2, 0, 0) p0.toNatClampNeg) ((sp_n len σ (σ (0, 0, 0) 1).toNatClampNeg p0.toNatClampNeg (σ (0, 0, 0) 2 + σ (2, 0, 0) p0.toNatClampNeg)) + (σ (0, 0, 0) 3))) (0, 0, 0) 4))) (C := RX2) (T := TX2) (N := 15) (ci := 2) hx hb hts hwX2 tyX2 tyX2_ok nmX2 hown hK hP hD hS (hR.1 0 (by decide)) rfl rfl 7 (by decide) (hts (.fieldLink RX2 35 "FourTrackDeck" "sourceNumber" "I") (by decide +kernel)) (fun _ h9 => h9) rfl (ty := .int) (by decide +kernel) rfl rfl (Nat.le_of_ble_eq_true rfl) dX2_moveHead_111 (cu1 := ze_X (ze_D cA ad nr len (sp_s (sp_put len σ (σ (0, 0, 0) 1).toNatClampNeg p0.toNatClampNeg (σ (0, 0, 0) 2 + σ (2, 0, 0) p0.toNatClampNeg) ((sp_n len σ (σ (0, 0, 0) 1).toNatClampNeg p0.toNatClampNeg (σ (0, 0, 0) 2 + σ (2, 0, 0) p0.toNatClampNeg)) + (σ (0, 0, 0) 3))) (0, 0, 0) 3 (((sp_put len σ (σ (0, 0, 0) 1).toNatClampNeg p0.toNatClampNeg (σ (0, 0, 0) 2 + σ (2, 0, 0) p0.toNatClampNeg) ((sp_n len σ (σ (0, 0, 0) 1).toNatClampNeg p0.toNatClampNeg (σ (0, 0, 0) 2 + σ (2, 0, 0) p0.toNatClampNeg)) + (σ (0, 0, 0) 3))) (0, 0, 0) 3) + ((sp_put len σ (σ (0, 0, 0) 1).toNatClampNeg p0.toNatClampNeg (σ (0, 0, 0) 2 + σ (2, 0, 0) p0.toNatClampNeg) ((sp_n len σ (σ (0, 0, 0) 1).toNatClampNeg p0.toNatClampNeg (σ (0, 0, 0) 2 + σ (2, 0, 0) p0.toNatClampNeg)) + (σ (0, 0, 0) 3))) (0, 0, 0) 4)))) cM) (ze_up rfl rfl) (fun H locs hP hD hS => ?_)
            refine lv_iconst (v := 0) hx hb dX2_moveHead_114 (by decide) ?_
            exact zw_iret hx hb hr hlk hK hP hD hS dX2_moveHead_115 (by simp only [sp_mv, if_pos h_1, if_neg c_2, if_pos c_3, if_neg c_4, if_pos c_5] <;> rfl) (by simp only [sp_mv, if_pos h_1, if_neg c_2, if_pos c_3, if_neg c_4, if_pos c_5] <;> rfl)
        · refine lv_aload_n hx hb dX2_moveHead_63 rfl (lv_at hl 5 rfl) ?_
          refine zw_getf (r := (0, 0, 0)) (v := .ref (ad (4, 0, 0))) (C := RX2) (T := TX2) (N := 15) (ci := 2) hx hb hts hwX2 hown hK hP (hR.1 0 (by decide)) rfl rfl 6 (by decide) (hts (.fieldLink RX2 32 "FourTrackDeck" "meters" "[I") (by decide +kernel)) (fun _ h9 => h9) rfl dX2_moveHead_64 ?_
          refine lv_iload_n hx hb dX2_moveHead_67 rfl (lv_at hl 6 rfl) ?_
          refine lv_dup2_11 hx hb dX2_moveHead_68 rfl rfl ?_
          refine zw_iald (r := (4, 0, 0)) hx hb hK hP (hR.1 4 (by decide)) 0 rfl rfl (ze_ti h) dX2_moveHead_69 ?_
          refine lv_iload hx hb dX2_moveHead_70 (lv_at hl 0 rfl) ?_
          refine lv_iadd hx hb dX2_moveHead_72 ?_
          refine zw_iast (r := (4, 0, 0)) hx hb hK hP hD hS (hR.1 4 (by decide)) 0 rfl rfl (ze_ti h) dX2_moveHead_73 (cu1 := ze_X (ze_D cA ad nr len (sp_s σ (4, 0, 0) p0.toNatClampNeg ((σ (4, 0, 0) p0.toNatClampNeg) + (sp_n len σ (σ (0, 0, 0) 1).toNatClampNeg p0.toNatClampNeg (σ (0, 0, 0) 2 + σ (2, 0, 0) p0.toNatClampNeg))))) cM) (ze_up rfl rfl) (fun H locs hP hD hS => ?_)
          refine lv_iconst (v := 0) hx hb dX2_moveHead_74 (by decide) ?_
          exact zw_iret hx hb hr hlk hK hP hD hS dX2_moveHead_75 (by simp only [sp_mv, if_pos h_1, if_neg c_2, if_pos c_3, if_pos c_4] <;> rfl) (by simp only [sp_mv, if_pos h_1, if_neg c_2, if_pos c_3, if_pos c_4] <;> rfl)
      · refine lv_iload hx hb dX2_moveHead_47 (lv_at hl 0 rfl) ?_
        exact zw_iret hx hb hr hlk hK hP hD hS dX2_moveHead_49 (by simp only [sp_mv, if_pos h_1, if_neg c_2, if_neg c_3] <;> rfl) (by simp only [sp_mv, if_pos h_1, if_neg c_2, if_neg c_3] <;> rfl)
  · refine zw_cV (r := (0, 0, 0)) (As := [.int (σ (0, 0, 0) 1), .int p0]) (rest := []) (st1 := [.null]) ⟨hx, hb, hml, hown, hts⟩ (cd_trackOf_0 (σ := σ) hR hnr (σ (0, 0, 0) 1) p0 h_1) (cwV 2 hts gX2_moveHead_X2_trackOf rfl rfl rfl (by decide +kernel) ⟨Nat.le_of_ble_eq_true rfl, Nat.le_of_ble_eq_true rfl⟩) (hR.1 0 (by decide)) rfl rfl rfl hK hP hD hS hA hN rfl hl.1 rfl (Nat.le_of_ble_eq_true rfl) rfl dX2_moveHead_13 ⟨Nat.zero_le _, Nat.zero_le _⟩ (fun H locs hP hD hS => ?_)
    refine lv_astore_nN (lv' := [(3, .null), (2, .int (σ (3, 0, 0) p0.toNatClampNeg)), (0, .ref (ad (0, 0, 0))), (1, .int p0)]) hx hb dX2_moveHead_16 rfl hl (by decide) rfl (fun ls hl => ?_)
    refine lv_iload_n hx hb dX2_moveHead_17 rfl (lv_at hl 1 rfl) ?_
    refine lv_if_eq (tgt := 25) hx hb dX2_moveHead_18 (by decide) (fun c_6 => ?_) (fun c_6 => ?_)
    · refine lv_iconst (v := 0) hx hb dX2_moveHead_25 (by decide) ?_
      exact zw_iret hx hb hr hlk hK hP hD hS dX2_moveHead_26 (by simp only [sp_mv, if_neg h_1, if_pos c_6] <;> rfl) (by simp only [sp_mv, if_neg h_1, if_pos c_6] <;> rfl)
    · refine lv_aload_nN hx hb dX2_moveHead_21 rfl (lv_at hl 0 rfl) ?_
      refine lv_ifnonnullN hx hb dX2_moveHead_22 ?_
      refine lv_iconst (v := 0) hx hb dX2_moveHead_25 (by decide) ?_
      exact zw_iret hx hb hr hlk hK hP hD hS dX2_moveHead_26 (by simp only [sp_mv, if_neg h_1, if_neg c_6] <;> rfl) (by simp only [sp_mv, if_neg h_1, if_neg c_6] <;> rfl)
set_option maxHeartbeats 4000000 in
set_option maxRecDepth 100000 in
/-- tick -/
theorem cd_tick {l : Launch} {dC : Nat → ClassId} {dI : Nat → Nat → Nat} {cA : Nat → ClassId} {ad : zw_R → Nat} {R : List zw_R} {nr : Nat} {len : Nat → Nat} {σ : sp_S} {cM : zw_R → va_E} (hR : ze_R nr R) (hnr : nr ≤ 8) (hlen : ∀ i, i < nr → len i ≤ 64) : zw_M l yX2_tick wsX2_tick { frames := 4, cells := 0, slots := 0, locals := 91 } (ze_E dC dI cA) [.ref (ad (0, 0, 0))] ad R (ze_X (ze_D cA ad nr len σ) cM) none (ze_X (ze_D cA ad nr len (sp_tk nr len 4 0 σ)) cM) := by
  refine zw_body (cc := cX2_tick) (maxL := 3) (ret := none) (by decide) rfl (Nat.le_of_ble_eq_true rfl) ?_
  intro p e s m below meth c A ls hx hb hr hlk hml hts hown hnm hA hK hP hD hS hN hl
  have hl : lv_has ls 3 [(0, .ref (ad (0, 0, 0)))] := hl
  have hwX2 : ∀ w ∈ u_ws RX2 TX2 15, w ∈ wsX2_tick := by decide +kernel
  refine lv_iconst (v := 0) hx hb dX2_tick_0 (by decide) ?_
  refine lv_istore_n (lv' := [(1, .int 0), (0, .ref (ad (0, 0, 0)))]) hx hb dX2_tick_1 rfl hl (by decide) rfl (fun ls hl => ?_)
  refine lv_iload_n hx hb dX2_tick_2 rfl (lv_at hl 0 rfl) ?_
  refine lv_iconst (v := 4) hx hb dX2_tick_3 (by decide) ?_
  refine lv_icmp_ge (tgt := 34) hx hb dX2_tick_4 (by decide) (fun c_1 => absurd c_1 (by decide)) (fun c_1 => ?_)
  refine lv_aload_n hx hb dX2_tick_7 rfl (lv_at hl 1 rfl) ?_
  refine lv_iload_n hx hb dX2_tick_8 rfl (lv_at hl 0 rfl) ?_
  refine zw_cV (r := (0, 0, 0)) (As := [.int 0]) (rest := []) (st1 := [.int ((sp_mv nr len σ 0).1)]) ⟨hx, hb, hml, hown, hts⟩ (cd_moveHead (σ := σ) hR hnr hlen 0 (by decide)) (cwV 1 hts gX2_tick_X2_moveHead rfl rfl rfl (by decide +kernel) ⟨Nat.le_of_ble_eq_true rfl, Nat.le_of_ble_eq_true rfl⟩) (hR.1 0 (by decide)) rfl rfl rfl hK hP hD hS hA hN rfl hl.1 rfl (Nat.le_of_ble_eq_true rfl) rfl dX2_tick_9 ⟨Nat.zero_le _, Nat.zero_le _⟩ (fun H locs hP hD hS => ?_)
  refine lv_istore_n (lv' := [(2, .int ((sp_mv nr len σ 0).1)), (1, .int 0), (0, .ref (ad (0, 0, 0)))]) hx hb dX2_tick_12 rfl hl (by decide) rfl (fun ls hl => ?_)
  refine lv_iload_n hx hb dX2_tick_13 rfl (lv_at hl 0 rfl) ?_
  refine lv_if_eq (tgt := 28) hx hb dX2_tick_14 (by decide) (fun c_2 => ?_) (fun c_2 => ?_)
  · refine lv_iinc (v := 1) (lv' := [(1, .int 1), (2, .int ((sp_mv nr len σ 0).1)), (0, .ref (ad (0, 0, 0)))]) hx hb dX2_tick_28 hl (k := 1) rfl rfl (by decide) rfl (fun ls hl => ?_)
    refine lv_goto (tgt := 2) hx hb dX2_tick_31 (by decide) ?_
    refine lv_iload_n hx hb dX2_tick_2 rfl (lv_at hl 0 rfl) ?_
    refine lv_iconst (v := 4) hx hb dX2_tick_3 (by decide) ?_
    refine lv_icmp_ge (tgt := 34) hx hb dX2_tick_4 (by decide) (fun c_3 => absurd c_3 (by decide)) (fun c_3 => ?_)
    refine lv_aload_n hx hb dX2_tick_7 rfl (lv_at hl 2 rfl) ?_
    refine lv_iload_n hx hb dX2_tick_8 rfl (lv_at hl 0 rfl) ?_
    refine zw_cV (r := (0, 0, 0)) (As := [.int 1]) (rest := []) (st1 := [.int ((sp_mv nr len (sp_mv nr len σ 0).2 1).1)]) ⟨hx, hb, hml, hown, hts⟩ (cd_moveHead (σ := (sp_mv nr len σ 0).2) hR hnr hlen 1 (by decide)) (cwV 1 hts gX2_tick_X2_moveHead rfl rfl rfl (by decide +kernel) ⟨Nat.le_of_ble_eq_true rfl, Nat.le_of_ble_eq_true rfl⟩) (hR.1 0 (by decide)) rfl rfl rfl hK hP hD hS hA hN rfl hl.1 rfl (Nat.le_of_ble_eq_true rfl) rfl dX2_tick_9 ⟨Nat.zero_le _, Nat.zero_le _⟩ (fun H locs hP hD hS => ?_)
    refine lv_istore_n (lv' := [(2, .int ((sp_mv nr len (sp_mv nr len σ 0).2 1).1)), (1, .int 1), (0, .ref (ad (0, 0, 0)))]) hx hb dX2_tick_12 rfl hl (by decide) rfl (fun ls hl => ?_)
    refine lv_iload_n hx hb dX2_tick_13 rfl (lv_at hl 0 rfl) ?_
    refine lv_if_eq (tgt := 28) hx hb dX2_tick_14 (by decide) (fun c_4 => ?_) (fun c_4 => ?_)
    · refine lv_iinc (v := 2) (lv' := [(1, .int 2), (2, .int ((sp_mv nr len (sp_mv nr len σ 0).2 1).1)), (0, .ref (ad (0, 0, 0)))]) hx hb dX2_tick_28 hl (k := 1) rfl rfl (by decide) rfl (fun ls hl => ?_)
      refine lv_goto (tgt := 2) hx hb dX2_tick_31 (by decide) ?_
      refine lv_iload_n hx hb dX2_tick_2 rfl (lv_at hl 0 rfl) ?_
      refine lv_iconst (v := 4) hx hb dX2_tick_3 (by decide) ?_
      refine lv_icmp_ge (tgt := 34) hx hb dX2_tick_4 (by decide) (fun c_5 => absurd c_5 (by decide)) (fun c_5 => ?_)
      refine lv_aload_n hx hb dX2_tick_7 rfl (lv_at hl 2 rfl) ?_
      refine lv_iload_n hx hb dX2_tick_8 rfl (lv_at hl 0 rfl) ?_
      refine zw_cV (r := (0, 0, 0)) (As := [.int 2]) (rest := []) (st1 := [.int ((sp_mv nr len (sp_mv nr len (sp_mv nr len σ 0).2 1).2 2).1)]) ⟨hx, hb, hml, hown, hts⟩ (cd_moveHead (σ := (sp_mv nr len (sp_mv nr len σ 0).2 1).2) hR hnr hlen 2 (by decide)) (cwV 1 hts gX2_tick_X2_moveHead rfl rfl rfl (by decide +kernel) ⟨Nat.le_of_ble_eq_true rfl, Nat.le_of_ble_eq_true rfl⟩) (hR.1 0 (by decide)) rfl rfl rfl hK hP hD hS hA hN rfl hl.1 rfl (Nat.le_of_ble_eq_true rfl) rfl dX2_tick_9 ⟨Nat.zero_le _, Nat.zero_le _⟩ (fun H locs hP hD hS => ?_)
      refine lv_istore_n (lv' := [(2, .int ((sp_mv nr len (sp_mv nr len (sp_mv nr len σ 0).2 1).2 2).1)), (1, .int 2), (0, .ref (ad (0, 0, 0)))]) hx hb dX2_tick_12 rfl hl (by decide) rfl (fun ls hl => ?_)
      refine lv_iload_n hx hb dX2_tick_13 rfl (lv_at hl 0 rfl) ?_
      refine lv_if_eq (tgt := 28) hx hb dX2_tick_14 (by decide) (fun c_6 => ?_) (fun c_6 => ?_)
      · refine lv_iinc (v := 3) (lv' := [(1, .int 3), (2, .int ((sp_mv nr len (sp_mv nr len (sp_mv nr len σ 0).2 1).2 2).1)), (0, .ref (ad (0, 0, 0)))]) hx hb dX2_tick_28 hl (k := 1) rfl rfl (by decide) rfl (fun ls hl => ?_)
        refine lv_goto (tgt := 2) hx hb dX2_tick_31 (by decide) ?_
        refine lv_iload_n hx hb dX2_tick_2 rfl (lv_at hl 0 rfl) ?_
        refine lv_iconst (v := 4) hx hb dX2_tick_3 (by decide) ?_
        refine lv_icmp_ge (tgt := 34) hx hb dX2_tick_4 (by decide) (fun c_7 => absurd c_7 (by decide)) (fun c_7 => ?_)
        refine lv_aload_n hx hb dX2_tick_7 rfl (lv_at hl 2 rfl) ?_
        refine lv_iload_n hx hb dX2_tick_8 rfl (lv_at hl 0 rfl) ?_
        refine zw_cV (r := (0, 0, 0)) (As := [.int 3]) (rest := []) (st1 := [.int ((sp_mv nr len (sp_mv nr len (sp_mv nr len (sp_mv nr len σ 0).2 1).2 2).2 3).1)]) ⟨hx, hb, hml, hown, hts⟩ (cd_moveHead (σ := (sp_mv nr len (sp_mv nr len (sp_mv nr len σ 0).2 1).2 2).2) hR hnr hlen 3 (by decide)) (cwV 1 hts gX2_tick_X2_moveHead rfl rfl rfl (by decide +kernel) ⟨Nat.le_of_ble_eq_true rfl, Nat.le_of_ble_eq_true rfl⟩) (hR.1 0 (by decide)) rfl rfl rfl hK hP hD hS hA hN rfl hl.1 rfl (Nat.le_of_ble_eq_true rfl) rfl dX2_tick_9 ⟨Nat.zero_le _, Nat.zero_le _⟩ (fun H locs hP hD hS => ?_)
        refine lv_istore_n (lv' := [(2, .int ((sp_mv nr len (sp_mv nr len (sp_mv nr len (sp_mv nr len σ 0).2 1).2 2).2 3).1)), (1, .int 3), (0, .ref (ad (0, 0, 0)))]) hx hb dX2_tick_12 rfl hl (by decide) rfl (fun ls hl => ?_)
        refine lv_iload_n hx hb dX2_tick_13 rfl (lv_at hl 0 rfl) ?_
        refine lv_if_eq (tgt := 28) hx hb dX2_tick_14 (by decide) (fun c_8 => ?_) (fun c_8 => ?_)
        · refine lv_iinc (v := 4) (lv' := [(1, .int 4), (2, .int ((sp_mv nr len (sp_mv nr len (sp_mv nr len (sp_mv nr len σ 0).2 1).2 2).2 3).1)), (0, .ref (ad (0, 0, 0)))]) hx hb dX2_tick_28 hl (k := 1) rfl rfl (by decide) rfl (fun ls hl => ?_)
          refine lv_goto (tgt := 2) hx hb dX2_tick_31 (by decide) ?_
          refine lv_iload_n hx hb dX2_tick_2 rfl (lv_at hl 0 rfl) ?_
          refine lv_iconst (v := 4) hx hb dX2_tick_3 (by decide) ?_
          refine lv_icmp_ge (tgt := 34) hx hb dX2_tick_4 (by decide) (fun c_9 => ?_) (fun c_9 => absurd (by decide) c_9)
          refine lv_aload_n hx hb dX2_tick_34 rfl (lv_at hl 2 rfl) ?_
          refine lv_dup hx hb dX2_tick_35 rfl ?_
          refine zw_getf (r := (0, 0, 0)) (v := .int ((sp_mv nr len (sp_mv nr len (sp_mv nr len (sp_mv nr len σ 0).2 1).2 2).2 3).2 (0, 0, 0) 2)) (C := RX2) (T := TX2) (N := 15) (ci := 2) hx hb hts hwX2 hown hK hP (hR.1 0 (by decide)) rfl rfl 3 (by decide) (hts (.fieldLink RX2 22 "FourTrackDeck" "tapeAt" "I") (by decide +kernel)) (fun _ h9 => h9) rfl dX2_tick_36 ?_
          refine lv_iconst (v := 1) hx hb dX2_tick_39 (by decide) ?_
          refine lv_iadd hx hb dX2_tick_40 ?_
          refine zw_putf (r := (0, 0, 0)) (v := .int (((sp_mv nr len (sp_mv nr len (sp_mv nr len (sp_mv nr len σ 0).2 1).2 2).2 3).2 (0, 0, 0) 2) + 1)) (C := RX2) (T := TX2) (N := 15) (ci := 2) hx hb hts hwX2 tyX2 tyX2_ok nmX2 hown hK hP hD hS (hR.1 0 (by decide)) rfl rfl 3 (by decide) (hts (.fieldLink RX2 22 "FourTrackDeck" "tapeAt" "I") (by decide +kernel)) (fun _ h9 => h9) rfl (ty := .int) (by decide +kernel) rfl rfl (Nat.le_of_ble_eq_true rfl) dX2_tick_41 (cu1 := ze_X (ze_D cA ad nr len (sp_s (sp_mv nr len (sp_mv nr len (sp_mv nr len (sp_mv nr len σ 0).2 1).2 2).2 3).2 (0, 0, 0) 2 (((sp_mv nr len (sp_mv nr len (sp_mv nr len (sp_mv nr len σ 0).2 1).2 2).2 3).2 (0, 0, 0) 2) + 1))) cM) (ze_up rfl rfl) (fun H locs hP hD hS => ?_)
          exact zw_vret hx hb hr hlk hK hP hD hS dX2_tick_44 rfl (by simp only [sp_tk, sp_01, sp_12, sp_23, if_pos c_2, if_pos c_4, if_pos c_6, if_pos c_8] <;> rfl)
        · refine lv_aload_n hx hb dX2_tick_17 rfl (lv_at hl 2 rfl) ?_
          refine lv_iload_n hx hb dX2_tick_18 rfl (lv_at hl 1 rfl) ?_
          refine zw_putf (r := (0, 0, 0)) (v := .int 3) (C := RX2) (T := TX2) (N := 15) (ci := 2) hx hb hts hwX2 tyX2 tyX2_ok nmX2 hown hK hP hD hS (hR.1 0 (by decide)) rfl rfl 12 (by decide) (hts (.fieldLink RX2 50 "FourTrackDeck" "tripTrack" "I") (by decide +kernel)) (fun _ h9 => h9) rfl (ty := .int) (by decide +kernel) rfl rfl (Nat.le_of_ble_eq_true rfl) dX2_tick_19 (cu1 := ze_X (ze_D cA ad nr len (sp_s (sp_mv nr len (sp_mv nr len (sp_mv nr len (sp_mv nr len σ 0).2 1).2 2).2 3).2 (0, 0, 0) 7 3)) cM) (ze_up rfl rfl) (fun H locs hP hD hS => ?_)
          refine lv_aload_n hx hb dX2_tick_22 rfl (lv_at hl 2 rfl) ?_
          refine lv_iload_n hx hb dX2_tick_23 rfl (lv_at hl 0 rfl) ?_
          refine zw_putf (r := (0, 0, 0)) (v := .int ((sp_mv nr len (sp_mv nr len (sp_mv nr len (sp_mv nr len σ 0).2 1).2 2).2 3).1)) (C := RX2) (T := TX2) (N := 15) (ci := 2) hx hb hts hwX2 tyX2 tyX2_ok nmX2 hown hK hP hD hS (hR.1 0 (by decide)) rfl rfl 13 (by decide) (hts (.fieldLink RX2 53 "FourTrackDeck" "tripStatus" "I") (by decide +kernel)) (fun _ h9 => h9) rfl (ty := .int) (by decide +kernel) rfl rfl (Nat.le_of_ble_eq_true rfl) dX2_tick_24 (cu1 := ze_X (ze_D cA ad nr len (sp_s (sp_s (sp_mv nr len (sp_mv nr len (sp_mv nr len (sp_mv nr len σ 0).2 1).2 2).2 3).2 (0, 0, 0) 7 3) (0, 0, 0) 8 ((sp_mv nr len (sp_mv nr len (sp_mv nr len (sp_mv nr len σ 0).2 1).2 2).2 3).1))) cM) (ze_up rfl rfl) (fun H locs hP hD hS => ?_)
          exact zw_vret hx hb hr hlk hK hP hD hS dX2_tick_27 rfl (by simp only [sp_tk, sp_01, sp_12, sp_23, if_pos c_2, if_pos c_4, if_pos c_6, if_neg c_8] <;> rfl)
      · refine lv_aload_n hx hb dX2_tick_17 rfl (lv_at hl 2 rfl) ?_
        refine lv_iload_n hx hb dX2_tick_18 rfl (lv_at hl 1 rfl) ?_
        refine zw_putf (r := (0, 0, 0)) (v := .int 2) (C := RX2) (T := TX2) (N := 15) (ci := 2) hx hb hts hwX2 tyX2 tyX2_ok nmX2 hown hK hP hD hS (hR.1 0 (by decide)) rfl rfl 12 (by decide) (hts (.fieldLink RX2 50 "FourTrackDeck" "tripTrack" "I") (by decide +kernel)) (fun _ h9 => h9) rfl (ty := .int) (by decide +kernel) rfl rfl (Nat.le_of_ble_eq_true rfl) dX2_tick_19 (cu1 := ze_X (ze_D cA ad nr len (sp_s (sp_mv nr len (sp_mv nr len (sp_mv nr len σ 0).2 1).2 2).2 (0, 0, 0) 7 2)) cM) (ze_up rfl rfl) (fun H locs hP hD hS => ?_)
        refine lv_aload_n hx hb dX2_tick_22 rfl (lv_at hl 2 rfl) ?_
        refine lv_iload_n hx hb dX2_tick_23 rfl (lv_at hl 0 rfl) ?_
        refine zw_putf (r := (0, 0, 0)) (v := .int ((sp_mv nr len (sp_mv nr len (sp_mv nr len σ 0).2 1).2 2).1)) (C := RX2) (T := TX2) (N := 15) (ci := 2) hx hb hts hwX2 tyX2 tyX2_ok nmX2 hown hK hP hD hS (hR.1 0 (by decide)) rfl rfl 13 (by decide) (hts (.fieldLink RX2 53 "FourTrackDeck" "tripStatus" "I") (by decide +kernel)) (fun _ h9 => h9) rfl (ty := .int) (by decide +kernel) rfl rfl (Nat.le_of_ble_eq_true rfl) dX2_tick_24 (cu1 := ze_X (ze_D cA ad nr len (sp_s (sp_s (sp_mv nr len (sp_mv nr len (sp_mv nr len σ 0).2 1).2 2).2 (0, 0, 0) 7 2) (0, 0, 0) 8 ((sp_mv nr len (sp_mv nr len (sp_mv nr len σ 0).2 1).2 2).1))) cM) (ze_up rfl rfl) (fun H locs hP hD hS => ?_)
        exact zw_vret hx hb hr hlk hK hP hD hS dX2_tick_27 rfl (by simp only [sp_tk, sp_01, sp_12, sp_23, if_pos c_2, if_pos c_4, if_neg c_6] <;> rfl)
    · refine lv_aload_n hx hb dX2_tick_17 rfl (lv_at hl 2 rfl) ?_
      refine lv_iload_n hx hb dX2_tick_18 rfl (lv_at hl 1 rfl) ?_
      refine zw_putf (r := (0, 0, 0)) (v := .int 1) (C := RX2) (T := TX2) (N := 15) (ci := 2) hx hb hts hwX2 tyX2 tyX2_ok nmX2 hown hK hP hD hS (hR.1 0 (by decide)) rfl rfl 12 (by decide) (hts (.fieldLink RX2 50 "FourTrackDeck" "tripTrack" "I") (by decide +kernel)) (fun _ h9 => h9) rfl (ty := .int) (by decide +kernel) rfl rfl (Nat.le_of_ble_eq_true rfl) dX2_tick_19 (cu1 := ze_X (ze_D cA ad nr len (sp_s (sp_mv nr len (sp_mv nr len σ 0).2 1).2 (0, 0, 0) 7 1)) cM) (ze_up rfl rfl) (fun H locs hP hD hS => ?_)
      refine lv_aload_n hx hb dX2_tick_22 rfl (lv_at hl 2 rfl) ?_
      refine lv_iload_n hx hb dX2_tick_23 rfl (lv_at hl 0 rfl) ?_
      refine zw_putf (r := (0, 0, 0)) (v := .int ((sp_mv nr len (sp_mv nr len σ 0).2 1).1)) (C := RX2) (T := TX2) (N := 15) (ci := 2) hx hb hts hwX2 tyX2 tyX2_ok nmX2 hown hK hP hD hS (hR.1 0 (by decide)) rfl rfl 13 (by decide) (hts (.fieldLink RX2 53 "FourTrackDeck" "tripStatus" "I") (by decide +kernel)) (fun _ h9 => h9) rfl (ty := .int) (by decide +kernel) rfl rfl (Nat.le_of_ble_eq_true rfl) dX2_tick_24 (cu1 := ze_X (ze_D cA ad nr len (sp_s (sp_s (sp_mv nr len (sp_mv nr len σ 0).2 1).2 (0, 0, 0) 7 1) (0, 0, 0) 8 ((sp_mv nr len (sp_mv nr len σ 0).2 1).1))) cM) (ze_up rfl rfl) (fun H locs hP hD hS => ?_)
      exact zw_vret hx hb hr hlk hK hP hD hS dX2_tick_27 rfl (by simp only [sp_tk, sp_01, sp_12, sp_23, if_pos c_2, if_neg c_4] <;> rfl)
  · refine lv_aload_n hx hb dX2_tick_17 rfl (lv_at hl 2 rfl) ?_
    refine lv_iload_n hx hb dX2_tick_18 rfl (lv_at hl 1 rfl) ?_
    refine zw_putf (r := (0, 0, 0)) (v := .int 0) (C := RX2) (T := TX2) (N := 15) (ci := 2) hx hb hts hwX2 tyX2 tyX2_ok nmX2 hown hK hP hD hS (hR.1 0 (by decide)) rfl rfl 12 (by decide) (hts (.fieldLink RX2 50 "FourTrackDeck" "tripTrack" "I") (by decide +kernel)) (fun _ h9 => h9) rfl (ty := .int) (by decide +kernel) rfl rfl (Nat.le_of_ble_eq_true rfl) dX2_tick_19 (cu1 := ze_X (ze_D cA ad nr len (sp_s (sp_mv nr len σ 0).2 (0, 0, 0) 7 0)) cM) (ze_up rfl rfl) (fun H locs hP hD hS => ?_)
    refine lv_aload_n hx hb dX2_tick_22 rfl (lv_at hl 2 rfl) ?_
    refine lv_iload_n hx hb dX2_tick_23 rfl (lv_at hl 0 rfl) ?_
    refine zw_putf (r := (0, 0, 0)) (v := .int ((sp_mv nr len σ 0).1)) (C := RX2) (T := TX2) (N := 15) (ci := 2) hx hb hts hwX2 tyX2 tyX2_ok nmX2 hown hK hP hD hS (hR.1 0 (by decide)) rfl rfl 13 (by decide) (hts (.fieldLink RX2 53 "FourTrackDeck" "tripStatus" "I") (by decide +kernel)) (fun _ h9 => h9) rfl (ty := .int) (by decide +kernel) rfl rfl (Nat.le_of_ble_eq_true rfl) dX2_tick_24 (cu1 := ze_X (ze_D cA ad nr len (sp_s (sp_s (sp_mv nr len σ 0).2 (0, 0, 0) 7 0) (0, 0, 0) 8 ((sp_mv nr len σ 0).1))) cM) (ze_up rfl rfl) (fun H locs hP hD hS => ?_)
    exact zw_vret hx hb hr hlk hK hP hD hS dX2_tick_27 rfl (by simp only [sp_tk, sp_01, sp_12, sp_23, if_neg c_2] <;> rfl)
set_option maxHeartbeats 4000000 in
set_option maxRecDepth 100000 in
theorem cd_run {l : Launch} {dC : Nat → ClassId} {dI : Nat → Nat → Nat} {cA : Nat → ClassId} {ad : zw_R → Nat} {R : List zw_R} {nr : Nat} {len : Nat → Nat} {σ : sp_S} {cM : zw_R → va_E} (hR : ze_R nr R) (hnr : nr ≤ 8) (hlen : ∀ i, i < nr → len i ≤ 64) (p0 : Int32) : zw_M l yX2_run wsX2_run { frames := 5, cells := 0, slots := 0, locals := 113 } (ze_E dC dI cA) [.ref (ad (0, 0, 0)), .int p0] ad R (ze_X (ze_D cA ad nr len σ) cM) (some (.int ((sp_run nr len σ p0).1))) (ze_X (ze_D cA ad nr len (sp_run nr len σ p0).2) cM) := by
  refine zw_body (cc := cX2_run) (maxL := 3) (ret := (some .int)) (by decide) rfl (Nat.le_of_ble_eq_true rfl) ?_
  intro p e s m below meth c A ls hx hb hr hlk hml hts hown hnm hA hK hP hD hS hN hl
  have hl : lv_has ls 3 [(0, .ref (ad (0, 0, 0))), (1, .int p0)] := hl
  have hwX2 : ∀ w ∈ u_ws RX2 TX2 15, w ∈ wsX2_run := by decide +kernel
  refine lv_iload_n hx hb dX2_run_0 rfl (lv_at hl 1 rfl) ?_
  refine lv_iconst (v := 1) hx hb dX2_run_1 (by decide) ?_
  refine lv_bipush (v := 100) hx hb dX2_run_2 (by decide) ?_
  rcases Decidable.em (sp_w p0 1 100) with h_1 | h_1
  · refine zw_cS (As := [.int p0, .int 1, .int 100]) (rest := []) (st1 := [.int 1]) ⟨hx, hb, hml, hown, hts⟩ (cd_isWithin_1 p0 1 100 h_1) (va_cwS 3 hts gX2_run_X2_isWithin rfl rfl rfl (by decide +kernel) ⟨Nat.le_of_ble_eq_true rfl, Nat.le_of_ble_eq_true rfl⟩) hK hP hD hS hA hN rfl hl.1 rfl (Nat.le_of_ble_eq_true rfl) rfl dX2_run_4 ⟨Nat.zero_le _, Nat.zero_le _⟩ (fun H locs hP hD hS => ?_)
    refine lv_if_ne (tgt := 17) hx hb dX2_run_7 (by decide) (fun c_2 => ?_) (fun c_2 => absurd c_2 (by decide))
    refine lv_aload_n hx hb dX2_run_17 rfl (lv_at hl 0 rfl) ?_
    refine zw_getf (r := (0, 0, 0)) (v := .int (σ (0, 0, 0) 1)) (C := RX2) (T := TX2) (N := 15) (ci := 2) hx hb hts hwX2 hown hK hP (hR.1 0 (by decide)) rfl rfl 2 (by decide) (hts (.fieldLink RX2 19 "FourTrackDeck" "onDeck" "I") (by decide +kernel)) (fun _ h9 => h9) rfl dX2_run_18 ?_
    refine lv_iconst (v := (-1)) hx hb dX2_run_21 (by decide) ?_
    refine lv_icmp_ne (tgt := 32) hx hb dX2_run_22 (by decide) (fun c_3 => ?_) (fun c_3 => ?_)
    · refine lv_aload_n hx hb dX2_run_32 rfl (lv_at hl 0 rfl) ?_
      refine lv_iconst (v := (-1)) hx hb dX2_run_33 (by decide) ?_
      refine zw_putf (r := (0, 0, 0)) (v := .int (-1)) (C := RX2) (T := TX2) (N := 15) (ci := 2) hx hb hts hwX2 tyX2 tyX2_ok nmX2 hown hK hP hD hS (hR.1 0 (by decide)) rfl rfl 12 (by decide) (hts (.fieldLink RX2 50 "FourTrackDeck" "tripTrack" "I") (by decide +kernel)) (fun _ h9 => h9) rfl (ty := .int) (by decide +kernel) rfl rfl (Nat.le_of_ble_eq_true rfl) dX2_run_34 (cu1 := ze_X (ze_D cA ad nr len (sp_s σ (0, 0, 0) 7 (-1))) cM) (ze_up rfl rfl) (fun H locs hP hD hS => ?_)
      refine lv_aload_n hx hb dX2_run_37 rfl (lv_at hl 0 rfl) ?_
      refine lv_iconst (v := 0) hx hb dX2_run_38 (by decide) ?_
      refine zw_putf (r := (0, 0, 0)) (v := .int 0) (C := RX2) (T := TX2) (N := 15) (ci := 2) hx hb hts hwX2 tyX2 tyX2_ok nmX2 hown hK hP hD hS (hR.1 0 (by decide)) rfl rfl 13 (by decide) (hts (.fieldLink RX2 53 "FourTrackDeck" "tripStatus" "I") (by decide +kernel)) (fun _ h9 => h9) rfl (ty := .int) (by decide +kernel) rfl rfl (Nat.le_of_ble_eq_true rfl) dX2_run_39 (cu1 := ze_X (ze_D cA ad nr len (sp_s (sp_s σ (0, 0, 0) 7 (-1)) (0, 0, 0) 8 0)) cM) (ze_up rfl rfl) (fun H locs hP hD hS => ?_)
      refine lv_iconst (v := 0) hx hb dX2_run_42 (by decide) ?_
      refine lv_istore_n (lv' := [(2, .int 0), (0, .ref (ad (0, 0, 0))), (1, .int p0)]) hx hb dX2_run_43 rfl hl (by decide) rfl (fun ls hl => ?_)
      have h0 : (0 : Int32) ≤ p0 := Int32.le_trans (by decide) h_1.1
      have eN : p0 = nI p0.toNatClampNeg := (ze_nn h0).symm
      have hNb := ze_nb (n := 100) rfl h0 h_1.2
      have key : ∀ (mm j : Nat) (k : Int32) (τ : sp_S) (H : Heap) (locs : List Loc) (ls : Array Slot), k = nI j → j + mm = p0.toNatClampNeg → sp_run nr len σ p0 = sp_rl nr len mm k τ → va_P (ze_E dC dI cA).1 (ze_E dC dI cA).2.1 (zw_l ad R (ze_X (ze_D cA ad nr len τ) cM)) H → va_D A (zw_l ad R (ze_X (ze_D cA ad nr len τ) cM)) → va_S A s.heap H locs → lv_has ls 3 [(2, .int k), (0, .ref (ad (0, 0, 0))), (1, .int p0)] → W p l e ({ frames := 5, cells := 0, slots := 0, locals := 113 } : Room) s m [Value.ref (ad (0, 0, 0)), Value.int p0].toArray below meth c H locs 0 0 (MQ below (zw_Q (some (.int (sp_run nr len σ p0).1)) (zw_B (ze_E dC dI cA) A ad R (ze_X (ze_D cA ad nr len (sp_run nr len σ p0).2) cM)) A) [Value.ref (ad (0, 0, 0)), Value.int p0].toArray s 0 0 A) (F0 m 44 ls []) := by
        intro mm
        induction mm with
        | zero =>
          intro j k τ H locs ls hk hj hE hP hD hS hl
          have hge : p0 ≤ k := by rw [hk, eN]; exact nI_le (by omega) (by omega)
          refine lv_iload_n hx hb dX2_run_44 rfl (lv_at hl 0 rfl) ?_
          refine lv_iload_n hx hb dX2_run_45 rfl (lv_at hl 2 rfl) ?_
          refine lv_icmp_ge (tgt := 76) hx hb dX2_run_46 (by decide) (fun c_4 => ?_) (fun c_4 => absurd hge c_4)
          refine lv_aload_n hx hb dX2_run_76 rfl (lv_at hl 1 rfl) ?_
          refine lv_iconst (v := 0) hx hb dX2_run_77 (by decide) ?_
          refine lv_iload_n hx hb dX2_run_78 rfl (lv_at hl 2 rfl) ?_
          refine zw_cV (r := (0, 0, 0)) (As := [.int 0, .int p0]) (rest := []) (st1 := [.int p0]) ⟨hx, hb, hml, hown, hts⟩ (cd_end (σ := τ) hR 0 p0) (cwV 2 hts gX2_run_X2_end rfl rfl rfl (by decide +kernel) ⟨Nat.le_of_ble_eq_true rfl, Nat.le_of_ble_eq_true rfl⟩) (hR.1 0 (by decide)) rfl rfl rfl hK hP hD hS hA hN rfl hl.1 rfl (Nat.le_of_ble_eq_true rfl) rfl dX2_run_79 ⟨Nat.zero_le _, Nat.zero_le _⟩ (fun H locs hP hD hS => ?_)
          exact zw_iret hx hb hr hlk hK hP hD hS dX2_run_82 (by rw [hE]; simp only [sp_rl]; rw [hk, show j = p0.toNatClampNeg by omega, ← eN]) (by rw [hE]; simp only [sp_rl] <;> rfl)
        | succ mm ih =>
          intro j k τ H locs ls hk hj hE hP hD hS hl
          have hlt : ¬ p0 ≤ k := by rw [hk, eN]; exact nI_ge (by omega) (by omega)
          refine lv_iload_n hx hb dX2_run_44 rfl (lv_at hl 0 rfl) ?_
          refine lv_iload_n hx hb dX2_run_45 rfl (lv_at hl 2 rfl) ?_
          refine lv_icmp_ge (tgt := 76) hx hb dX2_run_46 (by decide) (fun c_5 => absurd c_5 hlt) (fun c_5 => ?_)
          refine lv_aload_n hx hb dX2_run_49 rfl (lv_at hl 1 rfl) ?_
          refine zw_cV (r := (0, 0, 0)) (As := []) (rest := []) (st1 := []) ⟨hx, hb, hml, hown, hts⟩ (cd_tick (σ := τ) hR hnr hlen) (cwV 0 hts gX2_run_X2_tick rfl rfl rfl (by decide +kernel) ⟨Nat.le_of_ble_eq_true rfl, Nat.le_of_ble_eq_true rfl⟩) (hR.1 0 (by decide)) rfl rfl rfl hK hP hD hS hA hN rfl hl.1 rfl (Nat.le_of_ble_eq_true rfl) rfl dX2_run_50 ⟨Nat.zero_le _, Nat.zero_le _⟩ (fun H locs hP hD hS => ?_)
          refine lv_aload_n hx hb dX2_run_53 rfl (lv_at hl 1 rfl) ?_
          refine zw_getf (r := (0, 0, 0)) (v := .int ((sp_tk nr len 4 0 τ) (0, 0, 0) 8)) (C := RX2) (T := TX2) (N := 15) (ci := 2) hx hb hts hwX2 hown hK hP (hR.1 0 (by decide)) rfl rfl 13 (by decide) (hts (.fieldLink RX2 53 "FourTrackDeck" "tripStatus" "I") (by decide +kernel)) (fun _ h9 => h9) rfl dX2_run_54 ?_
          refine lv_if_eq (tgt := 70) hx hb dX2_run_57 (by decide) (fun c_6 => ?_) (fun c_6 => ?_)
          · refine lv_iinc (v := (k + 1)) (lv' := [(2, .int (k + 1)), (0, .ref (ad (0, 0, 0))), (1, .int p0)]) hx hb dX2_run_70 hl (k := 0) rfl rfl (by decide) rfl (fun ls hl => ?_)
            refine lv_goto (tgt := 44) hx hb dX2_run_73 (by decide) ?_
            exact ih (j + 1) (k + 1) (sp_tk nr len 4 0 τ) _ _ _ (by rw [hk, nI_1]) (by omega) (hE.trans (by simp only [sp_rl, if_pos c_6] <;> rfl)) hP hD hS (lv_sub hl [0, 1, 2] rfl)
          · refine lv_aload_n hx hb dX2_run_60 rfl (lv_at hl 1 rfl) ?_
            refine lv_aload_n hx hb dX2_run_61 rfl (lv_at hl 1 rfl) ?_
            refine zw_getf (r := (0, 0, 0)) (v := .int ((sp_tk nr len 4 0 τ) (0, 0, 0) 8)) (C := RX2) (T := TX2) (N := 15) (ci := 2) hx hb hts hwX2 hown hK hP (hR.1 0 (by decide)) rfl rfl 13 (by decide) (hts (.fieldLink RX2 53 "FourTrackDeck" "tripStatus" "I") (by decide +kernel)) (fun _ h9 => h9) rfl dX2_run_62 ?_
            refine lv_iload_n hx hb dX2_run_65 rfl (lv_at hl 0 rfl) ?_
            refine zw_cV (r := (0, 0, 0)) (As := [.int ((sp_tk nr len 4 0 τ) (0, 0, 0) 8), .int k]) (rest := []) (st1 := [.int k]) ⟨hx, hb, hml, hown, hts⟩ (cd_end (σ := (sp_tk nr len 4 0 τ)) hR ((sp_tk nr len 4 0 τ) (0, 0, 0) 8) k) (cwV 2 hts gX2_run_X2_end rfl rfl rfl (by decide +kernel) ⟨Nat.le_of_ble_eq_true rfl, Nat.le_of_ble_eq_true rfl⟩) (hR.1 0 (by decide)) rfl rfl rfl hK hP hD hS hA hN rfl hl.1 rfl (Nat.le_of_ble_eq_true rfl) rfl dX2_run_66 ⟨Nat.zero_le _, Nat.zero_le _⟩ (fun H locs hP hD hS => ?_)
            exact zw_iret hx hb hr hlk hK hP hD hS dX2_run_69 (by rw [hE]; simp only [sp_rl, if_neg c_6] <;> rfl) (by rw [hE]; simp only [sp_rl, if_neg c_6] <;> rfl)
      exact key p0.toNatClampNeg 0 0 (sp_s (sp_s σ (0, 0, 0) 7 (-1)) (0, 0, 0) 8 0) _ _ _ nI_0.symm (by omega) (by simp only [sp_run, if_pos h_1, if_neg c_3] <;> rfl) hP hD hS hl
    · refine lv_aload_n hx hb dX2_run_25 rfl (lv_at hl 0 rfl) ?_
      refine lv_iconst (v := 5) hx hb dX2_run_26 (by decide) ?_
      refine lv_iconst (v := 0) hx hb dX2_run_27 (by decide) ?_
      refine zw_cV (r := (0, 0, 0)) (As := [.int 5, .int 0]) (rest := []) (st1 := [.int 0]) ⟨hx, hb, hml, hown, hts⟩ (cd_end (σ := σ) hR 5 0) (cwV 2 hts gX2_run_X2_end rfl rfl rfl (by decide +kernel) ⟨Nat.le_of_ble_eq_true rfl, Nat.le_of_ble_eq_true rfl⟩) (hR.1 0 (by decide)) rfl rfl rfl hK hP hD hS hA hN rfl hl.1 rfl (Nat.le_of_ble_eq_true rfl) rfl dX2_run_28 ⟨Nat.zero_le _, Nat.zero_le _⟩ (fun H locs hP hD hS => ?_)
      exact zw_iret hx hb hr hlk hK hP hD hS dX2_run_31 (by simp only [sp_run, if_pos h_1, if_pos c_3] <;> rfl) (by simp only [sp_run, if_pos h_1, if_pos c_3] <;> rfl)
  · refine zw_cS (As := [.int p0, .int 1, .int 100]) (rest := []) (st1 := [.int 0]) ⟨hx, hb, hml, hown, hts⟩ (cd_isWithin_0 p0 1 100 h_1) (va_cwS 3 hts gX2_run_X2_isWithin rfl rfl rfl (by decide +kernel) ⟨Nat.le_of_ble_eq_true rfl, Nat.le_of_ble_eq_true rfl⟩) hK hP hD hS hA hN rfl hl.1 rfl (Nat.le_of_ble_eq_true rfl) rfl dX2_run_4 ⟨Nat.zero_le _, Nat.zero_le _⟩ (fun H locs hP hD hS => ?_)
    refine lv_if_ne (tgt := 17) hx hb dX2_run_7 (by decide) (fun c_7 => absurd (by decide) c_7) (fun c_7 => ?_)
    refine lv_aload_n hx hb dX2_run_10 rfl (lv_at hl 0 rfl) ?_
    refine lv_iconst (v := 1) hx hb dX2_run_11 (by decide) ?_
    refine lv_iconst (v := 0) hx hb dX2_run_12 (by decide) ?_
    refine zw_cV (r := (0, 0, 0)) (As := [.int 1, .int 0]) (rest := []) (st1 := [.int 0]) ⟨hx, hb, hml, hown, hts⟩ (cd_end (σ := σ) hR 1 0) (cwV 2 hts gX2_run_X2_end rfl rfl rfl (by decide +kernel) ⟨Nat.le_of_ble_eq_true rfl, Nat.le_of_ble_eq_true rfl⟩) (hR.1 0 (by decide)) rfl rfl rfl hK hP hD hS hA hN rfl hl.1 rfl (Nat.le_of_ble_eq_true rfl) rfl dX2_run_13 ⟨Nat.zero_le _, Nat.zero_le _⟩ (fun H locs hP hD hS => ?_)
    exact zw_iret hx hb hr hlk hK hP hD hS dX2_run_16 (by simp only [sp_run, if_neg h_1] <;> rfl) (by simp only [sp_run, if_neg h_1] <;> rfl)
set_option maxHeartbeats 4000000 in
set_option maxRecDepth 100000 in
theorem cd_dub {l : Launch} {dC : Nat → ClassId} {dI : Nat → Nat → Nat} {cA : Nat → ClassId} {ad : zw_R → Nat} {R : List zw_R} {nr : Nat} {len : Nat → Nat} {σ : sp_S} {cM : zw_R → va_E} (hR : ze_R nr R) (hnr : nr ≤ 8) (hlen : ∀ i, i < nr → len i ≤ 64) (p0 p1 p2 p3 p4 p5 : Int32) : zw_M l yX2_dub wsX2_dub { frames := 3, cells := 0, slots := 0, locals := 65 } (ze_E dC dI cA) [.ref (ad (0, 0, 0)), .int p0, .int p1, .int p2, .int p3, .int p4, .int p5] ad R (ze_X (ze_D cA ad nr len σ) cM) (some (.int ((sp_dub nr len σ p0 p1 p2 p3 p4 p5).1))) (ze_X (ze_D cA ad nr len (sp_dub nr len σ p0 p1 p2 p3 p4 p5).2) cM) := by
  refine zw_body (cc := cX2_dub) (maxL := 11) (ret := (some .int)) (by decide) rfl (Nat.le_of_ble_eq_true rfl) ?_
  intro p e s m below meth c A ls hx hb hr hlk hml hts hown hnm hA hK hP hD hS hN hl
  have hl : lv_has ls 11 [(0, .ref (ad (0, 0, 0))), (1, .int p0), (2, .int p1), (3, .int p2), (4, .int p3), (5, .int p4), (6, .int p5)] := hl
  have hwX2 : ∀ w ∈ u_ws RX2 TX2 15, w ∈ wsX2_dub := by decide +kernel
  refine lv_aload_n hx hb dX2_dub_0 rfl (lv_at hl 0 rfl) ?_
  refine lv_iload_n hx hb dX2_dub_1 rfl (lv_at hl 1 rfl) ?_
  refine lv_iload_n hx hb dX2_dub_2 rfl (lv_at hl 2 rfl) ?_
  rcases Decidable.em (sp_v nr p0 p1) with h_1 | h_1
  · refine zw_cV (r := (0, 0, 0)) (As := [.int p0, .int p1]) (rest := []) (st1 := [.ref (ad (8, p0.toNatClampNeg, p1.toNatClampNeg))]) ⟨hx, hb, hml, hown, hts⟩ (cd_trackOf_1 (σ := σ) hR hnr p0 p1 h_1) (cwV 2 hts gX2_dub_X2_trackOf rfl rfl rfl (by decide +kernel) ⟨Nat.le_of_ble_eq_true rfl, Nat.le_of_ble_eq_true rfl⟩) (hR.1 0 (by decide)) rfl rfl rfl hK hP hD hS hA hN rfl hl.1 rfl (Nat.le_of_ble_eq_true rfl) rfl dX2_dub_3 ⟨Nat.zero_le _, Nat.zero_le _⟩ (fun H locs hP hD hS => ?_)
    refine lv_astore (lv' := [(7, .ref (ad (8, p0.toNatClampNeg, p1.toNatClampNeg))), (0, .ref (ad (0, 0, 0))), (1, .int p0), (2, .int p1), (3, .int p2), (4, .int p3), (5, .int p4), (6, .int p5)]) hx hb dX2_dub_6 hl (by decide) rfl (fun ls hl => ?_)
    refine lv_aload_n hx hb dX2_dub_8 rfl (lv_at hl 1 rfl) ?_
    refine lv_iload hx hb dX2_dub_9 (lv_at hl 6 rfl) ?_
    refine lv_iload hx hb dX2_dub_11 (lv_at hl 7 rfl) ?_
    rcases Decidable.em (sp_v nr p4 p5) with h_2 | h_2
    · refine zw_cV (r := (0, 0, 0)) (As := [.int p4, .int p5]) (rest := []) (st1 := [.ref (ad (8, p4.toNatClampNeg, p5.toNatClampNeg))]) ⟨hx, hb, hml, hown, hts⟩ (cd_trackOf_1 (σ := σ) hR hnr p4 p5 h_2) (cwV 2 hts gX2_dub_X2_trackOf rfl rfl rfl (by decide +kernel) ⟨Nat.le_of_ble_eq_true rfl, Nat.le_of_ble_eq_true rfl⟩) (hR.1 0 (by decide)) rfl rfl rfl hK hP hD hS hA hN rfl hl.1 rfl (Nat.le_of_ble_eq_true rfl) rfl dX2_dub_13 ⟨Nat.zero_le _, Nat.zero_le _⟩ (fun H locs hP hD hS => ?_)
      refine lv_astore (lv' := [(8, .ref (ad (8, p4.toNatClampNeg, p5.toNatClampNeg))), (7, .ref (ad (8, p0.toNatClampNeg, p1.toNatClampNeg))), (0, .ref (ad (0, 0, 0))), (1, .int p0), (2, .int p1), (3, .int p2), (4, .int p3), (5, .int p4), (6, .int p5)]) hx hb dX2_dub_16 hl (by decide) rfl (fun ls hl => ?_)
      refine lv_aload hx hb dX2_dub_18 (lv_at hl 1 rfl) ?_
      refine lv_ifnull hx hb dX2_dub_20 ?_
      refine lv_aload hx hb dX2_dub_23 (lv_at hl 0 rfl) ?_
      refine lv_ifnull hx hb dX2_dub_25 ?_
      refine lv_iload hx hb dX2_dub_28 (lv_at hl 6 rfl) ?_
      refine lv_iconst (v := 0) hx hb dX2_dub_30 (by decide) ?_
      refine lv_bipush (v := 64) hx hb dX2_dub_31 (by decide) ?_
      rcases Decidable.em (sp_w p3 0 64) with h_3 | h_3
      · refine zw_cS (As := [.int p3, .int 0, .int 64]) (rest := []) (st1 := [.int 1]) ⟨hx, hb, hml, hown, hts⟩ (cd_isWithin_1 p3 0 64 h_3) (va_cwS 3 hts gX2_dub_X2_isWithin rfl rfl rfl (by decide +kernel) ⟨Nat.le_of_ble_eq_true rfl, Nat.le_of_ble_eq_true rfl⟩) hK hP hD hS hA hN rfl hl.1 rfl (Nat.le_of_ble_eq_true rfl) rfl dX2_dub_33 ⟨Nat.zero_le _, Nat.zero_le _⟩ (fun H locs hP hD hS => ?_)
        refine lv_if_ne (tgt := 46) hx hb dX2_dub_36 (by decide) (fun c_4 => ?_) (fun c_4 => absurd c_4 (by decide))
        refine lv_iconst (v := 0) hx hb dX2_dub_46 (by decide) ?_
        refine lv_istore (lv' := [(9, .int 0), (8, .ref (ad (8, p4.toNatClampNeg, p5.toNatClampNeg))), (7, .ref (ad (8, p0.toNatClampNeg, p1.toNatClampNeg))), (0, .ref (ad (0, 0, 0))), (1, .int p0), (2, .int p1), (3, .int p2), (4, .int p3), (5, .int p4), (6, .int p5)]) hx hb dX2_dub_47 hl (by decide) rfl (fun ls hl => ?_)
        have h0 : (0 : Int32) ≤ p3 := h_3.1
        have eN : p3 = nI p3.toNatClampNeg := (ze_nn h0).symm
        have hNb := ze_nb (n := 64) rfl h0 h_3.2
        have key : ∀ (mm j : Nat) (k : Int32) (τ : sp_S) (H : Heap) (locs : List Loc) (ls : Array Slot), k = nI j → j + mm = p3.toNatClampNeg → sp_dub nr len σ p0 p1 p2 p3 p4 p5 = sp_dl len p0.toNatClampNeg p1.toNatClampNeg p2 p4.toNatClampNeg p5.toNatClampNeg mm k τ → va_P (ze_E dC dI cA).1 (ze_E dC dI cA).2.1 (zw_l ad R (ze_X (ze_D cA ad nr len τ) cM)) H → va_D A (zw_l ad R (ze_X (ze_D cA ad nr len τ) cM)) → va_S A s.heap H locs → lv_has ls 11 [(9, .int k), (8, .ref (ad (8, p4.toNatClampNeg, p5.toNatClampNeg))), (7, .ref (ad (8, p0.toNatClampNeg, p1.toNatClampNeg))), (0, .ref (ad (0, 0, 0))), (1, .int p0), (2, .int p1), (3, .int p2), (4, .int p3), (5, .int p4), (6, .int p5)] → W p l e ({ frames := 3, cells := 0, slots := 0, locals := 65 } : Room) s m [Value.ref (ad (0, 0, 0)), Value.int p0, Value.int p1, Value.int p2, Value.int p3, Value.int p4, Value.int p5].toArray below meth c H locs 0 0 (MQ below (zw_Q (some (.int (sp_dub nr len σ p0 p1 p2 p3 p4 p5).1)) (zw_B (ze_E dC dI cA) A ad R (ze_X (ze_D cA ad nr len (sp_dub nr len σ p0 p1 p2 p3 p4 p5).2) cM)) A) [Value.ref (ad (0, 0, 0)), Value.int p0, Value.int p1, Value.int p2, Value.int p3, Value.int p4, Value.int p5].toArray s 0 0 A) (F0 m 49 ls []) := by
          intro mm
          induction mm with
          | zero =>
            intro j k τ H locs ls hk hj hE hP hD hS hl
            have hge : p3 ≤ k := by rw [hk, eN]; exact nI_le (by omega) (by omega)
            refine lv_iload hx hb dX2_dub_49 (lv_at hl 0 rfl) ?_
            refine lv_iload hx hb dX2_dub_51 (lv_at hl 7 rfl) ?_
            refine lv_icmp_ge (tgt := 123) hx hb dX2_dub_53 (by decide) (fun c_5 => ?_) (fun c_5 => absurd hge c_5)
            refine lv_aload_n hx hb dX2_dub_123 rfl (lv_at hl 3 rfl) ?_
            refine lv_iconst (v := 0) hx hb dX2_dub_124 (by decide) ?_
            refine lv_iload hx hb dX2_dub_125 (lv_at hl 7 rfl) ?_
            refine zw_cV (r := (0, 0, 0)) (As := [.int 0, .int p3]) (rest := []) (st1 := [.int p3]) ⟨hx, hb, hml, hown, hts⟩ (cd_end (σ := τ) hR 0 p3) (cwV 2 hts gX2_dub_X2_end rfl rfl rfl (by decide +kernel) ⟨Nat.le_of_ble_eq_true rfl, Nat.le_of_ble_eq_true rfl⟩) (hR.1 0 (by decide)) rfl rfl rfl hK hP hD hS hA hN rfl hl.1 rfl (Nat.le_of_ble_eq_true rfl) rfl dX2_dub_127 ⟨Nat.zero_le _, Nat.zero_le _⟩ (fun H locs hP hD hS => ?_)
            exact zw_iret hx hb hr hlk hK hP hD hS dX2_dub_130 (by rw [hE]; simp only [sp_dl]; rw [hk, show j = p3.toNatClampNeg by omega, ← eN]) (by rw [hE]; simp only [sp_dl] <;> rfl)
          | succ mm ih =>
            intro j k τ H locs ls hk hj hE hP hD hS hl
            have hlt : ¬ p3 ≤ k := by rw [hk, eN]; exact nI_ge (by omega) (by omega)
            refine lv_iload hx hb dX2_dub_49 (lv_at hl 0 rfl) ?_
            refine lv_iload hx hb dX2_dub_51 (lv_at hl 7 rfl) ?_
            refine lv_icmp_ge (tgt := 123) hx hb dX2_dub_53 (by decide) (fun c_6 => absurd c_6 hlt) (fun c_6 => ?_)
            refine lv_aload hx hb dX2_dub_56 (lv_at hl 2 rfl) ?_
            refine lv_iload_n hx hb dX2_dub_58 rfl (lv_at hl 6 rfl) ?_
            refine lv_iload hx hb dX2_dub_59 (lv_at hl 0 rfl) ?_
            refine lv_iadd hx hb dX2_dub_61 ?_
            refine zw_cVN (r := (8, p0.toNatClampNeg, p1.toNatClampNeg)) (As := [.int (p2 + k)]) (rest := []) (st1 := [.int (sp_f len τ p0.toNatClampNeg p1.toNatClampNeg (p2 + k))]) ⟨hx, hb, hml, hown, hts⟩ (cd_faultAt (σ := τ) hR p0.toNatClampNeg p1.toNatClampNeg (ze_vr h_1.1 hnr) (ze_vt h_1.2) (p2 + k)) ⟨va_cnB (host := "FourTrackDeck") 1 hts gX2_dub_X1_faultAt_n98 rfl rfl rfl (hN.2.1 ("FourTrackDeck", 98, yX1_faultAt, "FourTrackDeck") (by decide +kernel)) (hts (.initialized RX1) (by decide +kernel)) (by decide +kernel) ⟨Nat.le_of_ble_eq_true rfl, Nat.le_of_ble_eq_true rfl⟩, hts (.instanceMethod yX1_faultAt) (by decide +kernel), hts (.selects RX1 yX1_faultAt yX1_faultAt) (by decide +kernel)⟩ ((hR.2 p0.toNatClampNeg (ze_vr h_1.1 hnr)).2.2 p1.toNatClampNeg (ze_vt h_1.2)).1 rfl rfl rfl hK hP hD hS hA hN rfl hl.1 rfl (Nat.le_of_ble_eq_true rfl) rfl dX2_dub_62 ⟨Nat.zero_le _, Nat.zero_le _⟩ (fun H locs hP hD hS => ?_)
            refine lv_aload hx hb dX2_dub_65 (lv_at hl 1 rfl) ?_
            refine lv_aload_n hx hb dX2_dub_67 rfl (lv_at hl 3 rfl) ?_
            refine zw_getf (r := (0, 0, 0)) (v := .int (τ (0, 0, 0) 2)) (C := RX2) (T := TX2) (N := 15) (ci := 2) hx hb hts hwX2 hown hK hP (hR.1 0 (by decide)) rfl rfl 3 (by decide) (hts (.fieldLink RX2 22 "FourTrackDeck" "tapeAt" "I") (by decide +kernel)) (fun _ h9 => h9) rfl dX2_dub_68 ?_
            refine lv_iload hx hb dX2_dub_71 (lv_at hl 0 rfl) ?_
            refine lv_iadd hx hb dX2_dub_73 ?_
            refine zw_cVN (r := (8, p4.toNatClampNeg, p5.toNatClampNeg)) (As := [.int ((τ (0, 0, 0) 2) + k)]) (rest := [.int (sp_f len τ p0.toNatClampNeg p1.toNatClampNeg (p2 + k))]) (st1 := [.int (sp_f len τ p4.toNatClampNeg p5.toNatClampNeg ((τ (0, 0, 0) 2) + k)), .int (sp_f len τ p0.toNatClampNeg p1.toNatClampNeg (p2 + k))]) ⟨hx, hb, hml, hown, hts⟩ (cd_faultAt (σ := τ) hR p4.toNatClampNeg p5.toNatClampNeg (ze_vr h_2.1 hnr) (ze_vt h_2.2) ((τ (0, 0, 0) 2) + k)) ⟨va_cnB (host := "FourTrackDeck") 1 hts gX2_dub_X1_faultAt_n98 rfl rfl rfl (hN.2.1 ("FourTrackDeck", 98, yX1_faultAt, "FourTrackDeck") (by decide +kernel)) (hts (.initialized RX1) (by decide +kernel)) (by decide +kernel) ⟨Nat.le_of_ble_eq_true rfl, Nat.le_of_ble_eq_true rfl⟩, hts (.instanceMethod yX1_faultAt) (by decide +kernel), hts (.selects RX1 yX1_faultAt yX1_faultAt) (by decide +kernel)⟩ ((hR.2 p4.toNatClampNeg (ze_vr h_2.1 hnr)).2.2 p5.toNatClampNeg (ze_vt h_2.2)).1 rfl rfl rfl hK hP hD hS hA hN rfl hl.1 rfl (Nat.le_of_ble_eq_true rfl) rfl dX2_dub_74 ⟨Nat.zero_le _, Nat.zero_le _⟩ (fun H locs hP hD hS => ?_)
            refine zw_cS (As := [.int (sp_f len τ p0.toNatClampNeg p1.toNatClampNeg (p2 + k)), .int (sp_f len τ p4.toNatClampNeg p5.toNatClampNeg ((τ (0, 0, 0) 2) + k))]) (rest := []) (st1 := [.int (if (sp_f len τ p0.toNatClampNeg p1.toNatClampNeg (p2 + k)) = 0 then (sp_f len τ p4.toNatClampNeg p5.toNatClampNeg ((τ (0, 0, 0) 2) + k)) else (sp_f len τ p0.toNatClampNeg p1.toNatClampNeg (p2 + k)))]) ⟨hx, hb, hml, hown, hts⟩ (cd_firstFault (sp_f len τ p0.toNatClampNeg p1.toNatClampNeg (p2 + k)) (sp_f len τ p4.toNatClampNeg p5.toNatClampNeg ((τ (0, 0, 0) 2) + k))) (va_cwS 2 hts gX2_dub_X2_firstFault rfl rfl rfl (by decide +kernel) ⟨Nat.le_of_ble_eq_true rfl, Nat.le_of_ble_eq_true rfl⟩) hK hP hD hS hA hN rfl hl.1 rfl (Nat.le_of_ble_eq_true rfl) rfl dX2_dub_77 ⟨Nat.zero_le _, Nat.zero_le _⟩ (fun H locs hP hD hS => ?_)
            refine lv_istore (lv' := [(10, .int (if (sp_f len τ p0.toNatClampNeg p1.toNatClampNeg (p2 + k)) = 0 then (sp_f len τ p4.toNatClampNeg p5.toNatClampNeg ((τ (0, 0, 0) 2) + k)) else (sp_f len τ p0.toNatClampNeg p1.toNatClampNeg (p2 + k)))), (9, .int k), (8, .ref (ad (8, p4.toNatClampNeg, p5.toNatClampNeg))), (7, .ref (ad (8, p0.toNatClampNeg, p1.toNatClampNeg))), (0, .ref (ad (0, 0, 0))), (1, .int p0), (2, .int p1), (3, .int p2), (4, .int p3), (5, .int p4), (6, .int p5)]) hx hb dX2_dub_80 hl (by decide) rfl (fun ls hl => ?_)
            refine lv_iload hx hb dX2_dub_82 (lv_at hl 0 rfl) ?_
            refine lv_if_eq (tgt := 96) hx hb dX2_dub_84 (by decide) (fun c_7 => ?_) (fun c_7 => ?_)
            · refine lv_aload hx hb dX2_dub_96 (lv_at hl 2 rfl) ?_
              refine lv_aload_n hx hb dX2_dub_98 rfl (lv_at hl 4 rfl) ?_
              refine zw_getf (r := (0, 0, 0)) (v := .int (τ (0, 0, 0) 2)) (C := RX2) (T := TX2) (N := 15) (ci := 2) hx hb hts hwX2 hown hK hP (hR.1 0 (by decide)) rfl rfl 3 (by decide) (hts (.fieldLink RX2 22 "FourTrackDeck" "tapeAt" "I") (by decide +kernel)) (fun _ h9 => h9) rfl dX2_dub_99 ?_
              refine lv_iload hx hb dX2_dub_102 (lv_at hl 1 rfl) ?_
              refine lv_iadd hx hb dX2_dub_104 ?_
              refine lv_aload hx hb dX2_dub_105 (lv_at hl 3 rfl) ?_
              refine lv_iload_n hx hb dX2_dub_107 rfl (lv_at hl 7 rfl) ?_
              refine lv_iload hx hb dX2_dub_108 (lv_at hl 1 rfl) ?_
              refine lv_iadd hx hb dX2_dub_110 ?_
              refine zw_cVN (r := (8, p0.toNatClampNeg, p1.toNatClampNeg)) (As := [.int (p2 + k)]) (rest := [.int ((τ (0, 0, 0) 2) + k), .ref (ad (8, p4.toNatClampNeg, p5.toNatClampNeg))]) (st1 := [.int (sp_n len τ p0.toNatClampNeg p1.toNatClampNeg (p2 + k)), .int ((τ (0, 0, 0) 2) + k), .ref (ad (8, p4.toNatClampNeg, p5.toNatClampNeg))]) ⟨hx, hb, hml, hown, hts⟩ (cd_numberAt (σ := τ) hR p0.toNatClampNeg p1.toNatClampNeg (ze_vr h_1.1 hnr) (ze_vt h_1.2) (hlen _ (ze_vr h_1.1 hnr)) (p2 + k)) ⟨va_cnB (host := "FourTrackDeck") 1 hts gX2_dub_X1_numberAt_n101 rfl rfl rfl (hN.2.1 ("FourTrackDeck", 101, yX1_numberAt, "FourTrackDeck") (by decide +kernel)) (hts (.initialized RX1) (by decide +kernel)) (by decide +kernel) ⟨Nat.le_of_ble_eq_true rfl, Nat.le_of_ble_eq_true rfl⟩, hts (.instanceMethod yX1_numberAt) (by decide +kernel), hts (.selects RX1 yX1_numberAt yX1_numberAt) (by decide +kernel)⟩ ((hR.2 p0.toNatClampNeg (ze_vr h_1.1 hnr)).2.2 p1.toNatClampNeg (ze_vt h_1.2)).1 rfl rfl rfl hK hP hD hS hA hN rfl hl.1 rfl (Nat.le_of_ble_eq_true rfl) rfl dX2_dub_111 ⟨Nat.zero_le _, Nat.zero_le _⟩ (fun H locs hP hD hS => ?_)
              refine zw_cVN (r := (8, p4.toNatClampNeg, p5.toNatClampNeg)) (As := [.int ((τ (0, 0, 0) 2) + k), .int (sp_n len τ p0.toNatClampNeg p1.toNatClampNeg (p2 + k))]) (rest := []) (st1 := []) ⟨hx, hb, hml, hown, hts⟩ (cd_put (σ := τ) hR p4.toNatClampNeg p5.toNatClampNeg (ze_vr h_2.1 hnr) (ze_vt h_2.2) (hlen _ (ze_vr h_2.1 hnr)) ((τ (0, 0, 0) 2) + k) (sp_n len τ p0.toNatClampNeg p1.toNatClampNeg (p2 + k))) ⟨va_cnB (host := "FourTrackDeck") 2 hts gX2_dub_X1_put_n104 rfl rfl rfl (hN.2.1 ("FourTrackDeck", 104, yX1_put, "FourTrackDeck") (by decide +kernel)) (hts (.initialized RX1) (by decide +kernel)) (by decide +kernel) ⟨Nat.le_of_ble_eq_true rfl, Nat.le_of_ble_eq_true rfl⟩, hts (.instanceMethod yX1_put) (by decide +kernel), hts (.selects RX1 yX1_put yX1_put) (by decide +kernel)⟩ ((hR.2 p4.toNatClampNeg (ze_vr h_2.1 hnr)).2.2 p5.toNatClampNeg (ze_vt h_2.2)).1 rfl rfl rfl hK hP hD hS hA hN rfl hl.1 rfl (Nat.le_of_ble_eq_true rfl) rfl dX2_dub_114 ⟨Nat.zero_le _, Nat.zero_le _⟩ (fun H locs hP hD hS => ?_)
              refine lv_iinc (v := (k + 1)) (lv' := [(9, .int (k + 1)), (10, .int (if (sp_f len τ p0.toNatClampNeg p1.toNatClampNeg (p2 + k)) = 0 then (sp_f len τ p4.toNatClampNeg p5.toNatClampNeg ((τ (0, 0, 0) 2) + k)) else (sp_f len τ p0.toNatClampNeg p1.toNatClampNeg (p2 + k)))), (8, .ref (ad (8, p4.toNatClampNeg, p5.toNatClampNeg))), (7, .ref (ad (8, p0.toNatClampNeg, p1.toNatClampNeg))), (0, .ref (ad (0, 0, 0))), (1, .int p0), (2, .int p1), (3, .int p2), (4, .int p3), (5, .int p4), (6, .int p5)]) hx hb dX2_dub_117 hl (k := 1) rfl rfl (by decide) rfl (fun ls hl => ?_)
              refine lv_goto (tgt := 49) hx hb dX2_dub_120 (by decide) ?_
              exact ih (j + 1) (k + 1) (sp_put len τ p4.toNatClampNeg p5.toNatClampNeg ((τ (0, 0, 0) 2) + k) (sp_n len τ p0.toNatClampNeg p1.toNatClampNeg (p2 + k))) _ _ _ (by rw [hk, nI_1]) (by omega) (hE.trans (by simp only [sp_dl, if_pos c_7] <;> rfl)) hP hD hS (lv_sub hl [0, 2, 3, 4, 5, 6, 7, 8, 9, 10] rfl)
            · refine lv_aload_n hx hb dX2_dub_87 rfl (lv_at hl 4 rfl) ?_
              refine lv_iload hx hb dX2_dub_88 (lv_at hl 0 rfl) ?_
              refine lv_iload hx hb dX2_dub_90 (lv_at hl 1 rfl) ?_
              refine zw_cV (r := (0, 0, 0)) (As := [.int (if (sp_f len τ p0.toNatClampNeg p1.toNatClampNeg (p2 + k)) = 0 then (sp_f len τ p4.toNatClampNeg p5.toNatClampNeg ((τ (0, 0, 0) 2) + k)) else (sp_f len τ p0.toNatClampNeg p1.toNatClampNeg (p2 + k))), .int k]) (rest := []) (st1 := [.int k]) ⟨hx, hb, hml, hown, hts⟩ (cd_end (σ := τ) hR (if (sp_f len τ p0.toNatClampNeg p1.toNatClampNeg (p2 + k)) = 0 then (sp_f len τ p4.toNatClampNeg p5.toNatClampNeg ((τ (0, 0, 0) 2) + k)) else (sp_f len τ p0.toNatClampNeg p1.toNatClampNeg (p2 + k))) k) (cwV 2 hts gX2_dub_X2_end rfl rfl rfl (by decide +kernel) ⟨Nat.le_of_ble_eq_true rfl, Nat.le_of_ble_eq_true rfl⟩) (hR.1 0 (by decide)) rfl rfl rfl hK hP hD hS hA hN rfl hl.1 rfl (Nat.le_of_ble_eq_true rfl) rfl dX2_dub_92 ⟨Nat.zero_le _, Nat.zero_le _⟩ (fun H locs hP hD hS => ?_)
              exact zw_iret hx hb hr hlk hK hP hD hS dX2_dub_95 (by rw [hE]; simp only [sp_dl, if_neg c_7] <;> rfl) (by rw [hE]; simp only [sp_dl, if_neg c_7] <;> rfl)
        exact key p3.toNatClampNeg 0 0 σ _ _ _ nI_0.symm (by omega) (by simp only [sp_dub, if_pos h_1, if_pos h_2, if_pos h_3] <;> rfl) hP hD hS hl
      · refine zw_cS (As := [.int p3, .int 0, .int 64]) (rest := []) (st1 := [.int 0]) ⟨hx, hb, hml, hown, hts⟩ (cd_isWithin_0 p3 0 64 h_3) (va_cwS 3 hts gX2_dub_X2_isWithin rfl rfl rfl (by decide +kernel) ⟨Nat.le_of_ble_eq_true rfl, Nat.le_of_ble_eq_true rfl⟩) hK hP hD hS hA hN rfl hl.1 rfl (Nat.le_of_ble_eq_true rfl) rfl dX2_dub_33 ⟨Nat.zero_le _, Nat.zero_le _⟩ (fun H locs hP hD hS => ?_)
        refine lv_if_ne (tgt := 46) hx hb dX2_dub_36 (by decide) (fun c_8 => absurd (by decide) c_8) (fun c_8 => ?_)
        refine lv_aload_n hx hb dX2_dub_39 rfl (lv_at hl 2 rfl) ?_
        refine lv_iconst (v := 1) hx hb dX2_dub_40 (by decide) ?_
        refine lv_iconst (v := 0) hx hb dX2_dub_41 (by decide) ?_
        refine zw_cV (r := (0, 0, 0)) (As := [.int 1, .int 0]) (rest := []) (st1 := [.int 0]) ⟨hx, hb, hml, hown, hts⟩ (cd_end (σ := σ) hR 1 0) (cwV 2 hts gX2_dub_X2_end rfl rfl rfl (by decide +kernel) ⟨Nat.le_of_ble_eq_true rfl, Nat.le_of_ble_eq_true rfl⟩) (hR.1 0 (by decide)) rfl rfl rfl hK hP hD hS hA hN rfl hl.1 rfl (Nat.le_of_ble_eq_true rfl) rfl dX2_dub_42 ⟨Nat.zero_le _, Nat.zero_le _⟩ (fun H locs hP hD hS => ?_)
        exact zw_iret hx hb hr hlk hK hP hD hS dX2_dub_45 (by simp only [sp_dub, if_pos h_1, if_pos h_2, if_neg h_3] <;> rfl) (by simp only [sp_dub, if_pos h_1, if_pos h_2, if_neg h_3] <;> rfl)
    · refine zw_cV (r := (0, 0, 0)) (As := [.int p4, .int p5]) (rest := []) (st1 := [.null]) ⟨hx, hb, hml, hown, hts⟩ (cd_trackOf_0 (σ := σ) hR hnr p4 p5 h_2) (cwV 2 hts gX2_dub_X2_trackOf rfl rfl rfl (by decide +kernel) ⟨Nat.le_of_ble_eq_true rfl, Nat.le_of_ble_eq_true rfl⟩) (hR.1 0 (by decide)) rfl rfl rfl hK hP hD hS hA hN rfl hl.1 rfl (Nat.le_of_ble_eq_true rfl) rfl dX2_dub_13 ⟨Nat.zero_le _, Nat.zero_le _⟩ (fun H locs hP hD hS => ?_)
      refine lv_astoreN (lv' := [(8, .null), (7, .ref (ad (8, p0.toNatClampNeg, p1.toNatClampNeg))), (0, .ref (ad (0, 0, 0))), (1, .int p0), (2, .int p1), (3, .int p2), (4, .int p3), (5, .int p4), (6, .int p5)]) hx hb dX2_dub_16 hl (by decide) rfl (fun ls hl => ?_)
      refine lv_aload hx hb dX2_dub_18 (lv_at hl 1 rfl) ?_
      refine lv_ifnull hx hb dX2_dub_20 ?_
      refine lv_aloadN hx hb dX2_dub_23 (lv_at hl 0 rfl) ?_
      refine lv_ifnullN (tgt := 39) hx hb dX2_dub_25 (by decide) ?_
      refine lv_aload_n hx hb dX2_dub_39 rfl (lv_at hl 2 rfl) ?_
      refine lv_iconst (v := 1) hx hb dX2_dub_40 (by decide) ?_
      refine lv_iconst (v := 0) hx hb dX2_dub_41 (by decide) ?_
      refine zw_cV (r := (0, 0, 0)) (As := [.int 1, .int 0]) (rest := []) (st1 := [.int 0]) ⟨hx, hb, hml, hown, hts⟩ (cd_end (σ := σ) hR 1 0) (cwV 2 hts gX2_dub_X2_end rfl rfl rfl (by decide +kernel) ⟨Nat.le_of_ble_eq_true rfl, Nat.le_of_ble_eq_true rfl⟩) (hR.1 0 (by decide)) rfl rfl rfl hK hP hD hS hA hN rfl hl.1 rfl (Nat.le_of_ble_eq_true rfl) rfl dX2_dub_42 ⟨Nat.zero_le _, Nat.zero_le _⟩ (fun H locs hP hD hS => ?_)
      exact zw_iret hx hb hr hlk hK hP hD hS dX2_dub_45 (by simp only [sp_dub, if_pos h_1, if_neg h_2] <;> rfl) (by simp only [sp_dub, if_pos h_1, if_neg h_2] <;> rfl)
  · refine zw_cV (r := (0, 0, 0)) (As := [.int p0, .int p1]) (rest := []) (st1 := [.null]) ⟨hx, hb, hml, hown, hts⟩ (cd_trackOf_0 (σ := σ) hR hnr p0 p1 h_1) (cwV 2 hts gX2_dub_X2_trackOf rfl rfl rfl (by decide +kernel) ⟨Nat.le_of_ble_eq_true rfl, Nat.le_of_ble_eq_true rfl⟩) (hR.1 0 (by decide)) rfl rfl rfl hK hP hD hS hA hN rfl hl.1 rfl (Nat.le_of_ble_eq_true rfl) rfl dX2_dub_3 ⟨Nat.zero_le _, Nat.zero_le _⟩ (fun H locs hP hD hS => ?_)
    refine lv_astoreN (lv' := [(7, .null), (0, .ref (ad (0, 0, 0))), (1, .int p0), (2, .int p1), (3, .int p2), (4, .int p3), (5, .int p4), (6, .int p5)]) hx hb dX2_dub_6 hl (by decide) rfl (fun ls hl => ?_)
    refine lv_aload_n hx hb dX2_dub_8 rfl (lv_at hl 1 rfl) ?_
    refine lv_iload hx hb dX2_dub_9 (lv_at hl 6 rfl) ?_
    refine lv_iload hx hb dX2_dub_11 (lv_at hl 7 rfl) ?_
    rcases Decidable.em (sp_v nr p4 p5) with h_9 | h_9
    · refine zw_cV (r := (0, 0, 0)) (As := [.int p4, .int p5]) (rest := []) (st1 := [.ref (ad (8, p4.toNatClampNeg, p5.toNatClampNeg))]) ⟨hx, hb, hml, hown, hts⟩ (cd_trackOf_1 (σ := σ) hR hnr p4 p5 h_9) (cwV 2 hts gX2_dub_X2_trackOf rfl rfl rfl (by decide +kernel) ⟨Nat.le_of_ble_eq_true rfl, Nat.le_of_ble_eq_true rfl⟩) (hR.1 0 (by decide)) rfl rfl rfl hK hP hD hS hA hN rfl hl.1 rfl (Nat.le_of_ble_eq_true rfl) rfl dX2_dub_13 ⟨Nat.zero_le _, Nat.zero_le _⟩ (fun H locs hP hD hS => ?_)
      refine lv_astore (lv' := [(8, .ref (ad (8, p4.toNatClampNeg, p5.toNatClampNeg))), (7, .null), (0, .ref (ad (0, 0, 0))), (1, .int p0), (2, .int p1), (3, .int p2), (4, .int p3), (5, .int p4), (6, .int p5)]) hx hb dX2_dub_16 hl (by decide) rfl (fun ls hl => ?_)
      refine lv_aloadN hx hb dX2_dub_18 (lv_at hl 1 rfl) ?_
      refine lv_ifnullN (tgt := 39) hx hb dX2_dub_20 (by decide) ?_
      refine lv_aload_n hx hb dX2_dub_39 rfl (lv_at hl 2 rfl) ?_
      refine lv_iconst (v := 1) hx hb dX2_dub_40 (by decide) ?_
      refine lv_iconst (v := 0) hx hb dX2_dub_41 (by decide) ?_
      refine zw_cV (r := (0, 0, 0)) (As := [.int 1, .int 0]) (rest := []) (st1 := [.int 0]) ⟨hx, hb, hml, hown, hts⟩ (cd_end (σ := σ) hR 1 0) (cwV 2 hts gX2_dub_X2_end rfl rfl rfl (by decide +kernel) ⟨Nat.le_of_ble_eq_true rfl, Nat.le_of_ble_eq_true rfl⟩) (hR.1 0 (by decide)) rfl rfl rfl hK hP hD hS hA hN rfl hl.1 rfl (Nat.le_of_ble_eq_true rfl) rfl dX2_dub_42 ⟨Nat.zero_le _, Nat.zero_le _⟩ (fun H locs hP hD hS => ?_)
      exact zw_iret hx hb hr hlk hK hP hD hS dX2_dub_45 (by simp only [sp_dub, if_neg h_1, if_pos h_9] <;> rfl) (by simp only [sp_dub, if_neg h_1, if_pos h_9] <;> rfl)
    · refine zw_cV (r := (0, 0, 0)) (As := [.int p4, .int p5]) (rest := []) (st1 := [.null]) ⟨hx, hb, hml, hown, hts⟩ (cd_trackOf_0 (σ := σ) hR hnr p4 p5 h_9) (cwV 2 hts gX2_dub_X2_trackOf rfl rfl rfl (by decide +kernel) ⟨Nat.le_of_ble_eq_true rfl, Nat.le_of_ble_eq_true rfl⟩) (hR.1 0 (by decide)) rfl rfl rfl hK hP hD hS hA hN rfl hl.1 rfl (Nat.le_of_ble_eq_true rfl) rfl dX2_dub_13 ⟨Nat.zero_le _, Nat.zero_le _⟩ (fun H locs hP hD hS => ?_)
      refine lv_astoreN (lv' := [(8, .null), (7, .null), (0, .ref (ad (0, 0, 0))), (1, .int p0), (2, .int p1), (3, .int p2), (4, .int p3), (5, .int p4), (6, .int p5)]) hx hb dX2_dub_16 hl (by decide) rfl (fun ls hl => ?_)
      refine lv_aloadN hx hb dX2_dub_18 (lv_at hl 1 rfl) ?_
      refine lv_ifnullN (tgt := 39) hx hb dX2_dub_20 (by decide) ?_
      refine lv_aload_n hx hb dX2_dub_39 rfl (lv_at hl 2 rfl) ?_
      refine lv_iconst (v := 1) hx hb dX2_dub_40 (by decide) ?_
      refine lv_iconst (v := 0) hx hb dX2_dub_41 (by decide) ?_
      refine zw_cV (r := (0, 0, 0)) (As := [.int 1, .int 0]) (rest := []) (st1 := [.int 0]) ⟨hx, hb, hml, hown, hts⟩ (cd_end (σ := σ) hR 1 0) (cwV 2 hts gX2_dub_X2_end rfl rfl rfl (by decide +kernel) ⟨Nat.le_of_ble_eq_true rfl, Nat.le_of_ble_eq_true rfl⟩) (hR.1 0 (by decide)) rfl rfl rfl hK hP hD hS hA hN rfl hl.1 rfl (Nat.le_of_ble_eq_true rfl) rfl dX2_dub_42 ⟨Nat.zero_le _, Nat.zero_le _⟩ (fun H locs hP hD hS => ?_)
      exact zw_iret hx hb hr hlk hK hP hD hS dX2_dub_45 (by simp only [sp_dub, if_neg h_1, if_neg h_9] <;> rfl) (by simp only [sp_dub, if_neg h_1, if_neg h_9] <;> rfl)
set_option maxHeartbeats 4000000 in
set_option maxRecDepth 100000 in
theorem cd_turn {l : Launch} {dC : Nat → ClassId} {dI : Nat → Nat → Nat} {cA : Nat → ClassId} {ad : zw_R → Nat} {R : List zw_R} {nr : Nat} {len : Nat → Nat} {σ : sp_S} {cM : zw_R → va_E} (hR : ze_R nr R) (hnr : nr ≤ 8) (hlen : ∀ i, i < nr → len i ≤ 64) (p0 p1 : Int32) : zw_M l yX2_turn wsX2_turn { frames := 4, cells := 0, slots := 0, locals := 82 } (ze_E dC dI cA) [.ref (ad (0, 0, 0)), .int p0, .int p1] ad R (ze_X (ze_D cA ad nr len σ) cM) (some (.int ((sp_turn nr len σ p0 p1).1))) (ze_X (ze_D cA ad nr len (sp_turn nr len σ p0 p1).2) cM) := by
  refine zw_body (cc := cX2_turn) (maxL := 9) (ret := (some .int)) (by decide) rfl (Nat.le_of_ble_eq_true rfl) ?_
  intro p e s m below meth c A ls hx hb hr hlk hml hts hown hnm hA hK hP hD hS hN hl
  have hl : lv_has ls 9 [(0, .ref (ad (0, 0, 0))), (1, .int p0), (2, .int p1)] := hl
  have hwX2 : ∀ w ∈ u_ws RX2 TX2 15, w ∈ wsX2_turn := by decide +kernel
  refine lv_iload_n hx hb dX2_turn_0 rfl (lv_at hl 2 rfl) ?_
  refine lv_iconst (v := 0) hx hb dX2_turn_1 (by decide) ?_
  refine lv_bipush (v := 64) hx hb dX2_turn_2 (by decide) ?_
  rcases Decidable.em (sp_w p1 0 64) with h_1 | h_1
  · refine zw_cS (As := [.int p1, .int 0, .int 64]) (rest := []) (st1 := [.int 1]) ⟨hx, hb, hml, hown, hts⟩ (cd_isWithin_1 p1 0 64 h_1) (va_cwS 3 hts gX2_turn_X2_isWithin rfl rfl rfl (by decide +kernel) ⟨Nat.le_of_ble_eq_true rfl, Nat.le_of_ble_eq_true rfl⟩) hK hP hD hS hA hN rfl hl.1 rfl (Nat.le_of_ble_eq_true rfl) rfl dX2_turn_4 ⟨Nat.zero_le _, Nat.zero_le _⟩ (fun H locs hP hD hS => ?_)
    refine lv_if_ne (tgt := 17) hx hb dX2_turn_7 (by decide) (fun c_2 => ?_) (fun c_2 => absurd c_2 (by decide))
    refine lv_aload_n hx hb dX2_turn_17 rfl (lv_at hl 0 rfl) ?_
    refine lv_aload_n hx hb dX2_turn_18 rfl (lv_at hl 0 rfl) ?_
    refine zw_getf (r := (0, 0, 0)) (v := .int (σ (0, 0, 0) 1)) (C := RX2) (T := TX2) (N := 15) (ci := 2) hx hb hts hwX2 hown hK hP (hR.1 0 (by decide)) rfl rfl 2 (by decide) (hts (.fieldLink RX2 19 "FourTrackDeck" "onDeck" "I") (by decide +kernel)) (fun _ h9 => h9) rfl dX2_turn_19 ?_
    refine lv_iload_n hx hb dX2_turn_22 rfl (lv_at hl 1 rfl) ?_
    rcases Decidable.em (sp_v nr (σ (0, 0, 0) 1) p0) with h_3 | h_3
    · refine zw_cV (r := (0, 0, 0)) (As := [.int (σ (0, 0, 0) 1), .int p0]) (rest := []) (st1 := [.ref (ad (8, (σ (0, 0, 0) 1).toNatClampNeg, p0.toNatClampNeg))]) ⟨hx, hb, hml, hown, hts⟩ (cd_trackOf_1 (σ := σ) hR hnr (σ (0, 0, 0) 1) p0 h_3) (cwV 2 hts gX2_turn_X2_trackOf rfl rfl rfl (by decide +kernel) ⟨Nat.le_of_ble_eq_true rfl, Nat.le_of_ble_eq_true rfl⟩) (hR.1 0 (by decide)) rfl rfl rfl hK hP hD hS hA hN rfl hl.1 rfl (Nat.le_of_ble_eq_true rfl) rfl dX2_turn_23 ⟨Nat.zero_le _, Nat.zero_le _⟩ (fun H locs hP hD hS => ?_)
      refine lv_astore_n (lv' := [(3, .ref (ad (8, (σ (0, 0, 0) 1).toNatClampNeg, p0.toNatClampNeg))), (0, .ref (ad (0, 0, 0))), (1, .int p0), (2, .int p1)]) hx hb dX2_turn_26 rfl hl (by decide) rfl (fun ls hl => ?_)
      refine lv_aload_n hx hb dX2_turn_27 rfl (lv_at hl 0 rfl) ?_
      refine lv_ifnonnull (tgt := 42) hx hb dX2_turn_28 (by decide) ?_
      refine lv_iload_n hx hb dX2_turn_42 rfl (lv_at hl 3 rfl) ?_
      refine lv_iconst (v := 2) hx hb dX2_turn_43 (by decide) ?_
      refine lv_idiv hx hb dX2_turn_44 (by decide) ?_
      refine lv_istore (lv' := [(4, .int (p1 / 2)), (3, .ref (ad (8, (σ (0, 0, 0) 1).toNatClampNeg, p0.toNatClampNeg))), (0, .ref (ad (0, 0, 0))), (1, .int p0), (2, .int p1)]) hx hb dX2_turn_45 hl (by decide) rfl (fun ls hl => ?_)
      refine lv_aload_n hx hb dX2_turn_47 rfl (lv_at hl 2 rfl) ?_
      refine lv_iload_n hx hb dX2_turn_48 rfl (lv_at hl 3 rfl) ?_
      refine zw_cV (r := (0, 0, 0)) (As := [.int p0]) (rest := []) (st1 := [.int (σ (0, 0, 0) 2 + σ (2, 0, 0) p0.toNatClampNeg)]) ⟨hx, hb, hml, hown, hts⟩ (cd_place (σ := σ) hR p0 h_3.2) (cwV 1 hts gX2_turn_X2_placeOfHead rfl rfl rfl (by decide +kernel) ⟨Nat.le_of_ble_eq_true rfl, Nat.le_of_ble_eq_true rfl⟩) (hR.1 0 (by decide)) rfl rfl rfl hK hP hD hS hA hN rfl hl.1 rfl (Nat.le_of_ble_eq_true rfl) rfl dX2_turn_49 ⟨Nat.zero_le _, Nat.zero_le _⟩ (fun H locs hP hD hS => ?_)
      refine lv_istore (lv' := [(5, .int (σ (0, 0, 0) 2 + σ (2, 0, 0) p0.toNatClampNeg)), (4, .int (p1 / 2)), (3, .ref (ad (8, (σ (0, 0, 0) 1).toNatClampNeg, p0.toNatClampNeg))), (0, .ref (ad (0, 0, 0))), (1, .int p0), (2, .int p1)]) hx hb dX2_turn_52 hl (by decide) rfl (fun ls hl => ?_)
      refine lv_iload hx hb dX2_turn_54 (lv_at hl 0 rfl) ?_
      refine lv_iload_n hx hb dX2_turn_56 rfl (lv_at hl 5 rfl) ?_
      refine lv_iadd hx hb dX2_turn_57 ?_
      refine lv_iconst (v := 1) hx hb dX2_turn_58 (by decide) ?_
      refine lv_isub hx hb dX2_turn_59 ?_
      refine lv_istore (lv' := [(6, .int (((σ (0, 0, 0) 2 + σ (2, 0, 0) p0.toNatClampNeg) + p1) - 1)), (5, .int (σ (0, 0, 0) 2 + σ (2, 0, 0) p0.toNatClampNeg)), (4, .int (p1 / 2)), (3, .ref (ad (8, (σ (0, 0, 0) 1).toNatClampNeg, p0.toNatClampNeg))), (0, .ref (ad (0, 0, 0))), (1, .int p0), (2, .int p1)]) hx hb dX2_turn_60 hl (by decide) rfl (fun ls hl => ?_)
      refine lv_iconst (v := 0) hx hb dX2_turn_62 (by decide) ?_
      refine lv_istore (lv' := [(7, .int 0), (6, .int (((σ (0, 0, 0) 2 + σ (2, 0, 0) p0.toNatClampNeg) + p1) - 1)), (5, .int (σ (0, 0, 0) 2 + σ (2, 0, 0) p0.toNatClampNeg)), (4, .int (p1 / 2)), (3, .ref (ad (8, (σ (0, 0, 0) 1).toNatClampNeg, p0.toNatClampNeg))), (0, .ref (ad (0, 0, 0))), (1, .int p0), (2, .int p1)]) hx hb dX2_turn_63 hl (by decide) rfl (fun ls hl => ?_)
      have eN : p1 / 2 = nI (p1.toNatClampNeg / 2) := (ze_half h_1.1 h_1.2).1
      have hNb := ze_nb (n := 64) rfl h_1.1 h_1.2
      have key : ∀ (mm j : Nat) (k : Int32) (τ : sp_S) (H : Heap) (locs : List Loc) (ls : Array Slot), k = nI j → j + mm = (p1.toNatClampNeg / 2) → sp_turn nr len σ p0 p1 = sp_ul len (σ (0, 0, 0) 1).toNatClampNeg p0.toNatClampNeg (σ (0, 0, 0) 2 + σ (2, 0, 0) p0.toNatClampNeg) ((σ (0, 0, 0) 2 + σ (2, 0, 0) p0.toNatClampNeg) + p1 - 1) mm k τ → va_P (ze_E dC dI cA).1 (ze_E dC dI cA).2.1 (zw_l ad R (ze_X (ze_D cA ad nr len τ) cM)) H → va_D A (zw_l ad R (ze_X (ze_D cA ad nr len τ) cM)) → va_S A s.heap H locs → lv_has ls 9 [(7, .int k), (6, .int (((σ (0, 0, 0) 2 + σ (2, 0, 0) p0.toNatClampNeg) + p1) - 1)), (5, .int (σ (0, 0, 0) 2 + σ (2, 0, 0) p0.toNatClampNeg)), (4, .int (p1 / 2)), (3, .ref (ad (8, (σ (0, 0, 0) 1).toNatClampNeg, p0.toNatClampNeg))), (0, .ref (ad (0, 0, 0))), (1, .int p0), (2, .int p1)] → W p l e ({ frames := 4, cells := 0, slots := 0, locals := 82 } : Room) s m [Value.ref (ad (0, 0, 0)), Value.int p0, Value.int p1].toArray below meth c H locs 0 0 (MQ below (zw_Q (some (.int (sp_turn nr len σ p0 p1).1)) (zw_B (ze_E dC dI cA) A ad R (ze_X (ze_D cA ad nr len (sp_turn nr len σ p0 p1).2) cM)) A) [Value.ref (ad (0, 0, 0)), Value.int p0, Value.int p1].toArray s 0 0 A) (F0 m 65 ls []) := by
        intro mm
        induction mm with
        | zero =>
          intro j k τ H locs ls hk hj hE hP hD hS hl
          have hge : (p1 / 2) ≤ k := by rw [hk, eN]; exact nI_le (by omega) (by omega)
          refine lv_iload hx hb dX2_turn_65 (lv_at hl 0 rfl) ?_
          refine lv_iload hx hb dX2_turn_67 (lv_at hl 3 rfl) ?_
          refine lv_icmp_ge (tgt := 129) hx hb dX2_turn_69 (by decide) (fun c_4 => ?_) (fun c_4 => absurd hge c_4)
          refine lv_aload_n hx hb dX2_turn_129 rfl (lv_at hl 5 rfl) ?_
          refine lv_iconst (v := 0) hx hb dX2_turn_130 (by decide) ?_
          refine lv_iload hx hb dX2_turn_131 (lv_at hl 3 rfl) ?_
          refine zw_cV (r := (0, 0, 0)) (As := [.int 0, .int (p1 / 2)]) (rest := []) (st1 := [.int (p1 / 2)]) ⟨hx, hb, hml, hown, hts⟩ (cd_end (σ := τ) hR 0 (p1 / 2)) (cwV 2 hts gX2_turn_X2_end rfl rfl rfl (by decide +kernel) ⟨Nat.le_of_ble_eq_true rfl, Nat.le_of_ble_eq_true rfl⟩) (hR.1 0 (by decide)) rfl rfl rfl hK hP hD hS hA hN rfl hl.1 rfl (Nat.le_of_ble_eq_true rfl) rfl dX2_turn_133 ⟨Nat.zero_le _, Nat.zero_le _⟩ (fun H locs hP hD hS => ?_)
          exact zw_iret hx hb hr hlk hK hP hD hS dX2_turn_136 (by rw [hE]; simp only [sp_ul]; rw [hk, show j = (p1.toNatClampNeg / 2) by omega, ← eN]) (by rw [hE]; simp only [sp_ul] <;> rfl)
        | succ mm ih =>
          intro j k τ H locs ls hk hj hE hP hD hS hl
          have hlt : ¬ (p1 / 2) ≤ k := by rw [hk, eN]; exact nI_ge (by omega) (by omega)
          refine lv_iload hx hb dX2_turn_65 (lv_at hl 0 rfl) ?_
          refine lv_iload hx hb dX2_turn_67 (lv_at hl 3 rfl) ?_
          refine lv_icmp_ge (tgt := 129) hx hb dX2_turn_69 (by decide) (fun c_5 => absurd c_5 hlt) (fun c_5 => ?_)
          refine lv_aload_n hx hb dX2_turn_72 rfl (lv_at hl 4 rfl) ?_
          refine lv_iload hx hb dX2_turn_73 (lv_at hl 2 rfl) ?_
          refine lv_iload hx hb dX2_turn_75 (lv_at hl 0 rfl) ?_
          refine lv_iadd hx hb dX2_turn_77 ?_
          refine zw_cVN (r := (8, (σ (0, 0, 0) 1).toNatClampNeg, p0.toNatClampNeg)) (As := [.int ((σ (0, 0, 0) 2 + σ (2, 0, 0) p0.toNatClampNeg) + k)]) (rest := []) (st1 := [.int (sp_f len τ (σ (0, 0, 0) 1).toNatClampNeg p0.toNatClampNeg ((σ (0, 0, 0) 2 + σ (2, 0, 0) p0.toNatClampNeg) + k))]) ⟨hx, hb, hml, hown, hts⟩ (cd_faultAt (σ := τ) hR (σ (0, 0, 0) 1).toNatClampNeg p0.toNatClampNeg (ze_vr h_3.1 hnr) (ze_vt h_3.2) ((σ (0, 0, 0) 2 + σ (2, 0, 0) p0.toNatClampNeg) + k)) ⟨va_cnB (host := "FourTrackDeck") 1 hts gX2_turn_X1_faultAt_n98 rfl rfl rfl (hN.2.1 ("FourTrackDeck", 98, yX1_faultAt, "FourTrackDeck") (by decide +kernel)) (hts (.initialized RX1) (by decide +kernel)) (by decide +kernel) ⟨Nat.le_of_ble_eq_true rfl, Nat.le_of_ble_eq_true rfl⟩, hts (.instanceMethod yX1_faultAt) (by decide +kernel), hts (.selects RX1 yX1_faultAt yX1_faultAt) (by decide +kernel)⟩ ((hR.2 (σ (0, 0, 0) 1).toNatClampNeg (ze_vr h_3.1 hnr)).2.2 p0.toNatClampNeg (ze_vt h_3.2)).1 rfl rfl rfl hK hP hD hS hA hN rfl hl.1 rfl (Nat.le_of_ble_eq_true rfl) rfl dX2_turn_78 ⟨Nat.zero_le _, Nat.zero_le _⟩ (fun H locs hP hD hS => ?_)
          refine lv_aload_n hx hb dX2_turn_81 rfl (lv_at hl 4 rfl) ?_
          refine lv_iload hx hb dX2_turn_82 (lv_at hl 1 rfl) ?_
          refine lv_iload hx hb dX2_turn_84 (lv_at hl 0 rfl) ?_
          refine lv_isub hx hb dX2_turn_86 ?_
          refine zw_cVN (r := (8, (σ (0, 0, 0) 1).toNatClampNeg, p0.toNatClampNeg)) (As := [.int ((((σ (0, 0, 0) 2 + σ (2, 0, 0) p0.toNatClampNeg) + p1) - 1) - k)]) (rest := [.int (sp_f len τ (σ (0, 0, 0) 1).toNatClampNeg p0.toNatClampNeg ((σ (0, 0, 0) 2 + σ (2, 0, 0) p0.toNatClampNeg) + k))]) (st1 := [.int (sp_f len τ (σ (0, 0, 0) 1).toNatClampNeg p0.toNatClampNeg ((((σ (0, 0, 0) 2 + σ (2, 0, 0) p0.toNatClampNeg) + p1) - 1) - k)), .int (sp_f len τ (σ (0, 0, 0) 1).toNatClampNeg p0.toNatClampNeg ((σ (0, 0, 0) 2 + σ (2, 0, 0) p0.toNatClampNeg) + k))]) ⟨hx, hb, hml, hown, hts⟩ (cd_faultAt (σ := τ) hR (σ (0, 0, 0) 1).toNatClampNeg p0.toNatClampNeg (ze_vr h_3.1 hnr) (ze_vt h_3.2) ((((σ (0, 0, 0) 2 + σ (2, 0, 0) p0.toNatClampNeg) + p1) - 1) - k)) ⟨va_cnB (host := "FourTrackDeck") 1 hts gX2_turn_X1_faultAt_n98 rfl rfl rfl (hN.2.1 ("FourTrackDeck", 98, yX1_faultAt, "FourTrackDeck") (by decide +kernel)) (hts (.initialized RX1) (by decide +kernel)) (by decide +kernel) ⟨Nat.le_of_ble_eq_true rfl, Nat.le_of_ble_eq_true rfl⟩, hts (.instanceMethod yX1_faultAt) (by decide +kernel), hts (.selects RX1 yX1_faultAt yX1_faultAt) (by decide +kernel)⟩ ((hR.2 (σ (0, 0, 0) 1).toNatClampNeg (ze_vr h_3.1 hnr)).2.2 p0.toNatClampNeg (ze_vt h_3.2)).1 rfl rfl rfl hK hP hD hS hA hN rfl hl.1 rfl (Nat.le_of_ble_eq_true rfl) rfl dX2_turn_87 ⟨Nat.zero_le _, Nat.zero_le _⟩ (fun H locs hP hD hS => ?_)
          refine zw_cS (As := [.int (sp_f len τ (σ (0, 0, 0) 1).toNatClampNeg p0.toNatClampNeg ((σ (0, 0, 0) 2 + σ (2, 0, 0) p0.toNatClampNeg) + k)), .int (sp_f len τ (σ (0, 0, 0) 1).toNatClampNeg p0.toNatClampNeg ((((σ (0, 0, 0) 2 + σ (2, 0, 0) p0.toNatClampNeg) + p1) - 1) - k))]) (rest := []) (st1 := [.int (if (sp_f len τ (σ (0, 0, 0) 1).toNatClampNeg p0.toNatClampNeg ((σ (0, 0, 0) 2 + σ (2, 0, 0) p0.toNatClampNeg) + k)) = 0 then (sp_f len τ (σ (0, 0, 0) 1).toNatClampNeg p0.toNatClampNeg ((((σ (0, 0, 0) 2 + σ (2, 0, 0) p0.toNatClampNeg) + p1) - 1) - k)) else (sp_f len τ (σ (0, 0, 0) 1).toNatClampNeg p0.toNatClampNeg ((σ (0, 0, 0) 2 + σ (2, 0, 0) p0.toNatClampNeg) + k)))]) ⟨hx, hb, hml, hown, hts⟩ (cd_firstFault (sp_f len τ (σ (0, 0, 0) 1).toNatClampNeg p0.toNatClampNeg ((σ (0, 0, 0) 2 + σ (2, 0, 0) p0.toNatClampNeg) + k)) (sp_f len τ (σ (0, 0, 0) 1).toNatClampNeg p0.toNatClampNeg ((((σ (0, 0, 0) 2 + σ (2, 0, 0) p0.toNatClampNeg) + p1) - 1) - k))) (va_cwS 2 hts gX2_turn_X2_firstFault rfl rfl rfl (by decide +kernel) ⟨Nat.le_of_ble_eq_true rfl, Nat.le_of_ble_eq_true rfl⟩) hK hP hD hS hA hN rfl hl.1 rfl (Nat.le_of_ble_eq_true rfl) rfl dX2_turn_90 ⟨Nat.zero_le _, Nat.zero_le _⟩ (fun H locs hP hD hS => ?_)
          refine lv_istore (lv' := [(8, .int (if (sp_f len τ (σ (0, 0, 0) 1).toNatClampNeg p0.toNatClampNeg ((σ (0, 0, 0) 2 + σ (2, 0, 0) p0.toNatClampNeg) + k)) = 0 then (sp_f len τ (σ (0, 0, 0) 1).toNatClampNeg p0.toNatClampNeg ((((σ (0, 0, 0) 2 + σ (2, 0, 0) p0.toNatClampNeg) + p1) - 1) - k)) else (sp_f len τ (σ (0, 0, 0) 1).toNatClampNeg p0.toNatClampNeg ((σ (0, 0, 0) 2 + σ (2, 0, 0) p0.toNatClampNeg) + k)))), (7, .int k), (6, .int (((σ (0, 0, 0) 2 + σ (2, 0, 0) p0.toNatClampNeg) + p1) - 1)), (5, .int (σ (0, 0, 0) 2 + σ (2, 0, 0) p0.toNatClampNeg)), (4, .int (p1 / 2)), (3, .ref (ad (8, (σ (0, 0, 0) 1).toNatClampNeg, p0.toNatClampNeg))), (0, .ref (ad (0, 0, 0))), (1, .int p0), (2, .int p1)]) hx hb dX2_turn_93 hl (by decide) rfl (fun ls hl => ?_)
          refine lv_iload hx hb dX2_turn_95 (lv_at hl 0 rfl) ?_
          refine lv_if_eq (tgt := 109) hx hb dX2_turn_97 (by decide) (fun c_6 => ?_) (fun c_6 => ?_)
          · refine lv_aload_n hx hb dX2_turn_109 rfl (lv_at hl 5 rfl) ?_
            refine lv_iload hx hb dX2_turn_110 (lv_at hl 3 rfl) ?_
            refine lv_iload hx hb dX2_turn_112 (lv_at hl 1 rfl) ?_
            refine lv_iadd hx hb dX2_turn_114 ?_
            refine lv_iload hx hb dX2_turn_115 (lv_at hl 2 rfl) ?_
            refine lv_iload hx hb dX2_turn_117 (lv_at hl 1 rfl) ?_
            refine lv_isub hx hb dX2_turn_119 ?_
            refine zw_cVN (r := (8, (σ (0, 0, 0) 1).toNatClampNeg, p0.toNatClampNeg)) (As := [.int ((σ (0, 0, 0) 2 + σ (2, 0, 0) p0.toNatClampNeg) + k), .int ((((σ (0, 0, 0) 2 + σ (2, 0, 0) p0.toNatClampNeg) + p1) - 1) - k)]) (rest := []) (st1 := []) ⟨hx, hb, hml, hown, hts⟩ (cd_exchange (σ := τ) hR (σ (0, 0, 0) 1).toNatClampNeg p0.toNatClampNeg (ze_vr h_3.1 hnr) (ze_vt h_3.2) (hlen _ (ze_vr h_3.1 hnr)) ((σ (0, 0, 0) 2 + σ (2, 0, 0) p0.toNatClampNeg) + k) ((((σ (0, 0, 0) 2 + σ (2, 0, 0) p0.toNatClampNeg) + p1) - 1) - k)) ⟨va_cnB (host := "FourTrackDeck") 2 hts gX2_turn_X1_exchange_n113 rfl rfl rfl (hN.2.1 ("FourTrackDeck", 113, yX1_exchange, "FourTrackDeck") (by decide +kernel)) (hts (.initialized RX1) (by decide +kernel)) (by decide +kernel) ⟨Nat.le_of_ble_eq_true rfl, Nat.le_of_ble_eq_true rfl⟩, hts (.instanceMethod yX1_exchange) (by decide +kernel), hts (.selects RX1 yX1_exchange yX1_exchange) (by decide +kernel)⟩ ((hR.2 (σ (0, 0, 0) 1).toNatClampNeg (ze_vr h_3.1 hnr)).2.2 p0.toNatClampNeg (ze_vt h_3.2)).1 rfl rfl rfl hK hP hD hS hA hN rfl hl.1 rfl (Nat.le_of_ble_eq_true rfl) rfl dX2_turn_120 ⟨Nat.zero_le _, Nat.zero_le _⟩ (fun H locs hP hD hS => ?_)
            refine lv_iinc (v := (k + 1)) (lv' := [(7, .int (k + 1)), (8, .int (if (sp_f len τ (σ (0, 0, 0) 1).toNatClampNeg p0.toNatClampNeg ((σ (0, 0, 0) 2 + σ (2, 0, 0) p0.toNatClampNeg) + k)) = 0 then (sp_f len τ (σ (0, 0, 0) 1).toNatClampNeg p0.toNatClampNeg ((((σ (0, 0, 0) 2 + σ (2, 0, 0) p0.toNatClampNeg) + p1) - 1) - k)) else (sp_f len τ (σ (0, 0, 0) 1).toNatClampNeg p0.toNatClampNeg ((σ (0, 0, 0) 2 + σ (2, 0, 0) p0.toNatClampNeg) + k)))), (6, .int (((σ (0, 0, 0) 2 + σ (2, 0, 0) p0.toNatClampNeg) + p1) - 1)), (5, .int (σ (0, 0, 0) 2 + σ (2, 0, 0) p0.toNatClampNeg)), (4, .int (p1 / 2)), (3, .ref (ad (8, (σ (0, 0, 0) 1).toNatClampNeg, p0.toNatClampNeg))), (0, .ref (ad (0, 0, 0))), (1, .int p0), (2, .int p1)]) hx hb dX2_turn_123 hl (k := 1) rfl rfl (by decide) rfl (fun ls hl => ?_)
            refine lv_goto (tgt := 65) hx hb dX2_turn_126 (by decide) ?_
            exact ih (j + 1) (k + 1) (sp_put len (sp_put len τ (σ (0, 0, 0) 1).toNatClampNeg p0.toNatClampNeg ((σ (0, 0, 0) 2 + σ (2, 0, 0) p0.toNatClampNeg) + k) (sp_n len τ (σ (0, 0, 0) 1).toNatClampNeg p0.toNatClampNeg ((((σ (0, 0, 0) 2 + σ (2, 0, 0) p0.toNatClampNeg) + p1) - 1) - k))) (σ (0, 0, 0) 1).toNatClampNeg p0.toNatClampNeg ((((σ (0, 0, 0) 2 + σ (2, 0, 0) p0.toNatClampNeg) + p1) - 1) - k) (sp_n len τ (σ (0, 0, 0) 1).toNatClampNeg p0.toNatClampNeg ((σ (0, 0, 0) 2 + σ (2, 0, 0) p0.toNatClampNeg) + k))) _ _ _ (by rw [hk, nI_1]) (by omega) (hE.trans (by simp only [sp_ul, if_pos c_6] <;> rfl)) hP hD hS (lv_sub hl [0, 2, 3, 4, 5, 6, 7, 8] rfl)
          · refine lv_aload_n hx hb dX2_turn_100 rfl (lv_at hl 6 rfl) ?_
            refine lv_iload hx hb dX2_turn_101 (lv_at hl 0 rfl) ?_
            refine lv_iload hx hb dX2_turn_103 (lv_at hl 1 rfl) ?_
            refine zw_cV (r := (0, 0, 0)) (As := [.int (if (sp_f len τ (σ (0, 0, 0) 1).toNatClampNeg p0.toNatClampNeg ((σ (0, 0, 0) 2 + σ (2, 0, 0) p0.toNatClampNeg) + k)) = 0 then (sp_f len τ (σ (0, 0, 0) 1).toNatClampNeg p0.toNatClampNeg ((((σ (0, 0, 0) 2 + σ (2, 0, 0) p0.toNatClampNeg) + p1) - 1) - k)) else (sp_f len τ (σ (0, 0, 0) 1).toNatClampNeg p0.toNatClampNeg ((σ (0, 0, 0) 2 + σ (2, 0, 0) p0.toNatClampNeg) + k))), .int k]) (rest := []) (st1 := [.int k]) ⟨hx, hb, hml, hown, hts⟩ (cd_end (σ := τ) hR (if (sp_f len τ (σ (0, 0, 0) 1).toNatClampNeg p0.toNatClampNeg ((σ (0, 0, 0) 2 + σ (2, 0, 0) p0.toNatClampNeg) + k)) = 0 then (sp_f len τ (σ (0, 0, 0) 1).toNatClampNeg p0.toNatClampNeg ((((σ (0, 0, 0) 2 + σ (2, 0, 0) p0.toNatClampNeg) + p1) - 1) - k)) else (sp_f len τ (σ (0, 0, 0) 1).toNatClampNeg p0.toNatClampNeg ((σ (0, 0, 0) 2 + σ (2, 0, 0) p0.toNatClampNeg) + k))) k) (cwV 2 hts gX2_turn_X2_end rfl rfl rfl (by decide +kernel) ⟨Nat.le_of_ble_eq_true rfl, Nat.le_of_ble_eq_true rfl⟩) (hR.1 0 (by decide)) rfl rfl rfl hK hP hD hS hA hN rfl hl.1 rfl (Nat.le_of_ble_eq_true rfl) rfl dX2_turn_105 ⟨Nat.zero_le _, Nat.zero_le _⟩ (fun H locs hP hD hS => ?_)
            exact zw_iret hx hb hr hlk hK hP hD hS dX2_turn_108 (by rw [hE]; simp only [sp_ul, if_neg c_6] <;> rfl) (by rw [hE]; simp only [sp_ul, if_neg c_6] <;> rfl)
      exact key (p1.toNatClampNeg / 2) 0 0 σ _ _ _ nI_0.symm (by omega) (by simp only [sp_turn, if_pos h_1, if_pos h_3] <;> rfl) hP hD hS hl
    · refine zw_cV (r := (0, 0, 0)) (As := [.int (σ (0, 0, 0) 1), .int p0]) (rest := []) (st1 := [.null]) ⟨hx, hb, hml, hown, hts⟩ (cd_trackOf_0 (σ := σ) hR hnr (σ (0, 0, 0) 1) p0 h_3) (cwV 2 hts gX2_turn_X2_trackOf rfl rfl rfl (by decide +kernel) ⟨Nat.le_of_ble_eq_true rfl, Nat.le_of_ble_eq_true rfl⟩) (hR.1 0 (by decide)) rfl rfl rfl hK hP hD hS hA hN rfl hl.1 rfl (Nat.le_of_ble_eq_true rfl) rfl dX2_turn_23 ⟨Nat.zero_le _, Nat.zero_le _⟩ (fun H locs hP hD hS => ?_)
      refine lv_astore_nN (lv' := [(3, .null), (0, .ref (ad (0, 0, 0))), (1, .int p0), (2, .int p1)]) hx hb dX2_turn_26 rfl hl (by decide) rfl (fun ls hl => ?_)
      refine lv_aload_nN hx hb dX2_turn_27 rfl (lv_at hl 0 rfl) ?_
      refine lv_ifnonnullN hx hb dX2_turn_28 ?_
      refine lv_aload_n hx hb dX2_turn_31 rfl (lv_at hl 1 rfl) ?_
      refine lv_aload_n hx hb dX2_turn_32 rfl (lv_at hl 1 rfl) ?_
      refine lv_iload_n hx hb dX2_turn_33 rfl (lv_at hl 2 rfl) ?_
      refine zw_cV (r := (0, 0, 0)) (As := [.int p0]) (rest := [.ref (ad (0, 0, 0))]) (st1 := [.int (if sp_t p0 then 5 else 1), .ref (ad (0, 0, 0))]) ⟨hx, hb, hml, hown, hts⟩ (cd_why (σ := σ) hR p0) (cwV 1 hts gX2_turn_X2_whyNoneUnderHead rfl rfl rfl (by decide +kernel) ⟨Nat.le_of_ble_eq_true rfl, Nat.le_of_ble_eq_true rfl⟩) (hR.1 0 (by decide)) rfl rfl rfl hK hP hD hS hA hN rfl hl.1 rfl (Nat.le_of_ble_eq_true rfl) rfl dX2_turn_34 ⟨Nat.zero_le _, Nat.zero_le _⟩ (fun H locs hP hD hS => ?_)
      refine lv_iconst (v := 0) hx hb dX2_turn_37 (by decide) ?_
      refine zw_cV (r := (0, 0, 0)) (As := [.int (if sp_t p0 then 5 else 1), .int 0]) (rest := []) (st1 := [.int 0]) ⟨hx, hb, hml, hown, hts⟩ (cd_end (σ := σ) hR (if sp_t p0 then 5 else 1) 0) (cwV 2 hts gX2_turn_X2_end rfl rfl rfl (by decide +kernel) ⟨Nat.le_of_ble_eq_true rfl, Nat.le_of_ble_eq_true rfl⟩) (hR.1 0 (by decide)) rfl rfl rfl hK hP hD hS hA hN rfl hl.1 rfl (Nat.le_of_ble_eq_true rfl) rfl dX2_turn_38 ⟨Nat.zero_le _, Nat.zero_le _⟩ (fun H locs hP hD hS => ?_)
      exact zw_iret hx hb hr hlk hK hP hD hS dX2_turn_41 (by simp only [sp_turn, if_pos h_1, if_neg h_3] <;> rfl) (by simp only [sp_turn, if_pos h_1, if_neg h_3] <;> rfl)
  · refine zw_cS (As := [.int p1, .int 0, .int 64]) (rest := []) (st1 := [.int 0]) ⟨hx, hb, hml, hown, hts⟩ (cd_isWithin_0 p1 0 64 h_1) (va_cwS 3 hts gX2_turn_X2_isWithin rfl rfl rfl (by decide +kernel) ⟨Nat.le_of_ble_eq_true rfl, Nat.le_of_ble_eq_true rfl⟩) hK hP hD hS hA hN rfl hl.1 rfl (Nat.le_of_ble_eq_true rfl) rfl dX2_turn_4 ⟨Nat.zero_le _, Nat.zero_le _⟩ (fun H locs hP hD hS => ?_)
    refine lv_if_ne (tgt := 17) hx hb dX2_turn_7 (by decide) (fun c_7 => absurd (by decide) c_7) (fun c_7 => ?_)
    refine lv_aload_n hx hb dX2_turn_10 rfl (lv_at hl 0 rfl) ?_
    refine lv_iconst (v := 1) hx hb dX2_turn_11 (by decide) ?_
    refine lv_iconst (v := 0) hx hb dX2_turn_12 (by decide) ?_
    refine zw_cV (r := (0, 0, 0)) (As := [.int 1, .int 0]) (rest := []) (st1 := [.int 0]) ⟨hx, hb, hml, hown, hts⟩ (cd_end (σ := σ) hR 1 0) (cwV 2 hts gX2_turn_X2_end rfl rfl rfl (by decide +kernel) ⟨Nat.le_of_ble_eq_true rfl, Nat.le_of_ble_eq_true rfl⟩) (hR.1 0 (by decide)) rfl rfl rfl hK hP hD hS hA hN rfl hl.1 rfl (Nat.le_of_ble_eq_true rfl) rfl dX2_turn_13 ⟨Nat.zero_le _, Nat.zero_le _⟩ (fun H locs hP hD hS => ?_)
    exact zw_iret hx hb hr hlk hK hP hD hS dX2_turn_16 (by simp only [sp_turn, if_neg h_1] <;> rfl) (by simp only [sp_turn, if_neg h_1] <;> rfl)
set_option maxHeartbeats 4000000 in
set_option maxRecDepth 100000 in
theorem cd_scan {l : Launch} {dC : Nat → ClassId} {dI : Nat → Nat → Nat} {cA : Nat → ClassId} {ad : zw_R → Nat} {R : List zw_R} {nr : Nat} {len : Nat → Nat} {σ : sp_S} {cM : zw_R → va_E} (hR : ze_R nr R) (hnr : nr ≤ 8) (hlen : ∀ i, i < nr → len i ≤ 64) (p0 p1 : Int32) : zw_M l yX2_scan wsX2_scan { frames := 3, cells := 0, slots := 0, locals := 65 } (ze_E dC dI cA) [.ref (ad (0, 0, 0)), .int p0, .int p1] ad R (ze_X (ze_D cA ad nr len σ) cM) (some (.int ((sp_scan nr len σ p0 p1).1))) (ze_X (ze_D cA ad nr len (sp_scan nr len σ p0 p1).2) cM) := by
  refine zw_body (cc := cX2_scan) (maxL := 7) (ret := (some .int)) (by decide) rfl (Nat.le_of_ble_eq_true rfl) ?_
  intro p e s m below meth c A ls hx hb hr hlk hml hts hown hnm hA hK hP hD hS hN hl
  have hl : lv_has ls 7 [(0, .ref (ad (0, 0, 0))), (1, .int p0), (2, .int p1)] := hl
  have hwX2 : ∀ w ∈ u_ws RX2 TX2 15, w ∈ wsX2_scan := by decide +kernel
  refine lv_aload_n hx hb dX2_scan_0 rfl (lv_at hl 0 rfl) ?_
  refine lv_aload_n hx hb dX2_scan_1 rfl (lv_at hl 0 rfl) ?_
  refine zw_getf (r := (0, 0, 0)) (v := .int (σ (0, 0, 0) 1)) (C := RX2) (T := TX2) (N := 15) (ci := 2) hx hb hts hwX2 hown hK hP (hR.1 0 (by decide)) rfl rfl 2 (by decide) (hts (.fieldLink RX2 19 "FourTrackDeck" "onDeck" "I") (by decide +kernel)) (fun _ h9 => h9) rfl dX2_scan_2 ?_
  refine lv_iload_n hx hb dX2_scan_5 rfl (lv_at hl 1 rfl) ?_
  rcases Decidable.em (sp_v nr (σ (0, 0, 0) 1) p0) with h_1 | h_1
  · refine zw_cV (r := (0, 0, 0)) (As := [.int (σ (0, 0, 0) 1), .int p0]) (rest := []) (st1 := [.ref (ad (8, (σ (0, 0, 0) 1).toNatClampNeg, p0.toNatClampNeg))]) ⟨hx, hb, hml, hown, hts⟩ (cd_trackOf_1 (σ := σ) hR hnr (σ (0, 0, 0) 1) p0 h_1) (cwV 2 hts gX2_scan_X2_trackOf rfl rfl rfl (by decide +kernel) ⟨Nat.le_of_ble_eq_true rfl, Nat.le_of_ble_eq_true rfl⟩) (hR.1 0 (by decide)) rfl rfl rfl hK hP hD hS hA hN rfl hl.1 rfl (Nat.le_of_ble_eq_true rfl) rfl dX2_scan_6 ⟨Nat.zero_le _, Nat.zero_le _⟩ (fun H locs hP hD hS => ?_)
    refine lv_astore_n (lv' := [(3, .ref (ad (8, (σ (0, 0, 0) 1).toNatClampNeg, p0.toNatClampNeg))), (0, .ref (ad (0, 0, 0))), (1, .int p0), (2, .int p1)]) hx hb dX2_scan_9 rfl hl (by decide) rfl (fun ls hl => ?_)
    refine lv_aload_n hx hb dX2_scan_10 rfl (lv_at hl 0 rfl) ?_
    refine lv_ifnonnull (tgt := 25) hx hb dX2_scan_11 (by decide) ?_
    refine lv_aload_n hx hb dX2_scan_25 rfl (lv_at hl 1 rfl) ?_
    refine lv_iload_n hx hb dX2_scan_26 rfl (lv_at hl 2 rfl) ?_
    refine zw_cV (r := (0, 0, 0)) (As := [.int p0]) (rest := []) (st1 := [.int (σ (0, 0, 0) 2 + σ (2, 0, 0) p0.toNatClampNeg)]) ⟨hx, hb, hml, hown, hts⟩ (cd_place (σ := σ) hR p0 h_1.2) (cwV 1 hts gX2_scan_X2_placeOfHead rfl rfl rfl (by decide +kernel) ⟨Nat.le_of_ble_eq_true rfl, Nat.le_of_ble_eq_true rfl⟩) (hR.1 0 (by decide)) rfl rfl rfl hK hP hD hS hA hN rfl hl.1 rfl (Nat.le_of_ble_eq_true rfl) rfl dX2_scan_27 ⟨Nat.zero_le _, Nat.zero_le _⟩ (fun H locs hP hD hS => ?_)
    refine lv_istore (lv' := [(4, .int (σ (0, 0, 0) 2 + σ (2, 0, 0) p0.toNatClampNeg)), (3, .ref (ad (8, (σ (0, 0, 0) 1).toNatClampNeg, p0.toNatClampNeg))), (0, .ref (ad (0, 0, 0))), (1, .int p0), (2, .int p1)]) hx hb dX2_scan_30 hl (by decide) rfl (fun ls hl => ?_)
    refine lv_iconst (v := 0) hx hb dX2_scan_32 (by decide) ?_
    refine lv_istore (lv' := [(5, .int 0), (4, .int (σ (0, 0, 0) 2 + σ (2, 0, 0) p0.toNatClampNeg)), (3, .ref (ad (8, (σ (0, 0, 0) 1).toNatClampNeg, p0.toNatClampNeg))), (0, .ref (ad (0, 0, 0))), (1, .int p0), (2, .int p1)]) hx hb dX2_scan_33 hl (by decide) rfl (fun ls hl => ?_)
    have eN : (64 : Int32) = nI 64 := rfl
    have key : ∀ (mm j : Nat) (k : Int32) (τ : sp_S) (H : Heap) (locs : List Loc) (ls : Array Slot), k = nI j → j + mm = 64 → sp_scan nr len σ p0 p1 = sp_sl len (σ (0, 0, 0) 1).toNatClampNeg p0.toNatClampNeg (σ (0, 0, 0) 2 + σ (2, 0, 0) p0.toNatClampNeg) p1 mm k τ → va_P (ze_E dC dI cA).1 (ze_E dC dI cA).2.1 (zw_l ad R (ze_X (ze_D cA ad nr len τ) cM)) H → va_D A (zw_l ad R (ze_X (ze_D cA ad nr len τ) cM)) → va_S A s.heap H locs → lv_has ls 7 [(5, .int k), (4, .int (σ (0, 0, 0) 2 + σ (2, 0, 0) p0.toNatClampNeg)), (3, .ref (ad (8, (σ (0, 0, 0) 1).toNatClampNeg, p0.toNatClampNeg))), (0, .ref (ad (0, 0, 0))), (1, .int p0), (2, .int p1)] → W p l e ({ frames := 3, cells := 0, slots := 0, locals := 65 } : Room) s m [Value.ref (ad (0, 0, 0)), Value.int p0, Value.int p1].toArray below meth c H locs 0 0 (MQ below (zw_Q (some (.int (sp_scan nr len σ p0 p1).1)) (zw_B (ze_E dC dI cA) A ad R (ze_X (ze_D cA ad nr len (sp_scan nr len σ p0 p1).2) cM)) A) [Value.ref (ad (0, 0, 0)), Value.int p0, Value.int p1].toArray s 0 0 A) (F0 m 35 ls []) := by
      intro mm
      induction mm with
      | zero =>
        intro j k τ H locs ls hk hj hE hP hD hS hl
        have hge : 64 ≤ k := by rw [hk, eN]; exact nI_le (by omega) (by omega)
        refine lv_iload hx hb dX2_scan_35 (lv_at hl 0 rfl) ?_
        refine lv_bipush (v := 64) hx hb dX2_scan_37 (by decide) ?_
        refine lv_icmp_ge (tgt := 93) hx hb dX2_scan_39 (by decide) (fun c_2 => ?_) (fun c_2 => absurd hge c_2)
        refine lv_aload_n hx hb dX2_scan_93 rfl (lv_at hl 3 rfl) ?_
        refine lv_iconst (v := 3) hx hb dX2_scan_94 (by decide) ?_
        refine lv_iconst (v := (-1)) hx hb dX2_scan_95 (by decide) ?_
        refine zw_cV (r := (0, 0, 0)) (As := [.int 3, .int (-1)]) (rest := []) (st1 := [.int (-1)]) ⟨hx, hb, hml, hown, hts⟩ (cd_end (σ := τ) hR 3 (-1)) (cwV 2 hts gX2_scan_X2_end rfl rfl rfl (by decide +kernel) ⟨Nat.le_of_ble_eq_true rfl, Nat.le_of_ble_eq_true rfl⟩) (hR.1 0 (by decide)) rfl rfl rfl hK hP hD hS hA hN rfl hl.1 rfl (Nat.le_of_ble_eq_true rfl) rfl dX2_scan_96 ⟨Nat.zero_le _, Nat.zero_le _⟩ (fun H locs hP hD hS => ?_)
        exact zw_iret hx hb hr hlk hK hP hD hS dX2_scan_99 (by rw [hE]; simp only [sp_sl] <;> rfl) (by rw [hE]; simp only [sp_sl] <;> rfl)
      | succ mm ih =>
        intro j k τ H locs ls hk hj hE hP hD hS hl
        have hlt : ¬ 64 ≤ k := by rw [hk, eN]; exact nI_ge (by omega) (by omega)
        refine lv_iload hx hb dX2_scan_35 (lv_at hl 0 rfl) ?_
        refine lv_bipush (v := 64) hx hb dX2_scan_37 (by decide) ?_
        refine lv_icmp_ge (tgt := 93) hx hb dX2_scan_39 (by decide) (fun c_3 => absurd c_3 hlt) (fun c_3 => ?_)
        refine lv_aload_n hx hb dX2_scan_42 rfl (lv_at hl 2 rfl) ?_
        refine lv_iload hx hb dX2_scan_43 (lv_at hl 1 rfl) ?_
        refine lv_iload hx hb dX2_scan_45 (lv_at hl 0 rfl) ?_
        refine lv_iadd hx hb dX2_scan_47 ?_
        refine zw_cVN (r := (8, (σ (0, 0, 0) 1).toNatClampNeg, p0.toNatClampNeg)) (As := [.int ((σ (0, 0, 0) 2 + σ (2, 0, 0) p0.toNatClampNeg) + k)]) (rest := []) (st1 := [.int (sp_f len τ (σ (0, 0, 0) 1).toNatClampNeg p0.toNatClampNeg ((σ (0, 0, 0) 2 + σ (2, 0, 0) p0.toNatClampNeg) + k))]) ⟨hx, hb, hml, hown, hts⟩ (cd_faultAt (σ := τ) hR (σ (0, 0, 0) 1).toNatClampNeg p0.toNatClampNeg (ze_vr h_1.1 hnr) (ze_vt h_1.2) ((σ (0, 0, 0) 2 + σ (2, 0, 0) p0.toNatClampNeg) + k)) ⟨va_cnB (host := "FourTrackDeck") 1 hts gX2_scan_X1_faultAt_n98 rfl rfl rfl (hN.2.1 ("FourTrackDeck", 98, yX1_faultAt, "FourTrackDeck") (by decide +kernel)) (hts (.initialized RX1) (by decide +kernel)) (by decide +kernel) ⟨Nat.le_of_ble_eq_true rfl, Nat.le_of_ble_eq_true rfl⟩, hts (.instanceMethod yX1_faultAt) (by decide +kernel), hts (.selects RX1 yX1_faultAt yX1_faultAt) (by decide +kernel)⟩ ((hR.2 (σ (0, 0, 0) 1).toNatClampNeg (ze_vr h_1.1 hnr)).2.2 p0.toNatClampNeg (ze_vt h_1.2)).1 rfl rfl rfl hK hP hD hS hA hN rfl hl.1 rfl (Nat.le_of_ble_eq_true rfl) rfl dX2_scan_48 ⟨Nat.zero_le _, Nat.zero_le _⟩ (fun H locs hP hD hS => ?_)
        refine lv_istore (lv' := [(6, .int (sp_f len τ (σ (0, 0, 0) 1).toNatClampNeg p0.toNatClampNeg ((σ (0, 0, 0) 2 + σ (2, 0, 0) p0.toNatClampNeg) + k))), (5, .int k), (4, .int (σ (0, 0, 0) 2 + σ (2, 0, 0) p0.toNatClampNeg)), (3, .ref (ad (8, (σ (0, 0, 0) 1).toNatClampNeg, p0.toNatClampNeg))), (0, .ref (ad (0, 0, 0))), (1, .int p0), (2, .int p1)]) hx hb dX2_scan_51 hl (by decide) rfl (fun ls hl => ?_)
        refine lv_iload hx hb dX2_scan_53 (lv_at hl 0 rfl) ?_
        refine lv_if_eq (tgt := 66) hx hb dX2_scan_55 (by decide) (fun c_4 => ?_) (fun c_4 => ?_)
        · refine lv_aload_n hx hb dX2_scan_66 rfl (lv_at hl 3 rfl) ?_
          refine lv_iload hx hb dX2_scan_67 (lv_at hl 2 rfl) ?_
          refine lv_iload hx hb dX2_scan_69 (lv_at hl 1 rfl) ?_
          refine lv_iadd hx hb dX2_scan_71 ?_
          refine zw_cVN (r := (8, (σ (0, 0, 0) 1).toNatClampNeg, p0.toNatClampNeg)) (As := [.int ((σ (0, 0, 0) 2 + σ (2, 0, 0) p0.toNatClampNeg) + k)]) (rest := []) (st1 := [.int (sp_n len τ (σ (0, 0, 0) 1).toNatClampNeg p0.toNatClampNeg ((σ (0, 0, 0) 2 + σ (2, 0, 0) p0.toNatClampNeg) + k))]) ⟨hx, hb, hml, hown, hts⟩ (cd_numberAt (σ := τ) hR (σ (0, 0, 0) 1).toNatClampNeg p0.toNatClampNeg (ze_vr h_1.1 hnr) (ze_vt h_1.2) (hlen _ (ze_vr h_1.1 hnr)) ((σ (0, 0, 0) 2 + σ (2, 0, 0) p0.toNatClampNeg) + k)) ⟨va_cnB (host := "FourTrackDeck") 1 hts gX2_scan_X1_numberAt_n101 rfl rfl rfl (hN.2.1 ("FourTrackDeck", 101, yX1_numberAt, "FourTrackDeck") (by decide +kernel)) (hts (.initialized RX1) (by decide +kernel)) (by decide +kernel) ⟨Nat.le_of_ble_eq_true rfl, Nat.le_of_ble_eq_true rfl⟩, hts (.instanceMethod yX1_numberAt) (by decide +kernel), hts (.selects RX1 yX1_numberAt yX1_numberAt) (by decide +kernel)⟩ ((hR.2 (σ (0, 0, 0) 1).toNatClampNeg (ze_vr h_1.1 hnr)).2.2 p0.toNatClampNeg (ze_vt h_1.2)).1 rfl rfl rfl hK hP hD hS hA hN rfl hl.1 rfl (Nat.le_of_ble_eq_true rfl) rfl dX2_scan_72 ⟨Nat.zero_le _, Nat.zero_le _⟩ (fun H locs hP hD hS => ?_)
          refine lv_iload_n hx hb dX2_scan_75 rfl (lv_at hl 6 rfl) ?_
          refine lv_icmp_ne (tgt := 87) hx hb dX2_scan_76 (by decide) (fun c_5 => ?_) (fun c_5 => ?_)
          · refine lv_iinc (v := (k + 1)) (lv' := [(5, .int (k + 1)), (6, .int (sp_f len τ (σ (0, 0, 0) 1).toNatClampNeg p0.toNatClampNeg ((σ (0, 0, 0) 2 + σ (2, 0, 0) p0.toNatClampNeg) + k))), (4, .int (σ (0, 0, 0) 2 + σ (2, 0, 0) p0.toNatClampNeg)), (3, .ref (ad (8, (σ (0, 0, 0) 1).toNatClampNeg, p0.toNatClampNeg))), (0, .ref (ad (0, 0, 0))), (1, .int p0), (2, .int p1)]) hx hb dX2_scan_87 hl (k := 1) rfl rfl (by decide) rfl (fun ls hl => ?_)
            refine lv_goto (tgt := 35) hx hb dX2_scan_90 (by decide) ?_
            exact ih (j + 1) (k + 1) τ _ _ _ (by rw [hk, nI_1]) (by omega) (hE.trans (by simp only [sp_sl, if_pos c_4, if_neg c_5] <;> rfl)) hP hD hS (lv_sub hl [0, 2, 3, 4, 5, 6] rfl)
          · refine lv_aload_n hx hb dX2_scan_79 rfl (lv_at hl 4 rfl) ?_
            refine lv_iconst (v := 0) hx hb dX2_scan_80 (by decide) ?_
            refine lv_iload hx hb dX2_scan_81 (lv_at hl 1 rfl) ?_
            refine zw_cV (r := (0, 0, 0)) (As := [.int 0, .int k]) (rest := []) (st1 := [.int k]) ⟨hx, hb, hml, hown, hts⟩ (cd_end (σ := τ) hR 0 k) (cwV 2 hts gX2_scan_X2_end rfl rfl rfl (by decide +kernel) ⟨Nat.le_of_ble_eq_true rfl, Nat.le_of_ble_eq_true rfl⟩) (hR.1 0 (by decide)) rfl rfl rfl hK hP hD hS hA hN rfl hl.1 rfl (Nat.le_of_ble_eq_true rfl) rfl dX2_scan_83 ⟨Nat.zero_le _, Nat.zero_le _⟩ (fun H locs hP hD hS => ?_)
            exact zw_iret hx hb hr hlk hK hP hD hS dX2_scan_86 (by rw [hE]; simp only [sp_sl, if_pos c_4, if_pos c_5] <;> rfl) (by rw [hE]; simp only [sp_sl, if_pos c_4, if_pos c_5] <;> rfl)
        · refine lv_aload_n hx hb dX2_scan_58 rfl (lv_at hl 4 rfl) ?_
          refine lv_iload hx hb dX2_scan_59 (lv_at hl 0 rfl) ?_
          refine lv_iconst (v := (-1)) hx hb dX2_scan_61 (by decide) ?_
          refine zw_cV (r := (0, 0, 0)) (As := [.int (sp_f len τ (σ (0, 0, 0) 1).toNatClampNeg p0.toNatClampNeg ((σ (0, 0, 0) 2 + σ (2, 0, 0) p0.toNatClampNeg) + k)), .int (-1)]) (rest := []) (st1 := [.int (-1)]) ⟨hx, hb, hml, hown, hts⟩ (cd_end (σ := τ) hR (sp_f len τ (σ (0, 0, 0) 1).toNatClampNeg p0.toNatClampNeg ((σ (0, 0, 0) 2 + σ (2, 0, 0) p0.toNatClampNeg) + k)) (-1)) (cwV 2 hts gX2_scan_X2_end rfl rfl rfl (by decide +kernel) ⟨Nat.le_of_ble_eq_true rfl, Nat.le_of_ble_eq_true rfl⟩) (hR.1 0 (by decide)) rfl rfl rfl hK hP hD hS hA hN rfl hl.1 rfl (Nat.le_of_ble_eq_true rfl) rfl dX2_scan_62 ⟨Nat.zero_le _, Nat.zero_le _⟩ (fun H locs hP hD hS => ?_)
          exact zw_iret hx hb hr hlk hK hP hD hS dX2_scan_65 (by rw [hE]; simp only [sp_sl, if_neg c_4] <;> rfl) (by rw [hE]; simp only [sp_sl, if_neg c_4] <;> rfl)
    exact key 64 0 0 σ _ _ _ nI_0.symm (by omega) (by simp only [sp_scan, if_pos h_1] <;> rfl) hP hD hS hl
  · refine zw_cV (r := (0, 0, 0)) (As := [.int (σ (0, 0, 0) 1), .int p0]) (rest := []) (st1 := [.null]) ⟨hx, hb, hml, hown, hts⟩ (cd_trackOf_0 (σ := σ) hR hnr (σ (0, 0, 0) 1) p0 h_1) (cwV 2 hts gX2_scan_X2_trackOf rfl rfl rfl (by decide +kernel) ⟨Nat.le_of_ble_eq_true rfl, Nat.le_of_ble_eq_true rfl⟩) (hR.1 0 (by decide)) rfl rfl rfl hK hP hD hS hA hN rfl hl.1 rfl (Nat.le_of_ble_eq_true rfl) rfl dX2_scan_6 ⟨Nat.zero_le _, Nat.zero_le _⟩ (fun H locs hP hD hS => ?_)
    refine lv_astore_nN (lv' := [(3, .null), (0, .ref (ad (0, 0, 0))), (1, .int p0), (2, .int p1)]) hx hb dX2_scan_9 rfl hl (by decide) rfl (fun ls hl => ?_)
    refine lv_aload_nN hx hb dX2_scan_10 rfl (lv_at hl 0 rfl) ?_
    refine lv_ifnonnullN hx hb dX2_scan_11 ?_
    refine lv_aload_n hx hb dX2_scan_14 rfl (lv_at hl 1 rfl) ?_
    refine lv_aload_n hx hb dX2_scan_15 rfl (lv_at hl 1 rfl) ?_
    refine lv_iload_n hx hb dX2_scan_16 rfl (lv_at hl 2 rfl) ?_
    refine zw_cV (r := (0, 0, 0)) (As := [.int p0]) (rest := [.ref (ad (0, 0, 0))]) (st1 := [.int (if sp_t p0 then 5 else 1), .ref (ad (0, 0, 0))]) ⟨hx, hb, hml, hown, hts⟩ (cd_why (σ := σ) hR p0) (cwV 1 hts gX2_scan_X2_whyNoneUnderHead rfl rfl rfl (by decide +kernel) ⟨Nat.le_of_ble_eq_true rfl, Nat.le_of_ble_eq_true rfl⟩) (hR.1 0 (by decide)) rfl rfl rfl hK hP hD hS hA hN rfl hl.1 rfl (Nat.le_of_ble_eq_true rfl) rfl dX2_scan_17 ⟨Nat.zero_le _, Nat.zero_le _⟩ (fun H locs hP hD hS => ?_)
    refine lv_iconst (v := (-1)) hx hb dX2_scan_20 (by decide) ?_
    refine zw_cV (r := (0, 0, 0)) (As := [.int (if sp_t p0 then 5 else 1), .int (-1)]) (rest := []) (st1 := [.int (-1)]) ⟨hx, hb, hml, hown, hts⟩ (cd_end (σ := σ) hR (if sp_t p0 then 5 else 1) (-1)) (cwV 2 hts gX2_scan_X2_end rfl rfl rfl (by decide +kernel) ⟨Nat.le_of_ble_eq_true rfl, Nat.le_of_ble_eq_true rfl⟩) (hR.1 0 (by decide)) rfl rfl rfl hK hP hD hS hA hN rfl hl.1 rfl (Nat.le_of_ble_eq_true rfl) rfl dX2_scan_21 ⟨Nat.zero_le _, Nat.zero_le _⟩ (fun H locs hP hD hS => ?_)
    exact zw_iret hx hb hr hlk hK hP hD hS dX2_scan_24 (by simp only [sp_scan, if_neg h_1] <;> rfl) (by simp only [sp_scan, if_neg h_1] <;> rfl)
