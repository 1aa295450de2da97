def sp_zl (i t : Nat) : Nat → Int32 → sp_S → sp_S
  | 0, _, σ => σ
  | m + 1, k, σ => sp_zl i t m (k + 1) (sp_s σ (9, i, t) k.toNatClampNeg 0)
def sp_layM (nr : Nat) (len : Nat → Nat) (σ : sp_S) (p0 p1 : Int32) : Int32 × sp_S := if sp_v nr p0 p1 then ((if σ (8, p0.toNatClampNeg, p1.toNatClampNeg) 1 = 0 then 1 else 0), sp_e (sp_zl p0.toNatClampNeg p1.toNatClampNeg 64 0 (sp_s σ (8, p0.toNatClampNeg, p1.toNatClampNeg) 1 1)) 0) else (-1, sp_e σ 1)
def sp_cz : Nat → Int32 → sp_S → sp_S
  | 0, _, σ => σ
  | m + 1, k, σ => sp_cz m (k + 1) (sp_s σ (5, 0, 0) k.toNatClampNeg 0)
def sp_sheetM (nr : Nat) (len : Nat → Nat) (σ : sp_S) (p0 p1 : Int32) : Int32 × sp_S := if 16 < p0 then (-1, sp_e σ 1) else if p1 ≤ 16 then (if p0 < 0 then (-1, sp_e σ 4) else if 0 ≤ p1 then (p0 * p1, sp_e (sp_cz 256 0 (sp_s (sp_s σ (0, 0, 0) 5 p0) (0, 0, 0) 6 p1)) 0) else (-1, sp_e σ 4)) else (-1, sp_e σ 1)
/-- what acts leave as it was -/
theorem sp_put_D {len : Nat → Nat} {σ : sp_S} {i t : Nat} {p v : Int32} {r : zw_R} (hr : r.1 ≠ 9) : sp_put len σ i t p v r = σ r := by
  unfold sp_put
  split
  · exact zw_un _ _ (fun z => hr (by rw [z]))
  · rfl
theorem sp_s_ne {σ : sp_S} {r q : zw_R} {j : Nat} {v : Int32} (h : q ≠ r) : sp_s σ r j v q = σ q := zw_un _ _ h
theorem sp_s_j {σ : sp_S} {r : zw_R} {j k : Nat} {v : Int32} (h : k ≠ j) : sp_s σ r j v r k = σ r k := by simp [sp_s, zw_u, upd, h]
theorem sp_mv_D {nr : Nat} {len : Nat → Nat} {σ : sp_S} {t : Int32} {j : Nat} (hj : j ≠ 3) : (sp_mv nr len σ t).2 (0, 0, 0) j = σ (0, 0, 0) j := by
  unfold sp_mv
  split
  · split
    · rfl
    · split
      · split
        · rfl
        · split
          · exact (sp_s_j hj).trans (congrFun (sp_put_D (r := (0, 0, 0)) (by decide)) _)
          · exact (sp_s_j hj).trans (congrFun (sp_put_D (r := (0, 0, 0)) (by decide)) _)
      · rfl
  · rfl
theorem sp_mv_m {nr : Nat} {len : Nat → Nat} {σ : sp_S} {t : Int32} : (sp_mv nr len σ t).2 (3, 0, 0) = σ (3, 0, 0) := by
  unfold sp_mv
  split
  · split
    · rfl
    · split
      · split
        · rfl
        · split
          · dsimp only
            rw [sp_s_ne (q := (3, 0, 0)) (r := (0, 0, 0)) (by decide)]
            exact sp_put_D (r := (3, 0, 0)) (by decide)
          · dsimp only
            rw [sp_s_ne (q := (3, 0, 0)) (r := (0, 0, 0)) (by decide)]
            exact sp_put_D (r := (3, 0, 0)) (by decide)
      · rfl
  · rfl
def sp_J (nr : Nat) (σ : sp_S) : Prop := sp_r nr (σ (0, 0, 0) 1) ∧ (∀ t, t < 4 → sp_t (σ (3, 0, 0) t)) ∧ σ (0, 0, 0) 8 = 0
theorem sp_J_mv {nr : Nat} {len : Nat → Nat} {σ : sp_S} {t : Int32} (h : sp_J nr σ) : sp_J nr (sp_mv nr len σ t).2 := by
  unfold sp_J
  rw [sp_mv_D (by decide), sp_mv_D (by decide), sp_mv_m]
  exact h
theorem sp_J_p {nr : Nat} {σ : sp_S} {v : Int32} (h : sp_J nr σ) : sp_J nr (sp_s σ (0, 0, 0) 2 v) := h
theorem sp_mv_8 {nr : Nat} {len : Nat → Nat} {σ : sp_S} {t : Int32} : (sp_mv nr len σ t).2 (0, 0, 0) 8 = σ (0, 0, 0) 8 := sp_mv_D (by decide)
theorem sp_28 {σ : sp_S} {v : Int32} : sp_s σ (0, 0, 0) 2 v (0, 0, 0) 8 = σ (0, 0, 0) 8 := rfl
theorem sp_88 {σ : sp_S} {v : Int32} : sp_s σ (0, 0, 0) 8 v (0, 0, 0) 8 = v := rfl
theorem sp_as_as (t : Nat) (v : Int32) : sp_as t (sp_as t v) = sp_as t v := by
  by_cases h2 : t = 2
  · subst h2
    rw [← zm_lev v]
    by_cases h1 : v < -32768
    · rw [if_pos h1]; rfl
    · by_cases h3 : 32768 < v
      · rw [if_neg h1, if_pos h3]; rfl
      · rw [if_neg h1, if_neg h3, ← zm_lev v, if_neg h1, if_neg h3]
  · unfold sp_as
    by_cases h0 : t = 0
    · rw [if_pos h0, if_pos h0, Int32.and_assoc]; rfl
    · rw [if_neg h0, if_neg h0]
      by_cases h1 : t = 1
      · rw [if_pos h1, if_pos h1]
        apply Int32.toInt_inj.mp
        rw [Int16.toInt_toInt32, Int32.toInt_toInt16, Int16.toInt_toInt32, Int32.toInt_toInt16]
        simp
      · rw [if_neg h1, if_neg h1, if_neg h2, if_neg h2, Int32.and_assoc]; rfl
def sp_F (σ : sp_S) : Prop := ∀ i t j, sp_as t (σ (9, i, t) j) = σ (9, i, t) j
theorem sp_F_put {len : Nat → Nat} {σ : sp_S} {i t : Nat} {p v : Int32} (h : sp_F σ) : sp_F (sp_put len σ i t p v) := by
  unfold sp_put
  split
  · intro i2 t2 j2
    by_cases hr : ((9, i2, t2) : zw_R) = (9, i, t)
    · have e2 : t2 = t := congrArg (fun z => z.2.2) hr
      rw [hr, e2]
      by_cases hj : j2 = p.toNatClampNeg
      · rw [hj, sp_ss, sp_as_as]
      · rw [sp_s_j hj]
        exact h i t j2
    · rw [sp_s_ne hr]
      exact h i2 t2 j2
  · exact h
theorem sp_ex {len : Nat → Nat} {σ : sp_S} {i t : Nat} {a b : Int32} (h : sp_F σ) (ha : sp_f len σ i t a = 0) (hb : sp_f len σ i t b = 0) : (sp_put len (sp_put len σ i t a (sp_n len σ i t b)) i t b (sp_n len σ i t a)) = sp_s (sp_s σ (9, i, t) a.toNatClampNeg (σ (9, i, t) b.toNatClampNeg)) (9, i, t) b.toNatClampNeg (σ (9, i, t) a.toNatClampNeg) := by
  have e1 : sp_n len σ i t b = σ (9, i, t) b.toNatClampNeg := by unfold sp_n; rw [if_pos hb]
  have e2 : sp_n len σ i t a = σ (9, i, t) a.toNatClampNeg := by unfold sp_n; rw [if_pos ha]
  have e3 : sp_put len σ i t a (σ (9, i, t) b.toNatClampNeg) = sp_s σ (9, i, t) a.toNatClampNeg (σ (9, i, t) b.toNatClampNeg) := by unfold sp_put; rw [if_pos ha, h]
  rw [e1, e2, e3]
  unfold sp_put
  rw [sp_fs, if_pos hb, h]
set_option maxHeartbeats 4000000 in
set_option maxRecDepth 100000 in
theorem cm_layM {l : Launch} {dC : Nat → ClassId} {dI : Nat → Nat → Nat} {cA : Nat → ClassId} {ad : zw_R → Nat} {R : List zw_R} {nr : Nat} {len : Nat → Nat} {σ : sp_S} {cD : zw_R → va_E} (hM : zm_R R) (hnr : nr ≤ 8) (hI0 : σ (0, 0, 0) 0 = nI nr) (p0 p1 : Int32) : zw_M l yX3_lay wsX3_lay { frames := 1, cells := 0, slots := 0, locals := 23 } (ze_E dC dI cA) [.ref (ad (20, 0, 0)), .int p0, .int p1] ad R (ze_X cD (ze_M cA ad len σ)) (some (.int ((sp_layM nr len σ p0 p1).1))) (ze_X cD (ze_M cA ad len (sp_layM nr len σ p0 p1).2)) := by
  refine zw_body (cc := cX3_lay) (maxL := 5) (ret := (some .int)) (by decide) rfl (Nat.le_of_ble_eq_true rfl) ?_
  intro p e s m below meth c A ls hx hb hr hlk hml hts hown hnm hA hK hP hD hS hN hl
  have hl : lv_has ls 5 [(0, .ref (ad (20, 0, 0))), (1, .int p0), (2, .int p1)] := hl
  have hwX3 : ∀ w ∈ u_ws RX3 TX3 17, w ∈ wsX3_lay := by decide +kernel
  refine lv_aload_n hx hb dX3_lay_0 rfl (lv_at hl 0 rfl) ?_
  refine lv_iload_n hx hb dX3_lay_1 rfl (lv_at hl 1 rfl) ?_
  rcases Decidable.em (sp_r nr p0) with h_1 | h_1
  · refine zw_cV (r := (20, 0, 0)) (As := [.int p0]) (rest := []) (st1 := [.int 1]) ⟨hx, hb, hml, hown, hts⟩ (cm_isReel_1 (σ := σ) hM hI0 p0 h_1) (cwV 1 hts gX3_lay_X3_isReel rfl rfl rfl (by decide +kernel) ⟨Nat.le_of_ble_eq_true rfl, Nat.le_of_ble_eq_true rfl⟩) (hM 0 (by decide)) rfl rfl rfl hK hP hD hS hA hN rfl hl.1 rfl (Nat.le_of_ble_eq_true rfl) rfl dX3_lay_2 ⟨Nat.zero_le _, Nat.zero_le _⟩ (fun H locs hP hD hS => ?_)
    refine lv_if_eq (tgt := 16) hx hb dX3_lay_5 (by decide) (fun c_2 => absurd c_2 (by decide)) (fun c_2 => ?_)
    refine lv_aload_n hx hb dX3_lay_8 rfl (lv_at hl 0 rfl) ?_
    refine lv_iload_n hx hb dX3_lay_9 rfl (lv_at hl 2 rfl) ?_
    rcases Decidable.em (sp_t p1) with h_3 | h_3
    · refine zw_cV (r := (20, 0, 0)) (As := [.int p1]) (rest := []) (st1 := [.int 1]) ⟨hx, hb, hml, hown, hts⟩ (cm_isTrack_1 (σ := σ) p1 h_3) (cwV 1 hts gX3_lay_X3_isTrack rfl rfl rfl (by decide +kernel) ⟨Nat.le_of_ble_eq_true rfl, Nat.le_of_ble_eq_true rfl⟩) (hM 0 (by decide)) rfl rfl rfl hK hP hD hS hA hN rfl hl.1 rfl (Nat.le_of_ble_eq_true rfl) rfl dX3_lay_10 ⟨Nat.zero_le _, Nat.zero_le _⟩ (fun H locs hP hD hS => ?_)
      refine lv_if_ne (tgt := 23) hx hb dX3_lay_13 (by decide) (fun c_4 => ?_) (fun c_4 => absurd c_4 (by decide))
      refine lv_aload_n hx hb dX3_lay_23 rfl (lv_at hl 0 rfl) ?_
      refine lv_iload_n hx hb dX3_lay_24 rfl (lv_at hl 1 rfl) ?_
      refine lv_iload_n hx hb dX3_lay_25 rfl (lv_at hl 2 rfl) ?_
      rcases Decidable.em (σ (8, p0.toNatClampNeg, p1.toNatClampNeg) 1 = 0) with h_5 | h_5
      · refine zw_cV (r := (20, 0, 0)) (As := [.int p0, .int p1]) (rest := []) (st1 := [.int 0]) ⟨hx, hb, hml, hown, hts⟩ (cm_isThere_0 (σ := σ) hM hnr p0 p1 h_1 h_3 h_5) (cwV 2 hts gX3_lay_X3_isThere rfl rfl rfl (by decide +kernel) ⟨Nat.le_of_ble_eq_true rfl, Nat.le_of_ble_eq_true rfl⟩) (hM 0 (by decide)) rfl rfl rfl hK hP hD hS hA hN rfl hl.1 rfl (Nat.le_of_ble_eq_true rfl) rfl dX3_lay_26 ⟨Nat.zero_le _, Nat.zero_le _⟩ (fun H locs hP hD hS => ?_)
        refine lv_if_eq (tgt := 36) hx hb dX3_lay_29 (by decide) (fun c_6 => ?_) (fun c_6 => absurd (by decide) c_6)
        refine lv_iconst (v := 1) hx hb dX3_lay_36 (by decide) ?_
        refine lv_istore_n (lv' := [(3, .int 1), (0, .ref (ad (20, 0, 0))), (1, .int p0), (2, .int p1)]) hx hb dX3_lay_37 rfl hl (by decide) rfl (fun ls hl => ?_)
        refine lv_aload_n hx hb dX3_lay_38 rfl (lv_at hl 1 rfl) ?_
        refine zw_getf (r := (20, 0, 0)) (v := .ref (ad (22, 0, 0))) (C := RX3) (T := TX3) (N := 17) (ci := 3) hx hb hts hwX3 hown hK hP (hM 0 (by decide)) rfl rfl 2 (by decide) (hts (.fieldLink RX3 13 "FourTrackDeckModel" "there" "[I") (by decide +kernel)) (fun _ h9 => h9) rfl dX3_lay_39 ?_
        refine lv_iload_n hx hb dX3_lay_42 rfl (lv_at hl 2 rfl) ?_
        refine lv_aload_n hx hb dX3_lay_43 rfl (lv_at hl 1 rfl) ?_
        refine zw_getf (r := (20, 0, 0)) (v := .ref (ad (22, 0, 0))) (C := RX3) (T := TX3) (N := 17) (ci := 3) hx hb hts hwX3 hown hK hP (hM 0 (by decide)) rfl rfl 2 (by decide) (hts (.fieldLink RX3 13 "FourTrackDeckModel" "there" "[I") (by decide +kernel)) (fun _ h9 => h9) rfl dX3_lay_44 ?_
        refine lv_iload_n hx hb dX3_lay_47 rfl (lv_at hl 2 rfl) ?_
        refine zw_iald (r := (22, 0, 0)) hx hb hK hP (hM 2 (by decide)) 0 rfl rfl (ze_r8 h_1 hnr).1 dX3_lay_48 ?_
        refine lv_iconst (v := 1) hx hb dX3_lay_49 (by decide) ?_
        refine lv_iload_n hx hb dX3_lay_50 rfl (lv_at hl 3 rfl) ?_
        refine lv_ishl hx hb dX3_lay_51 ?_
        refine lv_ior hx hb dX3_lay_52 ?_
        refine zw_iast (r := (22, 0, 0)) hx hb hK hP hD hS (hM 2 (by decide)) 0 rfl rfl (ze_r8 h_1 hnr).1 dX3_lay_53 (cu1 := ze_X cD (ze_M cA ad len (sp_s σ (8, p0.toNatClampNeg, p1.toNatClampNeg) 1 1))) (zm_T (y := 0) (ze_vt h_3) (by have e := zm_on (σ := σ) (i := p0.toNatClampNeg) (ze_vt h_3); rw [ze_tn h_3] at e; exact e)) (fun H locs hP hD hS => ?_)
        refine lv_iconst (v := 0) hx hb dX3_lay_54 (by decide) ?_
        refine lv_istore (lv' := [(4, .int 0), (3, .int 1), (0, .ref (ad (20, 0, 0))), (1, .int p0), (2, .int p1)]) hx hb dX3_lay_55 hl (by decide) rfl (fun ls hl => ?_)
        have eN : (64 : Int32) = nI 64 := rfl
        have key : ∀ (mm j : Nat) (k : Int32) (τ : sp_S) (H : Heap) (locs : List Loc) (ls : Array Slot), k = nI j → j + mm = 64 → sp_layM nr len σ p0 p1 = ((if σ (8, p0.toNatClampNeg, p1.toNatClampNeg) 1 = 0 then 1 else 0), sp_e (sp_zl p0.toNatClampNeg p1.toNatClampNeg mm k τ) 0) → va_P (ze_E dC dI cA).1 (ze_E dC dI cA).2.1 (zw_l ad R (ze_X cD (ze_M cA ad len τ))) H → va_D A (zw_l ad R (ze_X cD (ze_M cA ad len τ))) → va_S A s.heap H locs → lv_has ls 5 [(4, .int k), (3, .int 1), (0, .ref (ad (20, 0, 0))), (1, .int p0), (2, .int p1)] → W p l e ({ frames := 1, cells := 0, slots := 0, locals := 23 } : Room) s m [Value.ref (ad (20, 0, 0)), Value.int p0, Value.int p1].toArray below meth c H locs 0 0 (MQ below (zw_Q (some (.int (sp_layM nr len σ p0 p1).1)) (zw_B (ze_E dC dI cA) A ad R (ze_X cD (ze_M cA ad len (sp_layM nr len σ p0 p1).2))) A) [Value.ref (ad (20, 0, 0)), Value.int p0, Value.int p1].toArray s 0 0 A) (F0 m 57 ls []) := by
          intro mm
          induction mm with
          | zero =>
            intro j k τ H locs ls hk hj hE hP hD hS hl
            have hge : 64 ≤ k := by rw [hk, eN]; exact nI_le (by omega) (by omega)
            refine lv_iload hx hb dX3_lay_57 (lv_at hl 0 rfl) ?_
            refine lv_bipush (v := 64) hx hb dX3_lay_59 (by decide) ?_
            refine lv_icmp_ge (tgt := 84) hx hb dX3_lay_61 (by decide) (fun c_7 => ?_) (fun c_7 => absurd hge c_7)
            refine lv_aload_n hx hb dX3_lay_84 rfl (lv_at hl 2 rfl) ?_
            refine lv_iload_n hx hb dX3_lay_85 rfl (lv_at hl 1 rfl) ?_
            refine zw_cV (r := (20, 0, 0)) (As := [.int 1]) (rest := []) (st1 := [.int 1]) ⟨hx, hb, hml, hown, hts⟩ (cm_done (σ := τ) hM 1) (cwV 1 hts gX3_lay_X3_done rfl rfl rfl (by decide +kernel) ⟨Nat.le_of_ble_eq_true rfl, Nat.le_of_ble_eq_true rfl⟩) (hM 0 (by decide)) rfl rfl rfl hK hP hD hS hA hN rfl hl.1 rfl (Nat.le_of_ble_eq_true rfl) rfl dX3_lay_86 ⟨Nat.zero_le _, Nat.zero_le _⟩ (fun H locs hP hD hS => ?_)
            exact zw_iret hx hb hr hlk hK hP hD hS dX3_lay_89 (by rw [hE]; simp only [sp_zl, if_pos h_1, if_pos h_3, if_pos h_5] <;> rfl) (by rw [hE]; simp only [sp_zl, if_pos h_1, if_pos h_3, if_pos h_5] <;> rfl)
          | succ mm ih =>
            intro j k τ H locs ls hk hj hE hP hD hS hl
            have hlt : ¬ 64 ≤ k := by rw [hk, eN]; exact nI_ge (by omega) (by omega)
            refine lv_iload hx hb dX3_lay_57 (lv_at hl 0 rfl) ?_
            refine lv_bipush (v := 64) hx hb dX3_lay_59 (by decide) ?_
            refine lv_icmp_ge (tgt := 84) hx hb dX3_lay_61 (by decide) (fun c_8 => absurd c_8 hlt) (fun c_8 => ?_)
            refine lv_aload_n hx hb dX3_lay_64 rfl (lv_at hl 2 rfl) ?_
            refine zw_getf (r := (20, 0, 0)) (v := .ref (ad (23, 0, 0))) (C := RX3) (T := TX3) (N := 17) (ci := 3) hx hb hts hwX3 hown hK hP (hM 0 (by decide)) rfl rfl 3 (by decide) (hts (.fieldLink RX3 16 "FourTrackDeckModel" "number" "[I") (by decide +kernel)) (fun _ h9 => h9) rfl dX3_lay_65 ?_
            refine lv_aload_n hx hb dX3_lay_68 rfl (lv_at hl 2 rfl) ?_
            refine lv_iload_n hx hb dX3_lay_69 rfl (lv_at hl 3 rfl) ?_
            refine lv_iload_n hx hb dX3_lay_70 rfl (lv_at hl 4 rfl) ?_
            refine lv_iload hx hb dX3_lay_71 (lv_at hl 0 rfl) ?_
            refine zw_cV (r := (20, 0, 0)) (As := [.int p0, .int p1, .int k]) (rest := [.ref (ad (23, 0, 0))]) (st1 := [.int ((4 * p0 + p1) * 64 + k), .ref (ad (23, 0, 0))]) ⟨hx, hb, hml, hown, hts⟩ (cm_at (σ := τ) p0 p1 k) (cwV 3 hts gX3_lay_X3_at rfl rfl rfl (by decide +kernel) ⟨Nat.le_of_ble_eq_true rfl, Nat.le_of_ble_eq_true rfl⟩) (hM 0 (by decide)) rfl rfl rfl hK hP hD hS hA hN rfl hl.1 rfl (Nat.le_of_ble_eq_true rfl) rfl dX3_lay_73 ⟨Nat.zero_le _, Nat.zero_le _⟩ (fun H locs hP hD hS => ?_)
            refine lv_iconst (v := 0) hx hb dX3_lay_76 (by decide) ?_
            refine zw_iast (r := (23, 0, 0)) hx hb hK hP hD hS (hM 3 (by decide)) 0 rfl rfl (zm_at h_1 hnr h_3 (show vp_in k 64 from by rw [hk]; exact vp_in_nI (by omega) (by decide)) (Nat.le_refl 64)).2.1 dX3_lay_77 (cu1 := ze_X cD (ze_M cA ad len (sp_s τ (9, p0.toNatClampNeg, p1.toNatClampNeg) k.toNatClampNeg 0))) (zm_N (zm_at h_1 hnr h_3 (show vp_in k 64 from by rw [hk]; exact vp_in_nI (by omega) (by decide)) (Nat.le_refl 64)).1 (ze_vt h_3) (zm_at h_1 hnr h_3 (show vp_in k 64 from by rw [hk]; exact vp_in_nI (by omega) (by decide)) (Nat.le_refl 64)).2.2) (fun H locs hP hD hS => ?_)
            refine lv_iinc (v := (k + 1)) (lv' := [(4, .int (k + 1)), (3, .int 1), (0, .ref (ad (20, 0, 0))), (1, .int p0), (2, .int p1)]) hx hb dX3_lay_78 hl (k := 0) rfl rfl (by decide) rfl (fun ls hl => ?_)
            refine lv_goto (tgt := 57) hx hb dX3_lay_81 (by decide) ?_
            exact ih (j + 1) (k + 1) (sp_s τ (9, p0.toNatClampNeg, p1.toNatClampNeg) k.toNatClampNeg 0) _ _ _ (by rw [hk, nI_1]) (by omega) (hE.trans (by simp only [sp_zl] <;> rfl)) hP hD hS (lv_sub hl [0, 1, 2, 3, 4] rfl)
        exact key 64 0 0 (sp_s σ (8, p0.toNatClampNeg, p1.toNatClampNeg) 1 1) _ _ _ nI_0.symm (by omega) (by simp only [sp_layM, if_pos h_1, if_pos h_3, if_pos h_5, if_pos (show sp_v nr p0 p1 from ⟨h_1, h_3⟩)] <;> rfl) hP hD hS hl
      · refine zw_cV (r := (20, 0, 0)) (As := [.int p0, .int p1]) (rest := []) (st1 := [.int 1]) ⟨hx, hb, hml, hown, hts⟩ (cm_isThere_1 (σ := σ) hM hnr p0 p1 h_1 h_3 h_5) (cwV 2 hts gX3_lay_X3_isThere rfl rfl rfl (by decide +kernel) ⟨Nat.le_of_ble_eq_true rfl, Nat.le_of_ble_eq_true rfl⟩) (hM 0 (by decide)) rfl rfl rfl hK hP hD hS hA hN rfl hl.1 rfl (Nat.le_of_ble_eq_true rfl) rfl dX3_lay_26 ⟨Nat.zero_le _, Nat.zero_le _⟩ (fun H locs hP hD hS => ?_)
        refine lv_if_eq (tgt := 36) hx hb dX3_lay_29 (by decide) (fun c_9 => absurd c_9 (by decide)) (fun c_9 => ?_)
        refine lv_iconst (v := 0) hx hb dX3_lay_32 (by decide) ?_
        refine lv_goto (tgt := 37) hx hb dX3_lay_33 (by decide) ?_
        refine lv_istore_n (lv' := [(3, .int 0), (0, .ref (ad (20, 0, 0))), (1, .int p0), (2, .int p1)]) hx hb dX3_lay_37 rfl hl (by decide) rfl (fun ls hl => ?_)
        refine lv_aload_n hx hb dX3_lay_38 rfl (lv_at hl 1 rfl) ?_
        refine zw_getf (r := (20, 0, 0)) (v := .ref (ad (22, 0, 0))) (C := RX3) (T := TX3) (N := 17) (ci := 3) hx hb hts hwX3 hown hK hP (hM 0 (by decide)) rfl rfl 2 (by decide) (hts (.fieldLink RX3 13 "FourTrackDeckModel" "there" "[I") (by decide +kernel)) (fun _ h9 => h9) rfl dX3_lay_39 ?_
        refine lv_iload_n hx hb dX3_lay_42 rfl (lv_at hl 2 rfl) ?_
        refine lv_aload_n hx hb dX3_lay_43 rfl (lv_at hl 1 rfl) ?_
        refine zw_getf (r := (20, 0, 0)) (v := .ref (ad (22, 0, 0))) (C := RX3) (T := TX3) (N := 17) (ci := 3) hx hb hts hwX3 hown hK hP (hM 0 (by decide)) rfl rfl 2 (by decide) (hts (.fieldLink RX3 13 "FourTrackDeckModel" "there" "[I") (by decide +kernel)) (fun _ h9 => h9) rfl dX3_lay_44 ?_
        refine lv_iload_n hx hb dX3_lay_47 rfl (lv_at hl 2 rfl) ?_
        refine zw_iald (r := (22, 0, 0)) hx hb hK hP (hM 2 (by decide)) 0 rfl rfl (ze_r8 h_1 hnr).1 dX3_lay_48 ?_
        refine lv_iconst (v := 1) hx hb dX3_lay_49 (by decide) ?_
        refine lv_iload_n hx hb dX3_lay_50 rfl (lv_at hl 3 rfl) ?_
        refine lv_ishl hx hb dX3_lay_51 ?_
        refine lv_ior hx hb dX3_lay_52 ?_
        refine zw_iast (r := (22, 0, 0)) hx hb hK hP hD hS (hM 2 (by decide)) 0 rfl rfl (ze_r8 h_1 hnr).1 dX3_lay_53 (cu1 := ze_X cD (ze_M cA ad len (sp_s σ (8, p0.toNatClampNeg, p1.toNatClampNeg) 1 1))) (zm_T (y := 0) (ze_vt h_3) (by have e := zm_on (σ := σ) (i := p0.toNatClampNeg) (ze_vt h_3); rw [ze_tn h_3] at e; exact e)) (fun H locs hP hD hS => ?_)
        refine lv_iconst (v := 0) hx hb dX3_lay_54 (by decide) ?_
        refine lv_istore (lv' := [(4, .int 0), (3, .int 0), (0, .ref (ad (20, 0, 0))), (1, .int p0), (2, .int p1)]) hx hb dX3_lay_55 hl (by decide) rfl (fun ls hl => ?_)
        have eN : (64 : Int32) = nI 64 := rfl
        have key : ∀ (mm j : Nat) (k : Int32) (τ : sp_S) (H : Heap) (locs : List Loc) (ls : Array Slot), k = nI j → j + mm = 64 → sp_layM nr len σ p0 p1 = ((if σ (8, p0.toNatClampNeg, p1.toNatClampNeg) 1 = 0 then 1 else 0), sp_e (sp_zl p0.toNatClampNeg p1.toNatClampNeg mm k τ) 0) → va_P (ze_E dC dI cA).1 (ze_E dC dI cA).2.1 (zw_l ad R (ze_X cD (ze_M cA ad len τ))) H → va_D A (zw_l ad R (ze_X cD (ze_M cA ad len τ))) → va_S A s.heap H locs → lv_has ls 5 [(4, .int k), (3, .int 0), (0, .ref (ad (20, 0, 0))), (1, .int p0), (2, .int p1)] → W p l e ({ frames := 1, cells := 0, slots := 0, locals := 23 } : Room) s m [Value.ref (ad (20, 0, 0)), Value.int p0, Value.int p1].toArray below meth c H locs 0 0 (MQ below (zw_Q (some (.int (sp_layM nr len σ p0 p1).1)) (zw_B (ze_E dC dI cA) A ad R (ze_X cD (ze_M cA ad len (sp_layM nr len σ p0 p1).2))) A) [Value.ref (ad (20, 0, 0)), Value.int p0, Value.int p1].toArray s 0 0 A) (F0 m 57 ls []) := by
          intro mm
          induction mm with
          | zero =>
            intro j k τ H locs ls hk hj hE hP hD hS hl
            have hge : 64 ≤ k := by rw [hk, eN]; exact nI_le (by omega) (by omega)
            refine lv_iload hx hb dX3_lay_57 (lv_at hl 0 rfl) ?_
            refine lv_bipush (v := 64) hx hb dX3_lay_59 (by decide) ?_
            refine lv_icmp_ge (tgt := 84) hx hb dX3_lay_61 (by decide) (fun c_10 => ?_) (fun c_10 => absurd hge c_10)
            refine lv_aload_n hx hb dX3_lay_84 rfl (lv_at hl 2 rfl) ?_
            refine lv_iload_n hx hb dX3_lay_85 rfl (lv_at hl 1 rfl) ?_
            refine zw_cV (r := (20, 0, 0)) (As := [.int 0]) (rest := []) (st1 := [.int 0]) ⟨hx, hb, hml, hown, hts⟩ (cm_done (σ := τ) hM 0) (cwV 1 hts gX3_lay_X3_done rfl rfl rfl (by decide +kernel) ⟨Nat.le_of_ble_eq_true rfl, Nat.le_of_ble_eq_true rfl⟩) (hM 0 (by decide)) rfl rfl rfl hK hP hD hS hA hN rfl hl.1 rfl (Nat.le_of_ble_eq_true rfl) rfl dX3_lay_86 ⟨Nat.zero_le _, Nat.zero_le _⟩ (fun H locs hP hD hS => ?_)
            exact zw_iret hx hb hr hlk hK hP hD hS dX3_lay_89 (by rw [hE]; simp only [sp_zl, if_pos h_1, if_pos h_3, if_neg h_5] <;> rfl) (by rw [hE]; simp only [sp_zl, if_pos h_1, if_pos h_3, if_neg h_5] <;> rfl)
          | succ mm ih =>
            intro j k τ H locs ls hk hj hE hP hD hS hl
            have hlt : ¬ 64 ≤ k := by rw [hk, eN]; exact nI_ge (by omega) (by omega)
            refine lv_iload hx hb dX3_lay_57 (lv_at hl 0 rfl) ?_
            refine lv_bipush (v := 64) hx hb dX3_lay_59 (by decide) ?_
            refine lv_icmp_ge (tgt := 84) hx hb dX3_lay_61 (by decide) (fun c_11 => absurd c_11 hlt) (fun c_11 => ?_)
            refine lv_aload_n hx hb dX3_lay_64 rfl (lv_at hl 2 rfl) ?_
            refine zw_getf (r := (20, 0, 0)) (v := .ref (ad (23, 0, 0))) (C := RX3) (T := TX3) (N := 17) (ci := 3) hx hb hts hwX3 hown hK hP (hM 0 (by decide)) rfl rfl 3 (by decide) (hts (.fieldLink RX3 16 "FourTrackDeckModel" "number" "[I") (by decide +kernel)) (fun _ h9 => h9) rfl dX3_lay_65 ?_
            refine lv_aload_n hx hb dX3_lay_68 rfl (lv_at hl 2 rfl) ?_
            refine lv_iload_n hx hb dX3_lay_69 rfl (lv_at hl 3 rfl) ?_
            refine lv_iload_n hx hb dX3_lay_70 rfl (lv_at hl 4 rfl) ?_
            refine lv_iload hx hb dX3_lay_71 (lv_at hl 0 rfl) ?_
            refine zw_cV (r := (20, 0, 0)) (As := [.int p0, .int p1, .int k]) (rest := [.ref (ad (23, 0, 0))]) (st1 := [.int ((4 * p0 + p1) * 64 + k), .ref (ad (23, 0, 0))]) ⟨hx, hb, hml, hown, hts⟩ (cm_at (σ := τ) p0 p1 k) (cwV 3 hts gX3_lay_X3_at rfl rfl rfl (by decide +kernel) ⟨Nat.le_of_ble_eq_true rfl, Nat.le_of_ble_eq_true rfl⟩) (hM 0 (by decide)) rfl rfl rfl hK hP hD hS hA hN rfl hl.1 rfl (Nat.le_of_ble_eq_true rfl) rfl dX3_lay_73 ⟨Nat.zero_le _, Nat.zero_le _⟩ (fun H locs hP hD hS => ?_)
            refine lv_iconst (v := 0) hx hb dX3_lay_76 (by decide) ?_
            refine zw_iast (r := (23, 0, 0)) hx hb hK hP hD hS (hM 3 (by decide)) 0 rfl rfl (zm_at h_1 hnr h_3 (show vp_in k 64 from by rw [hk]; exact vp_in_nI (by omega) (by decide)) (Nat.le_refl 64)).2.1 dX3_lay_77 (cu1 := ze_X cD (ze_M cA ad len (sp_s τ (9, p0.toNatClampNeg, p1.toNatClampNeg) k.toNatClampNeg 0))) (zm_N (zm_at h_1 hnr h_3 (show vp_in k 64 from by rw [hk]; exact vp_in_nI (by omega) (by decide)) (Nat.le_refl 64)).1 (ze_vt h_3) (zm_at h_1 hnr h_3 (show vp_in k 64 from by rw [hk]; exact vp_in_nI (by omega) (by decide)) (Nat.le_refl 64)).2.2) (fun H locs hP hD hS => ?_)
            refine lv_iinc (v := (k + 1)) (lv' := [(4, .int (k + 1)), (3, .int 0), (0, .ref (ad (20, 0, 0))), (1, .int p0), (2, .int p1)]) hx hb dX3_lay_78 hl (k := 0) rfl rfl (by decide) rfl (fun ls hl => ?_)
            refine lv_goto (tgt := 57) hx hb dX3_lay_81 (by decide) ?_
            exact ih (j + 1) (k + 1) (sp_s τ (9, p0.toNatClampNeg, p1.toNatClampNeg) k.toNatClampNeg 0) _ _ _ (by rw [hk, nI_1]) (by omega) (hE.trans (by simp only [sp_zl] <;> rfl)) hP hD hS (lv_sub hl [0, 1, 2, 3, 4] rfl)
        exact key 64 0 0 (sp_s σ (8, p0.toNatClampNeg, p1.toNatClampNeg) 1 1) _ _ _ nI_0.symm (by omega) (by simp only [sp_layM, if_pos h_1, if_pos h_3, if_neg h_5, if_pos (show sp_v nr p0 p1 from ⟨h_1, h_3⟩)] <;> rfl) hP hD hS hl
    · refine zw_cV (r := (20, 0, 0)) (As := [.int p1]) (rest := []) (st1 := [.int 0]) ⟨hx, hb, hml, hown, hts⟩ (cm_isTrack_0 (σ := σ) p1 h_3) (cwV 1 hts gX3_lay_X3_isTrack rfl rfl rfl (by decide +kernel) ⟨Nat.le_of_ble_eq_true rfl, Nat.le_of_ble_eq_true rfl⟩) (hM 0 (by decide)) rfl rfl rfl hK hP hD hS hA hN rfl hl.1 rfl (Nat.le_of_ble_eq_true rfl) rfl dX3_lay_10 ⟨Nat.zero_le _, Nat.zero_le _⟩ (fun H locs hP hD hS => ?_)
      refine lv_if_ne (tgt := 23) hx hb dX3_lay_13 (by decide) (fun c_12 => absurd (by decide) c_12) (fun c_12 => ?_)
      refine lv_aload_n hx hb dX3_lay_16 rfl (lv_at hl 0 rfl) ?_
      refine lv_iconst (v := 1) hx hb dX3_lay_17 (by decide) ?_
      refine lv_iconst (v := (-1)) hx hb dX3_lay_18 (by decide) ?_
      refine zw_cV (r := (20, 0, 0)) (As := [.int 1, .int (-1)]) (rest := []) (st1 := [.int (-1)]) ⟨hx, hb, hml, hown, hts⟩ (cm_fails (σ := σ) hM 1 (-1)) (cwV 2 hts gX3_lay_X3_fails rfl rfl rfl (by decide +kernel) ⟨Nat.le_of_ble_eq_true rfl, Nat.le_of_ble_eq_true rfl⟩) (hM 0 (by decide)) rfl rfl rfl hK hP hD hS hA hN rfl hl.1 rfl (Nat.le_of_ble_eq_true rfl) rfl dX3_lay_19 ⟨Nat.zero_le _, Nat.zero_le _⟩ (fun H locs hP hD hS => ?_)
      exact zw_iret hx hb hr hlk hK hP hD hS dX3_lay_22 (by simp only [sp_layM, if_neg (show ¬ sp_v nr p0 p1 from fun q => h_3 q.2), if_pos h_1, if_neg h_3, ite_self] <;> rfl) (by simp only [sp_layM, if_neg (show ¬ sp_v nr p0 p1 from fun q => h_3 q.2), if_pos h_1, if_neg h_3, ite_self] <;> rfl)
  · refine zw_cV (r := (20, 0, 0)) (As := [.int p0]) (rest := []) (st1 := [.int 0]) ⟨hx, hb, hml, hown, hts⟩ (cm_isReel_0 (σ := σ) hM hI0 p0 h_1) (cwV 1 hts gX3_lay_X3_isReel rfl rfl rfl (by decide +kernel) ⟨Nat.le_of_ble_eq_true rfl, Nat.le_of_ble_eq_true rfl⟩) (hM 0 (by decide)) rfl rfl rfl hK hP hD hS hA hN rfl hl.1 rfl (Nat.le_of_ble_eq_true rfl) rfl dX3_lay_2 ⟨Nat.zero_le _, Nat.zero_le _⟩ (fun H locs hP hD hS => ?_)
    refine lv_if_eq (tgt := 16) hx hb dX3_lay_5 (by decide) (fun c_13 => ?_) (fun c_13 => absurd (by decide) c_13)
    refine lv_aload_n hx hb dX3_lay_16 rfl (lv_at hl 0 rfl) ?_
    refine lv_iconst (v := 1) hx hb dX3_lay_17 (by decide) ?_
    refine lv_iconst (v := (-1)) hx hb dX3_lay_18 (by decide) ?_
    refine zw_cV (r := (20, 0, 0)) (As := [.int 1, .int (-1)]) (rest := []) (st1 := [.int (-1)]) ⟨hx, hb, hml, hown, hts⟩ (cm_fails (σ := σ) hM 1 (-1)) (cwV 2 hts gX3_lay_X3_fails rfl rfl rfl (by decide +kernel) ⟨Nat.le_of_ble_eq_true rfl, Nat.le_of_ble_eq_true rfl⟩) (hM 0 (by decide)) rfl rfl rfl hK hP hD hS hA hN rfl hl.1 rfl (Nat.le_of_ble_eq_true rfl) rfl dX3_lay_19 ⟨Nat.zero_le _, Nat.zero_le _⟩ (fun H locs hP hD hS => ?_)
    exact zw_iret hx hb hr hlk hK hP hD hS dX3_lay_22 (by simp only [sp_layM, if_neg (show ¬ sp_v nr p0 p1 from fun q => h_1 q.1), if_neg h_1, ite_self] <;> rfl) (by simp only [sp_layM, if_neg (show ¬ sp_v nr p0 p1 from fun q => h_1 q.1), if_neg h_1, ite_self] <;> rfl)
set_option maxHeartbeats 4000000 in
set_option maxRecDepth 100000 in
theorem cm_sheetM {l : Launch} {dC : Nat → ClassId} {dI : Nat → Nat → Nat} {cA : Nat → ClassId} {ad : zw_R → Nat} {R : List zw_R} {nr : Nat} {len : Nat → Nat} {σ : sp_S} {cD : zw_R → va_E} (hM : zm_R R) (p0 p1 : Int32) : zw_M l yX3_sheet wsX3_sheet { frames := 1, cells := 0, slots := 0, locals := 22 } (ze_E dC dI cA) [.ref (ad (20, 0, 0)), .int p0, .int p1] ad R (ze_X cD (ze_M cA ad len σ)) (some (.int ((sp_sheetM nr len σ p0 p1).1))) (ze_X cD (ze_M cA ad len (sp_sheetM nr len σ p0 p1).2)) := by
  refine zw_body (cc := cX3_sheet) (maxL := 4) (ret := (some .int)) (by decide) rfl (Nat.le_of_ble_eq_true rfl) ?_
  intro p e s m below meth c A ls hx hb hr hlk hml hts hown hnm hA hK hP hD hS hN hl
  have hl : lv_has ls 4 [(0, .ref (ad (20, 0, 0))), (1, .int p0), (2, .int p1)] := hl
  have hwX3 : ∀ w ∈ u_ws RX3 TX3 17, w ∈ wsX3_sheet := by decide +kernel
  refine lv_iload_n hx hb dX3_sheet_0 rfl (lv_at hl 1 rfl) ?_
  refine lv_bipush (v := 16) hx hb dX3_sheet_1 (by decide) ?_
  refine lv_icmp_gt (tgt := 12) hx hb dX3_sheet_3 (by decide) (fun c_1 => ?_) (fun c_1 => ?_)
  · refine lv_aload_n hx hb dX3_sheet_12 rfl (lv_at hl 0 rfl) ?_
    refine lv_iconst (v := 1) hx hb dX3_sheet_13 (by decide) ?_
    refine lv_iconst (v := (-1)) hx hb dX3_sheet_14 (by decide) ?_
    refine zw_cV (r := (20, 0, 0)) (As := [.int 1, .int (-1)]) (rest := []) (st1 := [.int (-1)]) ⟨hx, hb, hml, hown, hts⟩ (cm_fails (σ := σ) hM 1 (-1)) (cwV 2 hts gX3_sheet_X3_fails rfl rfl rfl (by decide +kernel) ⟨Nat.le_of_ble_eq_true rfl, Nat.le_of_ble_eq_true rfl⟩) (hM 0 (by decide)) rfl rfl rfl hK hP hD hS hA hN rfl hl.1 rfl (Nat.le_of_ble_eq_true rfl) rfl dX3_sheet_15 ⟨Nat.zero_le _, Nat.zero_le _⟩ (fun H locs hP hD hS => ?_)
    exact zw_iret hx hb hr hlk hK hP hD hS dX3_sheet_18 (by simp only [sp_sheetM, if_pos c_1, ite_self] <;> rfl) (by simp only [sp_sheetM, if_pos c_1, ite_self] <;> rfl)
  · refine lv_iload_n hx hb dX3_sheet_6 rfl (lv_at hl 2 rfl) ?_
    refine lv_bipush (v := 16) hx hb dX3_sheet_7 (by decide) ?_
    refine lv_icmp_le (tgt := 19) hx hb dX3_sheet_9 (by decide) (fun c_2 => ?_) (fun c_2 => ?_)
    · refine lv_iload_n hx hb dX3_sheet_19 rfl (lv_at hl 1 rfl) ?_
      refine lv_if_lt (tgt := 27) hx hb dX3_sheet_20 (by decide) (fun c_3 => ?_) (fun c_3 => ?_)
      · refine lv_aload_n hx hb dX3_sheet_27 rfl (lv_at hl 0 rfl) ?_
        refine lv_iconst (v := 4) hx hb dX3_sheet_28 (by decide) ?_
        refine lv_iconst (v := (-1)) hx hb dX3_sheet_29 (by decide) ?_
        refine zw_cV (r := (20, 0, 0)) (As := [.int 4, .int (-1)]) (rest := []) (st1 := [.int (-1)]) ⟨hx, hb, hml, hown, hts⟩ (cm_fails (σ := σ) hM 4 (-1)) (cwV 2 hts gX3_sheet_X3_fails rfl rfl rfl (by decide +kernel) ⟨Nat.le_of_ble_eq_true rfl, Nat.le_of_ble_eq_true rfl⟩) (hM 0 (by decide)) rfl rfl rfl hK hP hD hS hA hN rfl hl.1 rfl (Nat.le_of_ble_eq_true rfl) rfl dX3_sheet_30 ⟨Nat.zero_le _, Nat.zero_le _⟩ (fun H locs hP hD hS => ?_)
        exact zw_iret hx hb hr hlk hK hP hD hS dX3_sheet_33 (by simp only [sp_sheetM, if_neg c_1, if_pos c_2, if_pos c_3, ite_self] <;> rfl) (by simp only [sp_sheetM, if_neg c_1, if_pos c_2, if_pos c_3, ite_self] <;> rfl)
      · refine lv_iload_n hx hb dX3_sheet_23 rfl (lv_at hl 2 rfl) ?_
        refine lv_if_ge (tgt := 34) hx hb dX3_sheet_24 (by decide) (fun c_4 => ?_) (fun c_4 => ?_)
        · refine lv_aload_n hx hb dX3_sheet_34 rfl (lv_at hl 0 rfl) ?_
          refine lv_iload_n hx hb dX3_sheet_35 rfl (lv_at hl 1 rfl) ?_
          refine zw_putf (r := (20, 0, 0)) (v := .int p0) (C := RX3) (T := TX3) (N := 17) (ci := 3) hx hb hts hwX3 tyX3 tyX3_ok nmX3 hown hK hP hD hS (hM 0 (by decide)) rfl rfl 13 (by decide) (hts (.fieldLink RX3 35 "FourTrackDeckModel" "rows" "I") (by decide +kernel)) (fun _ h9 => h9) rfl (ty := .int) (by decide +kernel) rfl rfl (Nat.le_of_ble_eq_true rfl) dX3_sheet_36 (cu1 := ze_X cD (ze_M cA ad len (sp_s σ (0, 0, 0) 5 p0))) (zm_D rfl) (fun H locs hP hD hS => ?_)
          refine lv_aload_n hx hb dX3_sheet_39 rfl (lv_at hl 0 rfl) ?_
          refine lv_iload_n hx hb dX3_sheet_40 rfl (lv_at hl 2 rfl) ?_
          refine zw_putf (r := (20, 0, 0)) (v := .int p1) (C := RX3) (T := TX3) (N := 17) (ci := 3) hx hb hts hwX3 tyX3 tyX3_ok nmX3 hown hK hP hD hS (hM 0 (by decide)) rfl rfl 14 (by decide) (hts (.fieldLink RX3 38 "FourTrackDeckModel" "cells" "I") (by decide +kernel)) (fun _ h9 => h9) rfl (ty := .int) (by decide +kernel) rfl rfl (Nat.le_of_ble_eq_true rfl) dX3_sheet_41 (cu1 := ze_X cD (ze_M cA ad len (sp_s (sp_s σ (0, 0, 0) 5 p0) (0, 0, 0) 6 p1))) (zm_D rfl) (fun H locs hP hD hS => ?_)
          refine lv_iconst (v := 0) hx hb dX3_sheet_44 (by decide) ?_
          refine lv_istore_n (lv' := [(3, .int 0), (0, .ref (ad (20, 0, 0))), (1, .int p0), (2, .int p1)]) hx hb dX3_sheet_45 rfl hl (by decide) rfl (fun ls hl => ?_)
          have eN : (256 : Int32) = nI 256 := rfl
          have key : ∀ (mm j : Nat) (k : Int32) (τ : sp_S) (H : Heap) (locs : List Loc) (ls : Array Slot), k = nI j → j + mm = 256 → sp_sheetM nr len σ p0 p1 = (p0 * p1, sp_e (sp_cz mm k τ) 0) → va_P (ze_E dC dI cA).1 (ze_E dC dI cA).2.1 (zw_l ad R (ze_X cD (ze_M cA ad len τ))) H → va_D A (zw_l ad R (ze_X cD (ze_M cA ad len τ))) → va_S A s.heap H locs → lv_has ls 4 [(3, .int k), (0, .ref (ad (20, 0, 0))), (1, .int p0), (2, .int p1)] → W p l e ({ frames := 1, cells := 0, slots := 0, locals := 22 } : Room) s m [Value.ref (ad (20, 0, 0)), Value.int p0, Value.int p1].toArray below meth c H locs 0 0 (MQ below (zw_Q (some (.int (sp_sheetM nr len σ p0 p1).1)) (zw_B (ze_E dC dI cA) A ad R (ze_X cD (ze_M cA ad len (sp_sheetM nr len σ p0 p1).2))) A) [Value.ref (ad (20, 0, 0)), Value.int p0, Value.int p1].toArray s 0 0 A) (F0 m 46 ls []) := by
            intro mm
            induction mm with
            | zero =>
              intro j k τ H locs ls hk hj hE hP hD hS hl
              have hge : 256 ≤ k := by rw [hk, eN]; exact nI_le (by omega) (by omega)
              refine lv_iload_n hx hb dX3_sheet_46 rfl (lv_at hl 0 rfl) ?_
              refine lv_sipush (v := 256) hx hb dX3_sheet_47 (by decide) ?_
              refine lv_icmp_ge (tgt := 66) hx hb dX3_sheet_50 (by decide) (fun c_5 => ?_) (fun c_5 => absurd hge c_5)
              refine lv_aload_n hx hb dX3_sheet_66 rfl (lv_at hl 1 rfl) ?_
              refine lv_iload_n hx hb dX3_sheet_67 rfl (lv_at hl 2 rfl) ?_
              refine lv_iload_n hx hb dX3_sheet_68 rfl (lv_at hl 3 rfl) ?_
              refine lv_imul hx hb dX3_sheet_69 ?_
              refine zw_cV (r := (20, 0, 0)) (As := [.int (p0 * p1)]) (rest := []) (st1 := [.int (p0 * p1)]) ⟨hx, hb, hml, hown, hts⟩ (cm_done (σ := τ) hM (p0 * p1)) (cwV 1 hts gX3_sheet_X3_done rfl rfl rfl (by decide +kernel) ⟨Nat.le_of_ble_eq_true rfl, Nat.le_of_ble_eq_true rfl⟩) (hM 0 (by decide)) rfl rfl rfl hK hP hD hS hA hN rfl hl.1 rfl (Nat.le_of_ble_eq_true rfl) rfl dX3_sheet_70 ⟨Nat.zero_le _, Nat.zero_le _⟩ (fun H locs hP hD hS => ?_)
              exact zw_iret hx hb hr hlk hK hP hD hS dX3_sheet_73 (by rw [hE] <;> simp only [sp_cz] <;> rfl) (by rw [hE] <;> simp only [sp_cz] <;> rfl)
            | succ mm ih =>
              intro j k τ H locs ls hk hj hE hP hD hS hl
              have hlt : ¬ 256 ≤ k := by rw [hk, eN]; exact nI_ge (by omega) (by omega)
              refine lv_iload_n hx hb dX3_sheet_46 rfl (lv_at hl 0 rfl) ?_
              refine lv_sipush (v := 256) hx hb dX3_sheet_47 (by decide) ?_
              refine lv_icmp_ge (tgt := 66) hx hb dX3_sheet_50 (by decide) (fun c_6 => absurd c_6 hlt) (fun c_6 => ?_)
              refine lv_aload_n hx hb dX3_sheet_53 rfl (lv_at hl 1 rfl) ?_
              refine zw_getf (r := (20, 0, 0)) (v := .ref (ad (27, 0, 0))) (C := RX3) (T := TX3) (N := 17) (ci := 3) hx hb hts hwX3 hown hK hP (hM 0 (by decide)) rfl rfl 15 (by decide) (hts (.fieldLink RX3 41 "FourTrackDeckModel" "cue" "[I") (by decide +kernel)) (fun _ h9 => h9) rfl dX3_sheet_54 ?_
              refine lv_iload_n hx hb dX3_sheet_57 rfl (lv_at hl 0 rfl) ?_
              refine lv_iconst (v := 0) hx hb dX3_sheet_58 (by decide) ?_
              refine zw_iast (r := (27, 0, 0)) hx hb hK hP hD hS (hM 7 (by decide)) 0 rfl rfl (show vp_in k 256 from by rw [hk]; exact vp_in_nI (by omega) (by decide)) dX3_sheet_59 (cu1 := ze_X cD (ze_M cA ad len (sp_s τ (5, 0, 0) k.toNatClampNeg 0))) (zm_A5 rfl) (fun H locs hP hD hS => ?_)
              refine lv_iinc (v := (k + 1)) (lv' := [(3, .int (k + 1)), (0, .ref (ad (20, 0, 0))), (1, .int p0), (2, .int p1)]) hx hb dX3_sheet_60 hl (k := 0) rfl rfl (by decide) rfl (fun ls hl => ?_)
              refine lv_goto (tgt := 46) hx hb dX3_sheet_63 (by decide) ?_
              exact ih (j + 1) (k + 1) (sp_s τ (5, 0, 0) k.toNatClampNeg 0) _ _ _ (by rw [hk, nI_1]) (by omega) (hE.trans (by simp only [sp_cz] <;> rfl)) hP hD hS (lv_sub hl [0, 1, 2, 3] rfl)
          exact key 256 0 0 (sp_s (sp_s σ (0, 0, 0) 5 p0) (0, 0, 0) 6 p1) _ _ _ nI_0.symm (by omega) (by simp only [sp_sheetM, if_neg c_1, if_pos c_2, if_neg c_3, if_pos c_4] <;> rfl) hP hD hS hl
        · refine lv_aload_n hx hb dX3_sheet_27 rfl (lv_at hl 0 rfl) ?_
          refine lv_iconst (v := 4) hx hb dX3_sheet_28 (by decide) ?_
          refine lv_iconst (v := (-1)) hx hb dX3_sheet_29 (by decide) ?_
          refine zw_cV (r := (20, 0, 0)) (As := [.int 4, .int (-1)]) (rest := []) (st1 := [.int (-1)]) ⟨hx, hb, hml, hown, hts⟩ (cm_fails (σ := σ) hM 4 (-1)) (cwV 2 hts gX3_sheet_X3_fails rfl rfl rfl (by decide +kernel) ⟨Nat.le_of_ble_eq_true rfl, Nat.le_of_ble_eq_true rfl⟩) (hM 0 (by decide)) rfl rfl rfl hK hP hD hS hA hN rfl hl.1 rfl (Nat.le_of_ble_eq_true rfl) rfl dX3_sheet_30 ⟨Nat.zero_le _, Nat.zero_le _⟩ (fun H locs hP hD hS => ?_)
          exact zw_iret hx hb hr hlk hK hP hD hS dX3_sheet_33 (by simp only [sp_sheetM, if_neg c_1, if_pos c_2, if_neg c_3, if_neg c_4, ite_self] <;> rfl) (by simp only [sp_sheetM, if_neg c_1, if_pos c_2, if_neg c_3, if_neg c_4, ite_self] <;> rfl)
    · refine lv_aload_n hx hb dX3_sheet_12 rfl (lv_at hl 0 rfl) ?_
      refine lv_iconst (v := 1) hx hb dX3_sheet_13 (by decide) ?_
      refine lv_iconst (v := (-1)) hx hb dX3_sheet_14 (by decide) ?_
      refine zw_cV (r := (20, 0, 0)) (As := [.int 1, .int (-1)]) (rest := []) (st1 := [.int (-1)]) ⟨hx, hb, hml, hown, hts⟩ (cm_fails (σ := σ) hM 1 (-1)) (cwV 2 hts gX3_sheet_X3_fails rfl rfl rfl (by decide +kernel) ⟨Nat.le_of_ble_eq_true rfl, Nat.le_of_ble_eq_true rfl⟩) (hM 0 (by decide)) rfl rfl rfl hK hP hD hS hA hN rfl hl.1 rfl (Nat.le_of_ble_eq_true rfl) rfl dX3_sheet_15 ⟨Nat.zero_le _, Nat.zero_le _⟩ (fun H locs hP hD hS => ?_)
      exact zw_iret hx hb hr hlk hK hP hD hS dX3_sheet_18 (by simp only [sp_sheetM, if_neg c_1, if_neg c_2, ite_self] <;> rfl) (by simp only [sp_sheetM, if_neg c_1, if_neg c_2, ite_self] <;> rfl)
set_option maxHeartbeats 4000000 in
set_option maxRecDepth 100000 in
theorem cm_run {l : Launch} {dC : Nat → ClassId} {dI : Nat → Nat → Nat} {cA : Nat → ClassId} {ad : zw_R → Nat} {R : List zw_R} {nr : Nat} {len : Nat → Nat} {σ : sp_S} {cD : zw_R → va_E} (hM : zm_R R) (hnr : nr ≤ 8) (hlen : ∀ i, i < nr → len i ≤ 64) (hod : σ (0, 0, 0) 1 = -1 ∨ sp_r nr (σ (0, 0, 0) 1)) (hmo : ∀ t, t < 4 → sp_t (σ (3, 0, 0) t)) (p0 : Int32) : zw_M l yX3_run wsX3_run { frames := 3, cells := 0, slots := 0, locals := 68 } (ze_E dC dI cA) [.ref (ad (20, 0, 0)), .int p0] ad R (ze_X cD (ze_M cA ad len σ)) (some (.int ((sp_run nr len σ p0).1))) (ze_X cD (ze_M cA ad len (sp_run nr len σ p0).2)) := by
  refine zw_body (cc := cX3_run) (maxL := 5) (ret := (some .int)) (by decide) rfl (Nat.le_of_ble_eq_true rfl) ?_
  intro p e s m below meth c A ls hx hb hr hlk hml hts hown hnm hA hK hP hD hS hN hl
  have hl : lv_has ls 5 [(0, .ref (ad (20, 0, 0))), (1, .int p0)] := hl
  have hwX3 : ∀ w ∈ u_ws RX3 TX3 17, w ∈ wsX3_run := by decide +kernel
  refine lv_iload_n hx hb dX3_run_0 rfl (lv_at hl 1 rfl) ?_
  refine lv_iconst (v := 1) hx hb dX3_run_1 (by decide) ?_
  refine lv_icmp_lt (tgt := 11) hx hb dX3_run_2 (by decide) (fun c_1 => ?_) (fun c_1 => ?_)
  · refine lv_aload_n hx hb dX3_run_11 rfl (lv_at hl 0 rfl) ?_
    refine lv_iconst (v := 1) hx hb dX3_run_12 (by decide) ?_
    refine lv_iconst (v := 0) hx hb dX3_run_13 (by decide) ?_
    refine zw_cV (r := (20, 0, 0)) (As := [.int 1, .int 0]) (rest := []) (st1 := [.int 0]) ⟨hx, hb, hml, hown, hts⟩ (cm_fails (σ := σ) hM 1 0) (cwV 2 hts gX3_run_X3_fails rfl rfl rfl (by decide +kernel) ⟨Nat.le_of_ble_eq_true rfl, Nat.le_of_ble_eq_true rfl⟩) (hM 0 (by decide)) rfl rfl rfl hK hP hD hS hA hN rfl hl.1 rfl (Nat.le_of_ble_eq_true rfl) rfl dX3_run_14 ⟨Nat.zero_le _, Nat.zero_le _⟩ (fun H locs hP hD hS => ?_)
    exact zw_iret hx hb hr hlk hK hP hD hS dX3_run_17 (by simp only [sp_run, if_neg (show ¬ sp_w p0 1 100 from fun q => Int32.not_lt.mpr q.1 c_1), if_pos c_1, ite_self] <;> rfl) (by simp only [sp_run, if_neg (show ¬ sp_w p0 1 100 from fun q => Int32.not_lt.mpr q.1 c_1), if_pos c_1, ite_self] <;> rfl)
  · refine lv_iload_n hx hb dX3_run_5 rfl (lv_at hl 1 rfl) ?_
    refine lv_bipush (v := 100) hx hb dX3_run_6 (by decide) ?_
    refine lv_icmp_le (tgt := 18) hx hb dX3_run_8 (by decide) (fun c_2 => ?_) (fun c_2 => ?_)
    · refine lv_aload_n hx hb dX3_run_18 rfl (lv_at hl 0 rfl) ?_
      refine zw_getf (r := (20, 0, 0)) (v := .int (σ (0, 0, 0) 1)) (C := RX3) (T := TX3) (N := 17) (ci := 3) hx hb hts hwX3 hown hK hP (hM 0 (by decide)) rfl rfl 4 (by decide) (hts (.fieldLink RX3 19 "FourTrackDeckModel" "onDeck" "I") (by decide +kernel)) (fun _ h9 => h9) rfl dX3_run_19 ?_
      refine lv_iconst (v := (-1)) hx hb dX3_run_22 (by decide) ?_
      refine lv_icmp_ne (tgt := 33) hx hb dX3_run_23 (by decide) (fun c_3 => ?_) (fun c_3 => ?_)
      · refine lv_aload_n hx hb dX3_run_33 rfl (lv_at hl 0 rfl) ?_
        refine lv_iconst (v := (-1)) hx hb dX3_run_34 (by decide) ?_
        refine zw_putf (r := (20, 0, 0)) (v := .int (-1)) (C := RX3) (T := TX3) (N := 17) (ci := 3) hx hb hts hwX3 tyX3 tyX3_ok nmX3 hown hK hP hD hS (hM 0 (by decide)) rfl rfl 11 (by decide) (hts (.fieldLink RX3 32 "FourTrackDeckModel" "tripTrack" "I") (by decide +kernel)) (fun _ h9 => h9) rfl (ty := .int) (by decide +kernel) rfl rfl (Nat.le_of_ble_eq_true rfl) dX3_run_35 (cu1 := ze_X cD (ze_M cA ad len (sp_s σ (0, 0, 0) 7 (-1)))) (zm_D rfl) (fun H locs hP hD hS => ?_)
        refine lv_aload_n hx hb dX3_run_38 rfl (lv_at hl 0 rfl) ?_
        refine lv_iconst (v := 0) hx hb dX3_run_39 (by decide) ?_
        refine zw_putf (r := (20, 0, 0)) (v := .int 0) (C := RX3) (T := TX3) (N := 17) (ci := 3) hx hb hts hwX3 tyX3 tyX3_ok nmX3 hown hK hP hD hS (hM 0 (by decide)) rfl rfl 12 (by decide) (hts (.fieldLink RX3 96 "FourTrackDeckModel" "tripStatus" "I") (by decide +kernel)) (fun _ h9 => h9) rfl (ty := .int) (by decide +kernel) rfl rfl (Nat.le_of_ble_eq_true rfl) dX3_run_40 (cu1 := ze_X cD (ze_M cA ad len (sp_s (sp_s σ (0, 0, 0) 7 (-1)) (0, 0, 0) 8 0))) (zm_D rfl) (fun H locs hP hD hS => ?_)
        refine lv_iconst (v := 0) hx hb dX3_run_43 (by decide) ?_
        refine lv_istore_n (lv' := [(2, .int 0), (0, .ref (ad (20, 0, 0))), (1, .int p0)]) hx hb dX3_run_44 rfl hl (by decide) rfl (fun ls hl => ?_)
        have h0 : (0 : Int32) ≤ p0 := Int32.le_trans (by decide) (Int32.not_lt.mp c_1)
        have eN : p0 = nI p0.toNatClampNeg := (ze_nn h0).symm
        have hNb := ze_nb (n := 100) rfl h0 c_2
        have key : ∀ (mm j : Nat) (k : Int32) (τ : sp_S) (H : Heap) (locs : List Loc) (ls : Array Slot), k = nI j → j + mm = p0.toNatClampNeg → sp_run nr len σ p0 = sp_rl nr len mm k τ → sp_J nr τ → va_P (ze_E dC dI cA).1 (ze_E dC dI cA).2.1 (zw_l ad R (ze_X cD (ze_M cA ad len τ))) H → va_D A (zw_l ad R (ze_X cD (ze_M cA ad len τ))) → va_S A s.heap H locs → lv_has ls 5 [(2, .int k), (0, .ref (ad (20, 0, 0))), (1, .int p0)] → W p l e ({ frames := 3, cells := 0, slots := 0, locals := 68 } : Room) s m [Value.ref (ad (20, 0, 0)), Value.int p0].toArray below meth c H locs 0 0 (MQ below (zw_Q (some (.int (sp_run nr len σ p0).1)) (zw_B (ze_E dC dI cA) A ad R (ze_X cD (ze_M cA ad len (sp_run nr len σ p0).2))) A) [Value.ref (ad (20, 0, 0)), Value.int p0].toArray s 0 0 A) (F0 m 45 ls []) := by
          intro mm
          induction mm with
          | zero =>
            intro j k τ H locs ls hk hj hE hJ hP hD hS hl
            have hge : p0 ≤ k := by rw [hk, eN]; exact nI_le (by omega) (by omega)
            refine lv_iload_n hx hb dX3_run_45 rfl (lv_at hl 0 rfl) ?_
            refine lv_iload_n hx hb dX3_run_46 rfl (lv_at hl 2 rfl) ?_
            refine lv_icmp_ge (tgt := 113) hx hb dX3_run_47 (by decide) (fun c_4 => ?_) (fun c_4 => absurd hge c_4)
            refine lv_aload_n hx hb dX3_run_113 rfl (lv_at hl 1 rfl) ?_
            refine lv_iload_n hx hb dX3_run_114 rfl (lv_at hl 2 rfl) ?_
            refine zw_cV (r := (20, 0, 0)) (As := [.int p0]) (rest := []) (st1 := [.int p0]) ⟨hx, hb, hml, hown, hts⟩ (cm_done (σ := τ) hM p0) (cwV 1 hts gX3_run_X3_done rfl rfl rfl (by decide +kernel) ⟨Nat.le_of_ble_eq_true rfl, Nat.le_of_ble_eq_true rfl⟩) (hM 0 (by decide)) rfl rfl rfl hK hP hD hS hA hN rfl hl.1 rfl (Nat.le_of_ble_eq_true rfl) rfl dX3_run_115 ⟨Nat.zero_le _, Nat.zero_le _⟩ (fun H locs hP hD hS => ?_)
            exact zw_iret hx hb hr hlk hK hP hD hS dX3_run_118 (by rw [hE]; simp only [sp_rl, sp_tk, sp_01, sp_12, sp_23, sp_88, sp_28, sp_mv_8, hJ.2.2, ↓reduceIte]; rw [hk, show j = p0.toNatClampNeg by omega, ← eN]) (by rw [hE]; simp only [sp_rl, sp_tk, sp_01, sp_12, sp_23, sp_88, sp_28, sp_mv_8, hJ.2.2, ↓reduceIte] <;> rfl)
          | succ mm ih =>
            intro j k τ H locs ls hk hj hE hJ hP hD hS hl
            have hlt : ¬ p0 ≤ k := by rw [hk, eN]; exact nI_ge (by omega) (by omega)
            refine lv_iload_n hx hb dX3_run_45 rfl (lv_at hl 0 rfl) ?_
            refine lv_iload_n hx hb dX3_run_46 rfl (lv_at hl 2 rfl) ?_
            refine lv_icmp_ge (tgt := 113) hx hb dX3_run_47 (by decide) (fun c_5 => absurd c_5 hlt) (fun c_5 => ?_)
            refine lv_iconst (v := 0) hx hb dX3_run_50 (by decide) ?_
            refine lv_istore_n (lv' := [(3, .int 0), (2, .int k), (0, .ref (ad (20, 0, 0))), (1, .int p0)]) hx hb dX3_run_51 rfl hl (by decide) rfl (fun ls hl => ?_)
            refine lv_iload_n hx hb dX3_run_52 rfl (lv_at hl 0 rfl) ?_
            refine lv_iconst (v := 4) hx hb dX3_run_53 (by decide) ?_
            refine lv_icmp_ge (tgt := 97) hx hb dX3_run_54 (by decide) (fun c_6 => absurd c_6 (by decide)) (fun c_6 => ?_)
            refine lv_aload_n hx hb dX3_run_57 rfl (lv_at hl 2 rfl) ?_
            refine lv_iload_n hx hb dX3_run_58 rfl (lv_at hl 0 rfl) ?_
            refine zw_cV (r := (20, 0, 0)) (As := [.int 0]) (rest := []) (st1 := [.int ((sp_mv nr len τ 0).1)]) ⟨hx, hb, hml, hown, hts⟩ (cm_act (σ := τ) hM hnr hlen 0 ⟨hJ.1, by decide⟩ (hJ.2.1 _ (by decide))) (cwV 1 hts gX3_run_X3_act rfl rfl rfl (by decide +kernel) ⟨Nat.le_of_ble_eq_true rfl, Nat.le_of_ble_eq_true rfl⟩) (hM 0 (by decide)) rfl rfl rfl hK hP hD hS hA hN rfl hl.1 rfl (Nat.le_of_ble_eq_true rfl) rfl dX3_run_59 ⟨Nat.zero_le _, Nat.zero_le _⟩ (fun H locs hP hD hS => ?_)
            refine lv_istore (lv' := [(4, .int ((sp_mv nr len τ 0).1)), (3, .int 0), (2, .int k), (0, .ref (ad (20, 0, 0))), (1, .int p0)]) hx hb dX3_run_62 hl (by decide) rfl (fun ls hl => ?_)
            refine lv_iload hx hb dX3_run_64 (lv_at hl 0 rfl) ?_
            refine lv_if_ne (tgt := 72) hx hb dX3_run_66 (by decide) (fun c_7 => ?_) (fun c_7 => ?_)
            · refine lv_aload_n hx hb dX3_run_72 rfl (lv_at hl 3 rfl) ?_
              refine lv_iload_n hx hb dX3_run_73 rfl (lv_at hl 1 rfl) ?_
              refine zw_putf (r := (20, 0, 0)) (v := .int 0) (C := RX3) (T := TX3) (N := 17) (ci := 3) hx hb hts hwX3 tyX3 tyX3_ok nmX3 hown hK hP hD hS (hM 0 (by decide)) rfl rfl 11 (by decide) (hts (.fieldLink RX3 32 "FourTrackDeckModel" "tripTrack" "I") (by decide +kernel)) (fun _ h9 => h9) rfl (ty := .int) (by decide +kernel) rfl rfl (Nat.le_of_ble_eq_true rfl) dX3_run_74 (cu1 := ze_X cD (ze_M cA ad len (sp_s (sp_mv nr len τ 0).2 (0, 0, 0) 7 0))) (zm_D rfl) (fun H locs hP hD hS => ?_)
              refine lv_aload_n hx hb dX3_run_77 rfl (lv_at hl 3 rfl) ?_
              refine lv_iload hx hb dX3_run_78 (lv_at hl 0 rfl) ?_
              refine zw_putf (r := (20, 0, 0)) (v := .int ((sp_mv nr len τ 0).1)) (C := RX3) (T := TX3) (N := 17) (ci := 3) hx hb hts hwX3 tyX3 tyX3_ok nmX3 hown hK hP hD hS (hM 0 (by decide)) rfl rfl 12 (by decide) (hts (.fieldLink RX3 96 "FourTrackDeckModel" "tripStatus" "I") (by decide +kernel)) (fun _ h9 => h9) rfl (ty := .int) (by decide +kernel) rfl rfl (Nat.le_of_ble_eq_true rfl) dX3_run_80 (cu1 := ze_X cD (ze_M cA ad len (sp_s (sp_s (sp_mv nr len τ 0).2 (0, 0, 0) 7 0) (0, 0, 0) 8 ((sp_mv nr len τ 0).1)))) (zm_D rfl) (fun H locs hP hD hS => ?_)
              refine lv_aload_n hx hb dX3_run_83 rfl (lv_at hl 3 rfl) ?_
              refine lv_iload hx hb dX3_run_84 (lv_at hl 0 rfl) ?_
              refine lv_iload_n hx hb dX3_run_86 rfl (lv_at hl 2 rfl) ?_
              refine zw_cV (r := (20, 0, 0)) (As := [.int ((sp_mv nr len τ 0).1), .int k]) (rest := []) (st1 := [.int k]) ⟨hx, hb, hml, hown, hts⟩ (cm_fails (σ := (sp_s (sp_s (sp_mv nr len τ 0).2 (0, 0, 0) 7 0) (0, 0, 0) 8 ((sp_mv nr len τ 0).1))) hM ((sp_mv nr len τ 0).1) k) (cwV 2 hts gX3_run_X3_fails rfl rfl rfl (by decide +kernel) ⟨Nat.le_of_ble_eq_true rfl, Nat.le_of_ble_eq_true rfl⟩) (hM 0 (by decide)) rfl rfl rfl hK hP hD hS hA hN rfl hl.1 rfl (Nat.le_of_ble_eq_true rfl) rfl dX3_run_87 ⟨Nat.zero_le _, Nat.zero_le _⟩ (fun H locs hP hD hS => ?_)
              exact zw_iret hx hb hr hlk hK hP hD hS dX3_run_90 (by rw [hE]; simp only [sp_rl, if_neg c_7, sp_tk, sp_01, sp_12, sp_23, sp_88, sp_28, sp_mv_8, hJ.2.2, ↓reduceIte] <;> rfl) (by rw [hE]; simp only [sp_rl, if_neg c_7, sp_tk, sp_01, sp_12, sp_23, sp_88, sp_28, sp_mv_8, hJ.2.2, ↓reduceIte] <;> rfl)
            · refine lv_goto (tgt := 91) hx hb dX3_run_69 (by decide) ?_
              refine lv_iinc (v := 1) (lv' := [(3, .int 1), (4, .int ((sp_mv nr len τ 0).1)), (2, .int k), (0, .ref (ad (20, 0, 0))), (1, .int p0)]) hx hb dX3_run_91 hl (k := 1) rfl rfl (by decide) rfl (fun ls hl => ?_)
              refine lv_goto (tgt := 52) hx hb dX3_run_94 (by decide) ?_
              refine lv_iload_n hx hb dX3_run_52 rfl (lv_at hl 0 rfl) ?_
              refine lv_iconst (v := 4) hx hb dX3_run_53 (by decide) ?_
              refine lv_icmp_ge (tgt := 97) hx hb dX3_run_54 (by decide) (fun c_8 => absurd c_8 (by decide)) (fun c_8 => ?_)
              refine lv_aload_n hx hb dX3_run_57 rfl (lv_at hl 3 rfl) ?_
              refine lv_iload_n hx hb dX3_run_58 rfl (lv_at hl 0 rfl) ?_
              refine zw_cV (r := (20, 0, 0)) (As := [.int 1]) (rest := []) (st1 := [.int ((sp_mv nr len (sp_mv nr len τ 0).2 1).1)]) ⟨hx, hb, hml, hown, hts⟩ (cm_act (σ := (sp_mv nr len τ 0).2) hM hnr hlen 1 ⟨(sp_J_mv hJ).1, by decide⟩ ((sp_J_mv hJ).2.1 _ (by decide))) (cwV 1 hts gX3_run_X3_act rfl rfl rfl (by decide +kernel) ⟨Nat.le_of_ble_eq_true rfl, Nat.le_of_ble_eq_true rfl⟩) (hM 0 (by decide)) rfl rfl rfl hK hP hD hS hA hN rfl hl.1 rfl (Nat.le_of_ble_eq_true rfl) rfl dX3_run_59 ⟨Nat.zero_le _, Nat.zero_le _⟩ (fun H locs hP hD hS => ?_)
              refine lv_istore (lv' := [(4, .int ((sp_mv nr len (sp_mv nr len τ 0).2 1).1)), (3, .int 1), (2, .int k), (0, .ref (ad (20, 0, 0))), (1, .int p0)]) hx hb dX3_run_62 hl (by decide) rfl (fun ls hl => ?_)
              refine lv_iload hx hb dX3_run_64 (lv_at hl 0 rfl) ?_
              refine lv_if_ne (tgt := 72) hx hb dX3_run_66 (by decide) (fun c_9 => ?_) (fun c_9 => ?_)
              · refine lv_aload_n hx hb dX3_run_72 rfl (lv_at hl 3 rfl) ?_
                refine lv_iload_n hx hb dX3_run_73 rfl (lv_at hl 1 rfl) ?_
                refine zw_putf (r := (20, 0, 0)) (v := .int 1) (C := RX3) (T := TX3) (N := 17) (ci := 3) hx hb hts hwX3 tyX3 tyX3_ok nmX3 hown hK hP hD hS (hM 0 (by decide)) rfl rfl 11 (by decide) (hts (.fieldLink RX3 32 "FourTrackDeckModel" "tripTrack" "I") (by decide +kernel)) (fun _ h9 => h9) rfl (ty := .int) (by decide +kernel) rfl rfl (Nat.le_of_ble_eq_true rfl) dX3_run_74 (cu1 := ze_X cD (ze_M cA ad len (sp_s (sp_mv nr len (sp_mv nr len τ 0).2 1).2 (0, 0, 0) 7 1))) (zm_D rfl) (fun H locs hP hD hS => ?_)
                refine lv_aload_n hx hb dX3_run_77 rfl (lv_at hl 3 rfl) ?_
                refine lv_iload hx hb dX3_run_78 (lv_at hl 0 rfl) ?_
                refine zw_putf (r := (20, 0, 0)) (v := .int ((sp_mv nr len (sp_mv nr len τ 0).2 1).1)) (C := RX3) (T := TX3) (N := 17) (ci := 3) hx hb hts hwX3 tyX3 tyX3_ok nmX3 hown hK hP hD hS (hM 0 (by decide)) rfl rfl 12 (by decide) (hts (.fieldLink RX3 96 "FourTrackDeckModel" "tripStatus" "I") (by decide +kernel)) (fun _ h9 => h9) rfl (ty := .int) (by decide +kernel) rfl rfl (Nat.le_of_ble_eq_true rfl) dX3_run_80 (cu1 := ze_X cD (ze_M cA ad len (sp_s (sp_s (sp_mv nr len (sp_mv nr len τ 0).2 1).2 (0, 0, 0) 7 1) (0, 0, 0) 8 ((sp_mv nr len (sp_mv nr len τ 0).2 1).1)))) (zm_D rfl) (fun H locs hP hD hS => ?_)
                refine lv_aload_n hx hb dX3_run_83 rfl (lv_at hl 3 rfl) ?_
                refine lv_iload hx hb dX3_run_84 (lv_at hl 0 rfl) ?_
                refine lv_iload_n hx hb dX3_run_86 rfl (lv_at hl 2 rfl) ?_
                refine zw_cV (r := (20, 0, 0)) (As := [.int ((sp_mv nr len (sp_mv nr len τ 0).2 1).1), .int k]) (rest := []) (st1 := [.int k]) ⟨hx, hb, hml, hown, hts⟩ (cm_fails (σ := (sp_s (sp_s (sp_mv nr len (sp_mv nr len τ 0).2 1).2 (0, 0, 0) 7 1) (0, 0, 0) 8 ((sp_mv nr len (sp_mv nr len τ 0).2 1).1))) hM ((sp_mv nr len (sp_mv nr len τ 0).2 1).1) k) (cwV 2 hts gX3_run_X3_fails rfl rfl rfl (by decide +kernel) ⟨Nat.le_of_ble_eq_true rfl, Nat.le_of_ble_eq_true rfl⟩) (hM 0 (by decide)) rfl rfl rfl hK hP hD hS hA hN rfl hl.1 rfl (Nat.le_of_ble_eq_true rfl) rfl dX3_run_87 ⟨Nat.zero_le _, Nat.zero_le _⟩ (fun H locs hP hD hS => ?_)
                exact zw_iret hx hb hr hlk hK hP hD hS dX3_run_90 (by rw [hE]; simp only [sp_rl, if_pos c_7, if_neg c_9, sp_tk, sp_01, sp_12, sp_23, sp_88, sp_28, sp_mv_8, hJ.2.2, ↓reduceIte] <;> rfl) (by rw [hE]; simp only [sp_rl, if_pos c_7, if_neg c_9, sp_tk, sp_01, sp_12, sp_23, sp_88, sp_28, sp_mv_8, hJ.2.2, ↓reduceIte] <;> rfl)
              · refine lv_goto (tgt := 91) hx hb dX3_run_69 (by decide) ?_
                refine lv_iinc (v := 2) (lv' := [(3, .int 2), (4, .int ((sp_mv nr len (sp_mv nr len τ 0).2 1).1)), (2, .int k), (0, .ref (ad (20, 0, 0))), (1, .int p0)]) hx hb dX3_run_91 hl (k := 1) rfl rfl (by decide) rfl (fun ls hl => ?_)
                refine lv_goto (tgt := 52) hx hb dX3_run_94 (by decide) ?_
                refine lv_iload_n hx hb dX3_run_52 rfl (lv_at hl 0 rfl) ?_
                refine lv_iconst (v := 4) hx hb dX3_run_53 (by decide) ?_
                refine lv_icmp_ge (tgt := 97) hx hb dX3_run_54 (by decide) (fun c_10 => absurd c_10 (by decide)) (fun c_10 => ?_)
                refine lv_aload_n hx hb dX3_run_57 rfl (lv_at hl 3 rfl) ?_
                refine lv_iload_n hx hb dX3_run_58 rfl (lv_at hl 0 rfl) ?_
                refine zw_cV (r := (20, 0, 0)) (As := [.int 2]) (rest := []) (st1 := [.int ((sp_mv nr len (sp_mv nr len (sp_mv nr len τ 0).2 1).2 2).1)]) ⟨hx, hb, hml, hown, hts⟩ (cm_act (σ := (sp_mv nr len (sp_mv nr len τ 0).2 1).2) hM hnr hlen 2 ⟨(sp_J_mv (sp_J_mv hJ)).1, by decide⟩ ((sp_J_mv (sp_J_mv hJ)).2.1 _ (by decide))) (cwV 1 hts gX3_run_X3_act rfl rfl rfl (by decide +kernel) ⟨Nat.le_of_ble_eq_true rfl, Nat.le_of_ble_eq_true rfl⟩) (hM 0 (by decide)) rfl rfl rfl hK hP hD hS hA hN rfl hl.1 rfl (Nat.le_of_ble_eq_true rfl) rfl dX3_run_59 ⟨Nat.zero_le _, Nat.zero_le _⟩ (fun H locs hP hD hS => ?_)
                refine lv_istore (lv' := [(4, .int ((sp_mv nr len (sp_mv nr len (sp_mv nr len τ 0).2 1).2 2).1)), (3, .int 2), (2, .int k), (0, .ref (ad (20, 0, 0))), (1, .int p0)]) hx hb dX3_run_62 hl (by decide) rfl (fun ls hl => ?_)
                refine lv_iload hx hb dX3_run_64 (lv_at hl 0 rfl) ?_
                refine lv_if_ne (tgt := 72) hx hb dX3_run_66 (by decide) (fun c_11 => ?_) (fun c_11 => ?_)
                · refine lv_aload_n hx hb dX3_run_72 rfl (lv_at hl 3 rfl) ?_
                  refine lv_iload_n hx hb dX3_run_73 rfl (lv_at hl 1 rfl) ?_
                  refine zw_putf (r := (20, 0, 0)) (v := .int 2) (C := RX3) (T := TX3) (N := 17) (ci := 3) hx hb hts hwX3 tyX3 tyX3_ok nmX3 hown hK hP hD hS (hM 0 (by decide)) rfl rfl 11 (by decide) (hts (.fieldLink RX3 32 "FourTrackDeckModel" "tripTrack" "I") (by decide +kernel)) (fun _ h9 => h9) rfl (ty := .int) (by decide +kernel) rfl rfl (Nat.le_of_ble_eq_true rfl) dX3_run_74 (cu1 := ze_X cD (ze_M cA ad len (sp_s (sp_mv nr len (sp_mv nr len (sp_mv nr len τ 0).2 1).2 2).2 (0, 0, 0) 7 2))) (zm_D rfl) (fun H locs hP hD hS => ?_)
                  refine lv_aload_n hx hb dX3_run_77 rfl (lv_at hl 3 rfl) ?_
                  refine lv_iload hx hb dX3_run_78 (lv_at hl 0 rfl) ?_
                  refine zw_putf (r := (20, 0, 0)) (v := .int ((sp_mv nr len (sp_mv nr len (sp_mv nr len τ 0).2 1).2 2).1)) (C := RX3) (T := TX3) (N := 17) (ci := 3) hx hb hts hwX3 tyX3 tyX3_ok nmX3 hown hK hP hD hS (hM 0 (by decide)) rfl rfl 12 (by decide) (hts (.fieldLink RX3 96 "FourTrackDeckModel" "tripStatus" "I") (by decide +kernel)) (fun _ h9 => h9) rfl (ty := .int) (by decide +kernel) rfl rfl (Nat.le_of_ble_eq_true rfl) dX3_run_80 (cu1 := ze_X cD (ze_M cA ad len (sp_s (sp_s (sp_mv nr len (sp_mv nr len (sp_mv nr len τ 0).2 1).2 2).2 (0, 0, 0) 7 2) (0, 0, 0) 8 ((sp_mv nr len (sp_mv nr len (sp_mv nr len τ 0).2 1).2 2).1)))) (zm_D rfl) (fun H locs hP hD hS => ?_)
                  refine lv_aload_n hx hb dX3_run_83 rfl (lv_at hl 3 rfl) ?_
                  refine lv_iload hx hb dX3_run_84 (lv_at hl 0 rfl) ?_
                  refine lv_iload_n hx hb dX3_run_86 rfl (lv_at hl 2 rfl) ?_
                  refine zw_cV (r := (20, 0, 0)) (As := [.int ((sp_mv nr len (sp_mv nr len (sp_mv nr len τ 0).2 1).2 2).1), .int k]) (rest := []) (st1 := [.int k]) ⟨hx, hb, hml, hown, hts⟩ (cm_fails (σ := (sp_s (sp_s (sp_mv nr len (sp_mv nr len (sp_mv nr len τ 0).2 1).2 2).2 (0, 0, 0) 7 2) (0, 0, 0) 8 ((sp_mv nr len (sp_mv nr len (sp_mv nr len τ 0).2 1).2 2).1))) hM ((sp_mv nr len (sp_mv nr len (sp_mv nr len τ 0).2 1).2 2).1) k) (cwV 2 hts gX3_run_X3_fails rfl rfl rfl (by decide +kernel) ⟨Nat.le_of_ble_eq_true rfl, Nat.le_of_ble_eq_true rfl⟩) (hM 0 (by decide)) rfl rfl rfl hK hP hD hS hA hN rfl hl.1 rfl (Nat.le_of_ble_eq_true rfl) rfl dX3_run_87 ⟨Nat.zero_le _, Nat.zero_le _⟩ (fun H locs hP hD hS => ?_)
                  exact zw_iret hx hb hr hlk hK hP hD hS dX3_run_90 (by rw [hE]; simp only [sp_rl, if_pos c_7, if_pos c_9, if_neg c_11, sp_tk, sp_01, sp_12, sp_23, sp_88, sp_28, sp_mv_8, hJ.2.2, ↓reduceIte] <;> rfl) (by rw [hE]; simp only [sp_rl, if_pos c_7, if_pos c_9, if_neg c_11, sp_tk, sp_01, sp_12, sp_23, sp_88, sp_28, sp_mv_8, hJ.2.2, ↓reduceIte] <;> rfl)
                · refine lv_goto (tgt := 91) hx hb dX3_run_69 (by decide) ?_
                  refine lv_iinc (v := 3) (lv' := [(3, .int 3), (4, .int ((sp_mv nr len (sp_mv nr len (sp_mv nr len τ 0).2 1).2 2).1)), (2, .int k), (0, .ref (ad (20, 0, 0))), (1, .int p0)]) hx hb dX3_run_91 hl (k := 1) rfl rfl (by decide) rfl (fun ls hl => ?_)
                  refine lv_goto (tgt := 52) hx hb dX3_run_94 (by decide) ?_
                  refine lv_iload_n hx hb dX3_run_52 rfl (lv_at hl 0 rfl) ?_
                  refine lv_iconst (v := 4) hx hb dX3_run_53 (by decide) ?_
                  refine lv_icmp_ge (tgt := 97) hx hb dX3_run_54 (by decide) (fun c_12 => absurd c_12 (by decide)) (fun c_12 => ?_)
                  refine lv_aload_n hx hb dX3_run_57 rfl (lv_at hl 3 rfl) ?_
                  refine lv_iload_n hx hb dX3_run_58 rfl (lv_at hl 0 rfl) ?_
                  refine zw_cV (r := (20, 0, 0)) (As := [.int 3]) (rest := []) (st1 := [.int ((sp_mv nr len (sp_mv nr len (sp_mv nr len (sp_mv nr len τ 0).2 1).2 2).2 3).1)]) ⟨hx, hb, hml, hown, hts⟩ (cm_act (σ := (sp_mv nr len (sp_mv nr len (sp_mv nr len τ 0).2 1).2 2).2) hM hnr hlen 3 ⟨(sp_J_mv (sp_J_mv (sp_J_mv hJ))).1, by decide⟩ ((sp_J_mv (sp_J_mv (sp_J_mv hJ))).2.1 _ (by decide))) (cwV 1 hts gX3_run_X3_act rfl rfl rfl (by decide +kernel) ⟨Nat.le_of_ble_eq_true rfl, Nat.le_of_ble_eq_true rfl⟩) (hM 0 (by decide)) rfl rfl rfl hK hP hD hS hA hN rfl hl.1 rfl (Nat.le_of_ble_eq_true rfl) rfl dX3_run_59 ⟨Nat.zero_le _, Nat.zero_le _⟩ (fun H locs hP hD hS => ?_)
                  refine lv_istore (lv' := [(4, .int ((sp_mv nr len (sp_mv nr len (sp_mv nr len (sp_mv nr len τ 0).2 1).2 2).2 3).1)), (3, .int 3), (2, .int k), (0, .ref (ad (20, 0, 0))), (1, .int p0)]) hx hb dX3_run_62 hl (by decide) rfl (fun ls hl => ?_)
                  refine lv_iload hx hb dX3_run_64 (lv_at hl 0 rfl) ?_
                  refine lv_if_ne (tgt := 72) hx hb dX3_run_66 (by decide) (fun c_13 => ?_) (fun c_13 => ?_)
                  · refine lv_aload_n hx hb dX3_run_72 rfl (lv_at hl 3 rfl) ?_
                    refine lv_iload_n hx hb dX3_run_73 rfl (lv_at hl 1 rfl) ?_
                    refine zw_putf (r := (20, 0, 0)) (v := .int 3) (C := RX3) (T := TX3) (N := 17) (ci := 3) hx hb hts hwX3 tyX3 tyX3_ok nmX3 hown hK hP hD hS (hM 0 (by decide)) rfl rfl 11 (by decide) (hts (.fieldLink RX3 32 "FourTrackDeckModel" "tripTrack" "I") (by decide +kernel)) (fun _ h9 => h9) rfl (ty := .int) (by decide +kernel) rfl rfl (Nat.le_of_ble_eq_true rfl) dX3_run_74 (cu1 := ze_X cD (ze_M cA ad len (sp_s (sp_mv nr len (sp_mv nr len (sp_mv nr len (sp_mv nr len τ 0).2 1).2 2).2 3).2 (0, 0, 0) 7 3))) (zm_D rfl) (fun H locs hP hD hS => ?_)
                    refine lv_aload_n hx hb dX3_run_77 rfl (lv_at hl 3 rfl) ?_
                    refine lv_iload hx hb dX3_run_78 (lv_at hl 0 rfl) ?_
                    refine zw_putf (r := (20, 0, 0)) (v := .int ((sp_mv nr len (sp_mv nr len (sp_mv nr len (sp_mv nr len τ 0).2 1).2 2).2 3).1)) (C := RX3) (T := TX3) (N := 17) (ci := 3) hx hb hts hwX3 tyX3 tyX3_ok nmX3 hown hK hP hD hS (hM 0 (by decide)) rfl rfl 12 (by decide) (hts (.fieldLink RX3 96 "FourTrackDeckModel" "tripStatus" "I") (by decide +kernel)) (fun _ h9 => h9) rfl (ty := .int) (by decide +kernel) rfl rfl (Nat.le_of_ble_eq_true rfl) dX3_run_80 (cu1 := ze_X cD (ze_M cA ad len (sp_s (sp_s (sp_mv nr len (sp_mv nr len (sp_mv nr len (sp_mv nr len τ 0).2 1).2 2).2 3).2 (0, 0, 0) 7 3) (0, 0, 0) 8 ((sp_mv nr len (sp_mv nr len (sp_mv nr len (sp_mv nr len τ 0).2 1).2 2).2 3).1)))) (zm_D rfl) (fun H locs hP hD hS => ?_)
                    refine lv_aload_n hx hb dX3_run_83 rfl (lv_at hl 3 rfl) ?_
                    refine lv_iload hx hb dX3_run_84 (lv_at hl 0 rfl) ?_
                    refine lv_iload_n hx hb dX3_run_86 rfl (lv_at hl 2 rfl) ?_
                    refine zw_cV (r := (20, 0, 0)) (As := [.int ((sp_mv nr len (sp_mv nr len (sp_mv nr len (sp_mv nr len τ 0).2 1).2 2).2 3).1), .int k]) (rest := []) (st1 := [.int k]) ⟨hx, hb, hml, hown, hts⟩ (cm_fails (σ := (sp_s (sp_s (sp_mv nr len (sp_mv nr len (sp_mv nr len (sp_mv nr len τ 0).2 1).2 2).2 3).2 (0, 0, 0) 7 3) (0, 0, 0) 8 ((sp_mv nr len (sp_mv nr len (sp_mv nr len (sp_mv nr len τ 0).2 1).2 2).2 3).1))) hM ((sp_mv nr len (sp_mv nr len (sp_mv nr len (sp_mv nr len τ 0).2 1).2 2).2 3).1) k) (cwV 2 hts gX3_run_X3_fails rfl rfl rfl (by decide +kernel) ⟨Nat.le_of_ble_eq_true rfl, Nat.le_of_ble_eq_true rfl⟩) (hM 0 (by decide)) rfl rfl rfl hK hP hD hS hA hN rfl hl.1 rfl (Nat.le_of_ble_eq_true rfl) rfl dX3_run_87 ⟨Nat.zero_le _, Nat.zero_le _⟩ (fun H locs hP hD hS => ?_)
                    exact zw_iret hx hb hr hlk hK hP hD hS dX3_run_90 (by rw [hE]; simp only [sp_rl, if_pos c_7, if_pos c_9, if_pos c_11, if_neg c_13, sp_tk, sp_01, sp_12, sp_23, sp_88, sp_28, sp_mv_8, hJ.2.2, ↓reduceIte] <;> rfl) (by rw [hE]; simp only [sp_rl, if_pos c_7, if_pos c_9, if_pos c_11, if_neg c_13, sp_tk, sp_01, sp_12, sp_23, sp_88, sp_28, sp_mv_8, hJ.2.2, ↓reduceIte] <;> rfl)
                  · refine lv_goto (tgt := 91) hx hb dX3_run_69 (by decide) ?_
                    refine lv_iinc (v := 4) (lv' := [(3, .int 4), (4, .int ((sp_mv nr len (sp_mv nr len (sp_mv nr len (sp_mv nr len τ 0).2 1).2 2).2 3).1)), (2, .int k), (0, .ref (ad (20, 0, 0))), (1, .int p0)]) hx hb dX3_run_91 hl (k := 1) rfl rfl (by decide) rfl (fun ls hl => ?_)
                    refine lv_goto (tgt := 52) hx hb dX3_run_94 (by decide) ?_
                    refine lv_iload_n hx hb dX3_run_52 rfl (lv_at hl 0 rfl) ?_
                    refine lv_iconst (v := 4) hx hb dX3_run_53 (by decide) ?_
                    refine lv_icmp_ge (tgt := 97) hx hb dX3_run_54 (by decide) (fun c_14 => ?_) (fun c_14 => absurd (by decide) c_14)
                    refine lv_aload_n hx hb dX3_run_97 rfl (lv_at hl 3 rfl) ?_
                    refine lv_dup hx hb dX3_run_98 rfl ?_
                    refine zw_getf (r := (20, 0, 0)) (v := .int ((sp_mv nr len (sp_mv nr len (sp_mv nr len (sp_mv nr len τ 0).2 1).2 2).2 3).2 (0, 0, 0) 2)) (C := RX3) (T := TX3) (N := 17) (ci := 3) hx hb hts hwX3 hown hK hP (hM 0 (by decide)) rfl rfl 5 (by decide) (hts (.fieldLink RX3 56 "FourTrackDeckModel" "p" "I") (by decide +kernel)) (fun _ h9 => h9) rfl dX3_run_99 ?_
                    refine lv_iconst (v := 1) hx hb dX3_run_102 (by decide) ?_
                    refine lv_iadd hx hb dX3_run_103 ?_
                    refine zw_putf (r := (20, 0, 0)) (v := .int (((sp_mv nr len (sp_mv nr len (sp_mv nr len (sp_mv nr len τ 0).2 1).2 2).2 3).2 (0, 0, 0) 2) + 1)) (C := RX3) (T := TX3) (N := 17) (ci := 3) hx hb hts hwX3 tyX3 tyX3_ok nmX3 hown hK hP hD hS (hM 0 (by decide)) rfl rfl 5 (by decide) (hts (.fieldLink RX3 56 "FourTrackDeckModel" "p" "I") (by decide +kernel)) (fun _ h9 => h9) rfl (ty := .int) (by decide +kernel) rfl rfl (Nat.le_of_ble_eq_true rfl) dX3_run_104 (cu1 := ze_X cD (ze_M cA ad len (sp_s (sp_mv nr len (sp_mv nr len (sp_mv nr len (sp_mv nr len τ 0).2 1).2 2).2 3).2 (0, 0, 0) 2 (((sp_mv nr len (sp_mv nr len (sp_mv nr len (sp_mv nr len τ 0).2 1).2 2).2 3).2 (0, 0, 0) 2) + 1)))) (zm_D rfl) (fun H locs hP hD hS => ?_)
                    refine lv_iinc (v := (k + 1)) (lv' := [(2, .int (k + 1)), (3, .int 4), (4, .int ((sp_mv nr len (sp_mv nr len (sp_mv nr len (sp_mv nr len τ 0).2 1).2 2).2 3).1)), (0, .ref (ad (20, 0, 0))), (1, .int p0)]) hx hb dX3_run_107 hl (k := 2) rfl rfl (by decide) rfl (fun ls hl => ?_)
                    refine lv_goto (tgt := 45) hx hb dX3_run_110 (by decide) ?_
                    exact ih (j + 1) (k + 1) (sp_s (sp_mv nr len (sp_mv nr len (sp_mv nr len (sp_mv nr len τ 0).2 1).2 2).2 3).2 (0, 0, 0) 2 (((sp_mv nr len (sp_mv nr len (sp_mv nr len (sp_mv nr len τ 0).2 1).2 2).2 3).2 (0, 0, 0) 2) + 1)) _ _ _ (by rw [hk, nI_1]) (by omega) (hE.trans (by simp only [sp_rl, if_pos c_7, if_pos c_9, if_pos c_11, if_pos c_13, sp_tk, sp_01, sp_12, sp_23, sp_88, sp_28, sp_mv_8, hJ.2.2, ↓reduceIte] <;> rfl)) (sp_J_p (sp_J_mv (sp_J_mv (sp_J_mv (sp_J_mv hJ))))) hP hD hS (lv_sub hl [0, 3, 4] rfl)
        exact key p0.toNatClampNeg 0 0 (sp_s (sp_s σ (0, 0, 0) 7 (-1)) (0, 0, 0) 8 0) _ _ _ nI_0.symm (by omega) (by simp only [sp_run, if_neg c_1, if_pos c_2, if_neg c_3, if_pos (show sp_w p0 1 100 from ⟨Int32.not_lt.mp c_1, c_2⟩)] <;> rfl) ⟨hod.resolve_left c_3, hmo, rfl⟩ hP hD hS hl
      · refine lv_aload_n hx hb dX3_run_26 rfl (lv_at hl 0 rfl) ?_
        refine lv_iconst (v := 5) hx hb dX3_run_27 (by decide) ?_
        refine lv_iconst (v := 0) hx hb dX3_run_28 (by decide) ?_
        refine zw_cV (r := (20, 0, 0)) (As := [.int 5, .int 0]) (rest := []) (st1 := [.int 0]) ⟨hx, hb, hml, hown, hts⟩ (cm_fails (σ := σ) hM 5 0) (cwV 2 hts gX3_run_X3_fails rfl rfl rfl (by decide +kernel) ⟨Nat.le_of_ble_eq_true rfl, Nat.le_of_ble_eq_true rfl⟩) (hM 0 (by decide)) rfl rfl rfl hK hP hD hS hA hN rfl hl.1 rfl (Nat.le_of_ble_eq_true rfl) rfl dX3_run_29 ⟨Nat.zero_le _, Nat.zero_le _⟩ (fun H locs hP hD hS => ?_)
        exact zw_iret hx hb hr hlk hK hP hD hS dX3_run_32 (by simp only [sp_run, if_pos (show sp_w p0 1 100 from ⟨Int32.not_lt.mp c_1, c_2⟩), if_neg c_1, if_pos c_2, if_pos c_3, ite_self] <;> rfl) (by simp only [sp_run, if_pos (show sp_w p0 1 100 from ⟨Int32.not_lt.mp c_1, c_2⟩), if_neg c_1, if_pos c_2, if_pos c_3, ite_self] <;> rfl)
    · refine lv_aload_n hx hb dX3_run_11 rfl (lv_at hl 0 rfl) ?_
      refine lv_iconst (v := 1) hx hb dX3_run_12 (by decide) ?_
      refine lv_iconst (v := 0) hx hb dX3_run_13 (by decide) ?_
      refine zw_cV (r := (20, 0, 0)) (As := [.int 1, .int 0]) (rest := []) (st1 := [.int 0]) ⟨hx, hb, hml, hown, hts⟩ (cm_fails (σ := σ) hM 1 0) (cwV 2 hts gX3_run_X3_fails rfl rfl rfl (by decide +kernel) ⟨Nat.le_of_ble_eq_true rfl, Nat.le_of_ble_eq_true rfl⟩) (hM 0 (by decide)) rfl rfl rfl hK hP hD hS hA hN rfl hl.1 rfl (Nat.le_of_ble_eq_true rfl) rfl dX3_run_14 ⟨Nat.zero_le _, Nat.zero_le _⟩ (fun H locs hP hD hS => ?_)
      exact zw_iret hx hb hr hlk hK hP hD hS dX3_run_17 (by simp only [sp_run, if_neg (show ¬ sp_w p0 1 100 from fun q => c_2 q.2), if_neg c_1, if_neg c_2, ite_self] <;> rfl) (by simp only [sp_run, if_neg (show ¬ sp_w p0 1 100 from fun q => c_2 q.2), if_neg c_1, if_neg c_2, ite_self] <;> rfl)
set_option maxHeartbeats 4000000 in
set_option maxRecDepth 100000 in
theorem cm_dub {l : Launch} {dC : Nat → ClassId} {dI : Nat → Nat → Nat} {cA : Nat → ClassId} {ad : zw_R → Nat} {R : List zw_R} {nr : Nat} {len : Nat → Nat} {σ : sp_S} {cD : zw_R → va_E} (hM : zm_R R) (hnr : nr ≤ 8) (hlen : ∀ i, i < nr → len i ≤ 64) (hI0 : σ (0, 0, 0) 0 = nI nr) (p0 p1 p2 p3 p4 p5 : Int32) : zw_M l yX3_dub wsX3_dub { frames := 2, cells := 0, slots := 0, locals := 45 } (ze_E dC dI cA) [.ref (ad (20, 0, 0)), .int p0, .int p1, .int p2, .int p3, .int p4, .int p5] ad R (ze_X cD (ze_M cA ad len σ)) (some (.int ((sp_dub nr len σ p0 p1 p2 p3 p4 p5).1))) (ze_X cD (ze_M cA ad len (sp_dub nr len σ p0 p1 p2 p3 p4 p5).2)) := by
  refine zw_body (cc := cX3_dub) (maxL := 9) (ret := (some .int)) (by decide) rfl (Nat.le_of_ble_eq_true rfl) ?_
  intro p e s m below meth c A ls hx hb hr hlk hml hts hown hnm hA hK hP hD hS hN hl
  have hl : lv_has ls 9 [(0, .ref (ad (20, 0, 0))), (1, .int p0), (2, .int p1), (3, .int p2), (4, .int p3), (5, .int p4), (6, .int p5)] := hl
  have hwX3 : ∀ w ∈ u_ws RX3 TX3 17, w ∈ wsX3_dub := by decide +kernel
  refine lv_aload_n hx hb dX3_dub_0 rfl (lv_at hl 0 rfl) ?_
  refine lv_iload_n hx hb dX3_dub_1 rfl (lv_at hl 1 rfl) ?_
  rcases Decidable.em (sp_r nr p0) with h_1 | h_1
  · refine zw_cV (r := (20, 0, 0)) (As := [.int p0]) (rest := []) (st1 := [.int 1]) ⟨hx, hb, hml, hown, hts⟩ (cm_isReel_1 (σ := σ) hM hI0 p0 h_1) (cwV 1 hts gX3_dub_X3_isReel rfl rfl rfl (by decide +kernel) ⟨Nat.le_of_ble_eq_true rfl, Nat.le_of_ble_eq_true rfl⟩) (hM 0 (by decide)) rfl rfl rfl hK hP hD hS hA hN rfl hl.1 rfl (Nat.le_of_ble_eq_true rfl) rfl dX3_dub_2 ⟨Nat.zero_le _, Nat.zero_le _⟩ (fun H locs hP hD hS => ?_)
    refine lv_if_eq (tgt := 46) hx hb dX3_dub_5 (by decide) (fun c_2 => absurd c_2 (by decide)) (fun c_2 => ?_)
    refine lv_aload_n hx hb dX3_dub_8 rfl (lv_at hl 0 rfl) ?_
    refine lv_iload_n hx hb dX3_dub_9 rfl (lv_at hl 2 rfl) ?_
    rcases Decidable.em (sp_t p1) with h_3 | h_3
    · refine zw_cV (r := (20, 0, 0)) (As := [.int p1]) (rest := []) (st1 := [.int 1]) ⟨hx, hb, hml, hown, hts⟩ (cm_isTrack_1 (σ := σ) p1 h_3) (cwV 1 hts gX3_dub_X3_isTrack rfl rfl rfl (by decide +kernel) ⟨Nat.le_of_ble_eq_true rfl, Nat.le_of_ble_eq_true rfl⟩) (hM 0 (by decide)) rfl rfl rfl hK hP hD hS hA hN rfl hl.1 rfl (Nat.le_of_ble_eq_true rfl) rfl dX3_dub_10 ⟨Nat.zero_le _, Nat.zero_le _⟩ (fun H locs hP hD hS => ?_)
      refine lv_if_eq (tgt := 46) hx hb dX3_dub_13 (by decide) (fun c_4 => absurd c_4 (by decide)) (fun c_4 => ?_)
      refine lv_iload hx hb dX3_dub_16 (lv_at hl 4 rfl) ?_
      refine lv_if_lt (tgt := 46) hx hb dX3_dub_18 (by decide) (fun c_5 => ?_) (fun c_5 => ?_)
      · refine lv_aload_n hx hb dX3_dub_46 rfl (lv_at hl 0 rfl) ?_
        refine lv_iconst (v := 1) hx hb dX3_dub_47 (by decide) ?_
        refine lv_iconst (v := 0) hx hb dX3_dub_48 (by decide) ?_
        refine zw_cV (r := (20, 0, 0)) (As := [.int 1, .int 0]) (rest := []) (st1 := [.int 0]) ⟨hx, hb, hml, hown, hts⟩ (cm_fails (σ := σ) hM 1 0) (cwV 2 hts gX3_dub_X3_fails rfl rfl rfl (by decide +kernel) ⟨Nat.le_of_ble_eq_true rfl, Nat.le_of_ble_eq_true rfl⟩) (hM 0 (by decide)) rfl rfl rfl hK hP hD hS hA hN rfl hl.1 rfl (Nat.le_of_ble_eq_true rfl) rfl dX3_dub_49 ⟨Nat.zero_le _, Nat.zero_le _⟩ (fun H locs hP hD hS => ?_)
        exact zw_iret hx hb hr hlk hK hP hD hS dX3_dub_52 (by simp only [sp_dub, if_pos (show sp_v nr p0 p1 from ⟨h_1, h_3⟩), if_neg (show ¬ sp_w p3 0 64 from fun q => Int32.not_lt.mpr q.1 c_5), if_pos h_1, if_pos h_3, if_pos c_5, ite_self] <;> rfl) (by simp only [sp_dub, if_pos (show sp_v nr p0 p1 from ⟨h_1, h_3⟩), if_neg (show ¬ sp_w p3 0 64 from fun q => Int32.not_lt.mpr q.1 c_5), if_pos h_1, if_pos h_3, if_pos c_5, ite_self] <;> rfl)
      · refine lv_iload hx hb dX3_dub_21 (lv_at hl 4 rfl) ?_
        refine lv_bipush (v := 64) hx hb dX3_dub_23 (by decide) ?_
        refine lv_icmp_gt (tgt := 46) hx hb dX3_dub_25 (by decide) (fun c_6 => ?_) (fun c_6 => ?_)
        · refine lv_aload_n hx hb dX3_dub_46 rfl (lv_at hl 0 rfl) ?_
          refine lv_iconst (v := 1) hx hb dX3_dub_47 (by decide) ?_
          refine lv_iconst (v := 0) hx hb dX3_dub_48 (by decide) ?_
          refine zw_cV (r := (20, 0, 0)) (As := [.int 1, .int 0]) (rest := []) (st1 := [.int 0]) ⟨hx, hb, hml, hown, hts⟩ (cm_fails (σ := σ) hM 1 0) (cwV 2 hts gX3_dub_X3_fails rfl rfl rfl (by decide +kernel) ⟨Nat.le_of_ble_eq_true rfl, Nat.le_of_ble_eq_true rfl⟩) (hM 0 (by decide)) rfl rfl rfl hK hP hD hS hA hN rfl hl.1 rfl (Nat.le_of_ble_eq_true rfl) rfl dX3_dub_49 ⟨Nat.zero_le _, Nat.zero_le _⟩ (fun H locs hP hD hS => ?_)
          exact zw_iret hx hb hr hlk hK hP hD hS dX3_dub_52 (by simp only [sp_dub, if_pos (show sp_v nr p0 p1 from ⟨h_1, h_3⟩), if_neg (show ¬ sp_w p3 0 64 from fun q => Int32.not_lt.mpr q.2 c_6), if_pos h_1, if_pos h_3, if_neg c_5, if_pos c_6, ite_self] <;> rfl) (by simp only [sp_dub, if_pos (show sp_v nr p0 p1 from ⟨h_1, h_3⟩), if_neg (show ¬ sp_w p3 0 64 from fun q => Int32.not_lt.mpr q.2 c_6), if_pos h_1, if_pos h_3, if_neg c_5, if_pos c_6, ite_self] <;> rfl)
        · refine lv_aload_n hx hb dX3_dub_28 rfl (lv_at hl 0 rfl) ?_
          refine lv_iload hx hb dX3_dub_29 (lv_at hl 5 rfl) ?_
          rcases Decidable.em (sp_r nr p4) with h_7 | h_7
          · refine zw_cV (r := (20, 0, 0)) (As := [.int p4]) (rest := []) (st1 := [.int 1]) ⟨hx, hb, hml, hown, hts⟩ (cm_isReel_1 (σ := σ) hM hI0 p4 h_7) (cwV 1 hts gX3_dub_X3_isReel rfl rfl rfl (by decide +kernel) ⟨Nat.le_of_ble_eq_true rfl, Nat.le_of_ble_eq_true rfl⟩) (hM 0 (by decide)) rfl rfl rfl hK hP hD hS hA hN rfl hl.1 rfl (Nat.le_of_ble_eq_true rfl) rfl dX3_dub_31 ⟨Nat.zero_le _, Nat.zero_le _⟩ (fun H locs hP hD hS => ?_)
            refine lv_if_eq (tgt := 46) hx hb dX3_dub_34 (by decide) (fun c_8 => absurd c_8 (by decide)) (fun c_8 => ?_)
            refine lv_aload_n hx hb dX3_dub_37 rfl (lv_at hl 0 rfl) ?_
            refine lv_iload hx hb dX3_dub_38 (lv_at hl 6 rfl) ?_
            rcases Decidable.em (sp_t p5) with h_9 | h_9
            · refine zw_cV (r := (20, 0, 0)) (As := [.int p5]) (rest := []) (st1 := [.int 1]) ⟨hx, hb, hml, hown, hts⟩ (cm_isTrack_1 (σ := σ) p5 h_9) (cwV 1 hts gX3_dub_X3_isTrack rfl rfl rfl (by decide +kernel) ⟨Nat.le_of_ble_eq_true rfl, Nat.le_of_ble_eq_true rfl⟩) (hM 0 (by decide)) rfl rfl rfl hK hP hD hS hA hN rfl hl.1 rfl (Nat.le_of_ble_eq_true rfl) rfl dX3_dub_40 ⟨Nat.zero_le _, Nat.zero_le _⟩ (fun H locs hP hD hS => ?_)
              refine lv_if_ne (tgt := 53) hx hb dX3_dub_43 (by decide) (fun c_10 => ?_) (fun c_10 => absurd c_10 (by decide))
              refine lv_iconst (v := 0) hx hb dX3_dub_53 (by decide) ?_
              refine lv_istore (lv' := [(7, .int 0), (0, .ref (ad (20, 0, 0))), (1, .int p0), (2, .int p1), (3, .int p2), (4, .int p3), (5, .int p4), (6, .int p5)]) hx hb dX3_dub_54 hl (by decide) rfl (fun ls hl => ?_)
              have h0 : (0 : Int32) ≤ p3 := Int32.not_lt.mp c_5
              have eN : p3 = nI p3.toNatClampNeg := (ze_nn h0).symm
              have hNb := ze_nb (n := 64) rfl h0 (Int32.not_lt.mp c_6)
              have key : ∀ (mm j : Nat) (k : Int32) (τ : sp_S) (H : Heap) (locs : List Loc) (ls : Array Slot), k = nI j → j + mm = p3.toNatClampNeg → sp_dub nr len σ p0 p1 p2 p3 p4 p5 = sp_dl len p0.toNatClampNeg p1.toNatClampNeg p2 p4.toNatClampNeg p5.toNatClampNeg mm k τ → va_P (ze_E dC dI cA).1 (ze_E dC dI cA).2.1 (zw_l ad R (ze_X cD (ze_M cA ad len τ))) H → va_D A (zw_l ad R (ze_X cD (ze_M cA ad len τ))) → va_S A s.heap H locs → lv_has ls 9 [(7, .int k), (0, .ref (ad (20, 0, 0))), (1, .int p0), (2, .int p1), (3, .int p2), (4, .int p3), (5, .int p4), (6, .int p5)] → W p l e ({ frames := 2, cells := 0, slots := 0, locals := 45 } : Room) s m [Value.ref (ad (20, 0, 0)), Value.int p0, Value.int p1, Value.int p2, Value.int p3, Value.int p4, Value.int p5].toArray below meth c H locs 0 0 (MQ below (zw_Q (some (.int (sp_dub nr len σ p0 p1 p2 p3 p4 p5).1)) (zw_B (ze_E dC dI cA) A ad R (ze_X cD (ze_M cA ad len (sp_dub nr len σ p0 p1 p2 p3 p4 p5).2))) A) [Value.ref (ad (20, 0, 0)), Value.int p0, Value.int p1, Value.int p2, Value.int p3, Value.int p4, Value.int p5].toArray s 0 0 A) (F0 m 56 ls []) := by
                intro mm
                induction mm with
                | zero =>
                  intro j k τ H locs ls hk hj hE hP hD hS hl
                  have hge : p3 ≤ k := by rw [hk, eN]; exact nI_le (by omega) (by omega)
                  refine lv_iload hx hb dX3_dub_56 (lv_at hl 0 rfl) ?_
                  refine lv_iload hx hb dX3_dub_58 (lv_at hl 5 rfl) ?_
                  refine lv_icmp_ge (tgt := 158) hx hb dX3_dub_60 (by decide) (fun c_11 => ?_) (fun c_11 => absurd hge c_11)
                  refine lv_aload_n hx hb dX3_dub_158 rfl (lv_at hl 1 rfl) ?_
                  refine lv_iload hx hb dX3_dub_159 (lv_at hl 5 rfl) ?_
                  refine zw_cV (r := (20, 0, 0)) (As := [.int p3]) (rest := []) (st1 := [.int p3]) ⟨hx, hb, hml, hown, hts⟩ (cm_done (σ := τ) hM p3) (cwV 1 hts gX3_dub_X3_done rfl rfl rfl (by decide +kernel) ⟨Nat.le_of_ble_eq_true rfl, Nat.le_of_ble_eq_true rfl⟩) (hM 0 (by decide)) rfl rfl rfl hK hP hD hS hA hN rfl hl.1 rfl (Nat.le_of_ble_eq_true rfl) rfl dX3_dub_161 ⟨Nat.zero_le _, Nat.zero_le _⟩ (fun H locs hP hD hS => ?_)
                  exact zw_iret hx hb hr hlk hK hP hD hS dX3_dub_164 (by rw [hE]; simp only [sp_dl, sp_n, sp_put]; rw [hk, show j = p3.toNatClampNeg by omega, ← eN]) (by rw [hE]; simp only [sp_dl, sp_n, sp_put] <;> rfl)
                | succ mm ih =>
                  intro j k τ H locs ls hk hj hE hP hD hS hl
                  have hlt : ¬ p3 ≤ k := by rw [hk, eN]; exact nI_ge (by omega) (by omega)
                  refine lv_iload hx hb dX3_dub_56 (lv_at hl 0 rfl) ?_
                  refine lv_iload hx hb dX3_dub_58 (lv_at hl 5 rfl) ?_
                  refine lv_icmp_ge (tgt := 158) hx hb dX3_dub_60 (by decide) (fun c_12 => absurd c_12 hlt) (fun c_12 => ?_)
                  refine lv_aload_n hx hb dX3_dub_63 rfl (lv_at hl 1 rfl) ?_
                  refine lv_iload_n hx hb dX3_dub_64 rfl (lv_at hl 2 rfl) ?_
                  refine lv_iload_n hx hb dX3_dub_65 rfl (lv_at hl 3 rfl) ?_
                  refine lv_iload_n hx hb dX3_dub_66 rfl (lv_at hl 4 rfl) ?_
                  refine lv_iload hx hb dX3_dub_67 (lv_at hl 0 rfl) ?_
                  refine lv_iadd hx hb dX3_dub_69 ?_
                  refine zw_cV (r := (20, 0, 0)) (As := [.int p0, .int p1, .int (p2 + k)]) (rest := []) (st1 := [.int (sp_f len τ p0.toNatClampNeg p1.toNatClampNeg (p2 + k))]) ⟨hx, hb, hml, hown, hts⟩ (cm_fault (σ := τ) hM hnr p0 p1 (p2 + k) h_1 h_3) (cwV 3 hts gX3_dub_X3_fault rfl rfl rfl (by decide +kernel) ⟨Nat.le_of_ble_eq_true rfl, Nat.le_of_ble_eq_true rfl⟩) (hM 0 (by decide)) rfl rfl rfl hK hP hD hS hA hN rfl hl.1 rfl (Nat.le_of_ble_eq_true rfl) rfl dX3_dub_70 ⟨Nat.zero_le _, Nat.zero_le _⟩ (fun H locs hP hD hS => ?_)
                  refine lv_istore (lv' := [(8, .int (sp_f len τ p0.toNatClampNeg p1.toNatClampNeg (p2 + k))), (7, .int k), (0, .ref (ad (20, 0, 0))), (1, .int p0), (2, .int p1), (3, .int p2), (4, .int p3), (5, .int p4), (6, .int p5)]) hx hb dX3_dub_73 hl (by decide) rfl (fun ls hl => ?_)
                  refine lv_iload hx hb dX3_dub_75 (lv_at hl 0 rfl) ?_
                  refine lv_if_ne (tgt := 97) hx hb dX3_dub_77 (by decide) (fun c_13 => ?_) (fun c_13 => ?_)
                  · refine lv_iload hx hb dX3_dub_97 (lv_at hl 0 rfl) ?_
                    refine lv_if_eq (tgt := 111) hx hb dX3_dub_99 (by decide) (fun c_14 => absurd c_14 c_13) (fun c_14 => ?_)
                    refine lv_aload_n hx hb dX3_dub_102 rfl (lv_at hl 2 rfl) ?_
                    refine lv_iload hx hb dX3_dub_103 (lv_at hl 0 rfl) ?_
                    refine lv_iload hx hb dX3_dub_105 (lv_at hl 1 rfl) ?_
                    refine zw_cV (r := (20, 0, 0)) (As := [.int (sp_f len τ p0.toNatClampNeg p1.toNatClampNeg (p2 + k)), .int k]) (rest := []) (st1 := [.int k]) ⟨hx, hb, hml, hown, hts⟩ (cm_fails (σ := τ) hM (sp_f len τ p0.toNatClampNeg p1.toNatClampNeg (p2 + k)) k) (cwV 2 hts gX3_dub_X3_fails rfl rfl rfl (by decide +kernel) ⟨Nat.le_of_ble_eq_true rfl, Nat.le_of_ble_eq_true rfl⟩) (hM 0 (by decide)) rfl rfl rfl hK hP hD hS hA hN rfl hl.1 rfl (Nat.le_of_ble_eq_true rfl) rfl dX3_dub_107 ⟨Nat.zero_le _, Nat.zero_le _⟩ (fun H locs hP hD hS => ?_)
                    exact zw_iret hx hb hr hlk hK hP hD hS dX3_dub_110 (by rw [hE]; simp only [sp_dl, if_neg c_13, sp_n, sp_put] <;> rfl) (by rw [hE]; simp only [sp_dl, if_neg c_13, sp_n, sp_put] <;> rfl)
                  · refine lv_aload_n hx hb dX3_dub_80 rfl (lv_at hl 2 rfl) ?_
                    refine lv_iload hx hb dX3_dub_81 (lv_at hl 7 rfl) ?_
                    refine lv_iload hx hb dX3_dub_83 (lv_at hl 8 rfl) ?_
                    refine lv_aload_n hx hb dX3_dub_85 rfl (lv_at hl 2 rfl) ?_
                    refine zw_getf (r := (20, 0, 0)) (v := .int (τ (0, 0, 0) 2)) (C := RX3) (T := TX3) (N := 17) (ci := 3) hx hb hts hwX3 hown hK hP (hM 0 (by decide)) rfl rfl 5 (by decide) (hts (.fieldLink RX3 56 "FourTrackDeckModel" "p" "I") (by decide +kernel)) (fun _ h9 => h9) rfl dX3_dub_86 ?_
                    refine lv_iload hx hb dX3_dub_89 (lv_at hl 1 rfl) ?_
                    refine lv_iadd hx hb dX3_dub_91 ?_
                    refine zw_cV (r := (20, 0, 0)) (As := [.int p4, .int p5, .int ((τ (0, 0, 0) 2) + k)]) (rest := []) (st1 := [.int (sp_f len τ p4.toNatClampNeg p5.toNatClampNeg ((τ (0, 0, 0) 2) + k))]) ⟨hx, hb, hml, hown, hts⟩ (cm_fault (σ := τ) hM hnr p4 p5 ((τ (0, 0, 0) 2) + k) h_7 h_9) (cwV 3 hts gX3_dub_X3_fault rfl rfl rfl (by decide +kernel) ⟨Nat.le_of_ble_eq_true rfl, Nat.le_of_ble_eq_true rfl⟩) (hM 0 (by decide)) rfl rfl rfl hK hP hD hS hA hN rfl hl.1 rfl (Nat.le_of_ble_eq_true rfl) rfl dX3_dub_92 ⟨Nat.zero_le _, Nat.zero_le _⟩ (fun H locs hP hD hS => ?_)
                    refine lv_istore (lv' := [(8, .int (sp_f len τ p4.toNatClampNeg p5.toNatClampNeg ((τ (0, 0, 0) 2) + k))), (7, .int k), (0, .ref (ad (20, 0, 0))), (1, .int p0), (2, .int p1), (3, .int p2), (4, .int p3), (5, .int p4), (6, .int p5)]) hx hb dX3_dub_95 hl (by decide) rfl (fun ls hl => ?_)
                    refine lv_iload hx hb dX3_dub_97 (lv_at hl 0 rfl) ?_
                    refine lv_if_eq (tgt := 111) hx hb dX3_dub_99 (by decide) (fun c_15 => ?_) (fun c_15 => ?_)
                    · refine lv_aload_n hx hb dX3_dub_111 rfl (lv_at hl 2 rfl) ?_
                      refine zw_getf (r := (20, 0, 0)) (v := .ref (ad (23, 0, 0))) (C := RX3) (T := TX3) (N := 17) (ci := 3) hx hb hts hwX3 hown hK hP (hM 0 (by decide)) rfl rfl 3 (by decide) (hts (.fieldLink RX3 16 "FourTrackDeckModel" "number" "[I") (by decide +kernel)) (fun _ h9 => h9) rfl dX3_dub_112 ?_
                      refine lv_aload_n hx hb dX3_dub_115 rfl (lv_at hl 2 rfl) ?_
                      refine lv_iload hx hb dX3_dub_116 (lv_at hl 7 rfl) ?_
                      refine lv_iload hx hb dX3_dub_118 (lv_at hl 8 rfl) ?_
                      refine lv_aload_n hx hb dX3_dub_120 rfl (lv_at hl 2 rfl) ?_
                      refine zw_getf (r := (20, 0, 0)) (v := .int (τ (0, 0, 0) 2)) (C := RX3) (T := TX3) (N := 17) (ci := 3) hx hb hts hwX3 hown hK hP (hM 0 (by decide)) rfl rfl 5 (by decide) (hts (.fieldLink RX3 56 "FourTrackDeckModel" "p" "I") (by decide +kernel)) (fun _ h9 => h9) rfl dX3_dub_121 ?_
                      refine lv_iload hx hb dX3_dub_124 (lv_at hl 1 rfl) ?_
                      refine lv_iadd hx hb dX3_dub_126 ?_
                      refine zw_cV (r := (20, 0, 0)) (As := [.int p4, .int p5, .int ((τ (0, 0, 0) 2) + k)]) (rest := [.ref (ad (23, 0, 0))]) (st1 := [.int ((4 * p4 + p5) * 64 + ((τ (0, 0, 0) 2) + k)), .ref (ad (23, 0, 0))]) ⟨hx, hb, hml, hown, hts⟩ (cm_at (σ := τ) p4 p5 ((τ (0, 0, 0) 2) + k)) (cwV 3 hts gX3_dub_X3_at rfl rfl rfl (by decide +kernel) ⟨Nat.le_of_ble_eq_true rfl, Nat.le_of_ble_eq_true rfl⟩) (hM 0 (by decide)) rfl rfl rfl hK hP hD hS hA hN rfl hl.1 rfl (Nat.le_of_ble_eq_true rfl) rfl dX3_dub_127 ⟨Nat.zero_le _, Nat.zero_le _⟩ (fun H locs hP hD hS => ?_)
                      refine lv_aload_n hx hb dX3_dub_130 rfl (lv_at hl 2 rfl) ?_
                      refine lv_iload hx hb dX3_dub_131 (lv_at hl 8 rfl) ?_
                      refine lv_aload_n hx hb dX3_dub_133 rfl (lv_at hl 2 rfl) ?_
                      refine zw_getf (r := (20, 0, 0)) (v := .ref (ad (23, 0, 0))) (C := RX3) (T := TX3) (N := 17) (ci := 3) hx hb hts hwX3 hown hK hP (hM 0 (by decide)) rfl rfl 3 (by decide) (hts (.fieldLink RX3 16 "FourTrackDeckModel" "number" "[I") (by decide +kernel)) (fun _ h9 => h9) rfl dX3_dub_134 ?_
                      refine lv_aload_n hx hb dX3_dub_137 rfl (lv_at hl 2 rfl) ?_
                      refine lv_iload_n hx hb dX3_dub_138 rfl (lv_at hl 3 rfl) ?_
                      refine lv_iload_n hx hb dX3_dub_139 rfl (lv_at hl 4 rfl) ?_
                      refine lv_iload_n hx hb dX3_dub_140 rfl (lv_at hl 5 rfl) ?_
                      refine lv_iload hx hb dX3_dub_141 (lv_at hl 1 rfl) ?_
                      refine lv_iadd hx hb dX3_dub_143 ?_
                      refine zw_cV (r := (20, 0, 0)) (As := [.int p0, .int p1, .int (p2 + k)]) (rest := [.ref (ad (23, 0, 0)), .int p5, .ref (ad (20, 0, 0)), .int ((4 * p4 + p5) * 64 + ((τ (0, 0, 0) 2) + k)), .ref (ad (23, 0, 0))]) (st1 := [.int ((4 * p0 + p1) * 64 + (p2 + k)), .ref (ad (23, 0, 0)), .int p5, .ref (ad (20, 0, 0)), .int ((4 * p4 + p5) * 64 + ((τ (0, 0, 0) 2) + k)), .ref (ad (23, 0, 0))]) ⟨hx, hb, hml, hown, hts⟩ (cm_at (σ := τ) p0 p1 (p2 + k)) (cwV 3 hts gX3_dub_X3_at rfl rfl rfl (by decide +kernel) ⟨Nat.le_of_ble_eq_true rfl, Nat.le_of_ble_eq_true rfl⟩) (hM 0 (by decide)) rfl rfl rfl hK hP hD hS hA hN rfl hl.1 rfl (Nat.le_of_ble_eq_true rfl) rfl dX3_dub_144 ⟨Nat.zero_le _, Nat.zero_le _⟩ (fun H locs hP hD hS => ?_)
                      refine zw_ialdv (r := (23, 0, 0)) (v := (τ (9, p0.toNatClampNeg, p1.toNatClampNeg) (p2 + k).toNatClampNeg)) hx hb hK hP (hM 3 (by decide)) 0 rfl rfl (zm_at h_1 hnr h_3 (ze_fi (hlen _ (ze_vr h_1 hnr)) c_13) (hlen _ (ze_vr h_1 hnr))).2.1 (zm_rd h_1 hnr h_3 (ze_fi (hlen _ (ze_vr h_1 hnr)) c_13) (hlen _ (ze_vr h_1 hnr))) dX3_dub_147 ?_
                      refine zw_cV (r := (20, 0, 0)) (As := [.int p5, .int (τ (9, p0.toNatClampNeg, p1.toNatClampNeg) (p2 + k).toNatClampNeg)]) (rest := [.int ((4 * p4 + p5) * 64 + ((τ (0, 0, 0) 2) + k)), .ref (ad (23, 0, 0))]) (st1 := [.int (sp_as p5.toNatClampNeg (τ (9, p0.toNatClampNeg, p1.toNatClampNeg) (p2 + k).toNatClampNeg)), .int ((4 * p4 + p5) * 64 + ((τ (0, 0, 0) 2) + k)), .ref (ad (23, 0, 0))]) ⟨hx, hb, hml, hown, hts⟩ (cm_fit (σ := τ) p5 (τ (9, p0.toNatClampNeg, p1.toNatClampNeg) (p2 + k).toNatClampNeg) h_9) (cwV 2 hts gX3_dub_X3_fit rfl rfl rfl (by decide +kernel) ⟨Nat.le_of_ble_eq_true rfl, Nat.le_of_ble_eq_true rfl⟩) (hM 0 (by decide)) rfl rfl rfl hK hP hD hS hA hN rfl hl.1 rfl (Nat.le_of_ble_eq_true rfl) rfl dX3_dub_148 ⟨Nat.zero_le _, Nat.zero_le _⟩ (fun H locs hP hD hS => ?_)
                      refine zw_iast (r := (23, 0, 0)) hx hb hK hP hD hS (hM 3 (by decide)) 0 rfl rfl (zm_at h_7 hnr h_9 (ze_fi (hlen _ (ze_vr h_7 hnr)) c_15) (hlen _ (ze_vr h_7 hnr))).2.1 dX3_dub_151 (cu1 := ze_X cD (ze_M cA ad len (sp_s τ (9, p4.toNatClampNeg, p5.toNatClampNeg) ((τ (0, 0, 0) 2) + k).toNatClampNeg (sp_as p5.toNatClampNeg (τ (9, p0.toNatClampNeg, p1.toNatClampNeg) (p2 + k).toNatClampNeg))))) (zm_N (zm_at h_7 hnr h_9 (ze_fi (hlen _ (ze_vr h_7 hnr)) c_15) (hlen _ (ze_vr h_7 hnr))).1 (ze_vt h_9) (zm_at h_7 hnr h_9 (ze_fi (hlen _ (ze_vr h_7 hnr)) c_15) (hlen _ (ze_vr h_7 hnr))).2.2) (fun H locs hP hD hS => ?_)
                      refine lv_iinc (v := (k + 1)) (lv' := [(7, .int (k + 1)), (8, .int (sp_f len τ p4.toNatClampNeg p5.toNatClampNeg ((τ (0, 0, 0) 2) + k))), (0, .ref (ad (20, 0, 0))), (1, .int p0), (2, .int p1), (3, .int p2), (4, .int p3), (5, .int p4), (6, .int p5)]) hx hb dX3_dub_152 hl (k := 1) rfl rfl (by decide) rfl (fun ls hl => ?_)
                      refine lv_goto (tgt := 56) hx hb dX3_dub_155 (by decide) ?_
                      exact ih (j + 1) (k + 1) (sp_s τ (9, p4.toNatClampNeg, p5.toNatClampNeg) ((τ (0, 0, 0) 2) + k).toNatClampNeg (sp_as p5.toNatClampNeg (τ (9, p0.toNatClampNeg, p1.toNatClampNeg) (p2 + k).toNatClampNeg))) _ _ _ (by rw [hk, nI_1]) (by omega) (hE.trans (by simp only [sp_dl, if_pos c_13, if_pos c_15, sp_n, sp_put] <;> rfl)) hP hD hS (lv_sub hl [0, 2, 3, 4, 5, 6, 7, 8] rfl)
                    · refine lv_aload_n hx hb dX3_dub_102 rfl (lv_at hl 2 rfl) ?_
                      refine lv_iload hx hb dX3_dub_103 (lv_at hl 0 rfl) ?_
                      refine lv_iload hx hb dX3_dub_105 (lv_at hl 1 rfl) ?_
                      refine zw_cV (r := (20, 0, 0)) (As := [.int (sp_f len τ p4.toNatClampNeg p5.toNatClampNeg ((τ (0, 0, 0) 2) + k)), .int k]) (rest := []) (st1 := [.int k]) ⟨hx, hb, hml, hown, hts⟩ (cm_fails (σ := τ) hM (sp_f len τ p4.toNatClampNeg p5.toNatClampNeg ((τ (0, 0, 0) 2) + k)) k) (cwV 2 hts gX3_dub_X3_fails rfl rfl rfl (by decide +kernel) ⟨Nat.le_of_ble_eq_true rfl, Nat.le_of_ble_eq_true rfl⟩) (hM 0 (by decide)) rfl rfl rfl hK hP hD hS hA hN rfl hl.1 rfl (Nat.le_of_ble_eq_true rfl) rfl dX3_dub_107 ⟨Nat.zero_le _, Nat.zero_le _⟩ (fun H locs hP hD hS => ?_)
                      exact zw_iret hx hb hr hlk hK hP hD hS dX3_dub_110 (by rw [hE]; simp only [sp_dl, if_pos c_13, if_neg c_15, sp_n, sp_put] <;> rfl) (by rw [hE]; simp only [sp_dl, if_pos c_13, if_neg c_15, sp_n, sp_put] <;> rfl)
              exact key p3.toNatClampNeg 0 0 σ _ _ _ nI_0.symm (by omega) (by simp only [sp_dub, if_pos h_1, if_pos h_3, if_neg c_5, if_neg c_6, if_pos h_7, if_pos h_9, if_pos (show sp_v nr p0 p1 from ⟨h_1, h_3⟩), if_pos (show sp_v nr p4 p5 from ⟨h_7, h_9⟩), if_pos (show sp_w p3 0 64 from ⟨Int32.not_lt.mp c_5, Int32.not_lt.mp c_6⟩)] <;> rfl) hP hD hS hl
            · refine zw_cV (r := (20, 0, 0)) (As := [.int p5]) (rest := []) (st1 := [.int 0]) ⟨hx, hb, hml, hown, hts⟩ (cm_isTrack_0 (σ := σ) p5 h_9) (cwV 1 hts gX3_dub_X3_isTrack rfl rfl rfl (by decide +kernel) ⟨Nat.le_of_ble_eq_true rfl, Nat.le_of_ble_eq_true rfl⟩) (hM 0 (by decide)) rfl rfl rfl hK hP hD hS hA hN rfl hl.1 rfl (Nat.le_of_ble_eq_true rfl) rfl dX3_dub_40 ⟨Nat.zero_le _, Nat.zero_le _⟩ (fun H locs hP hD hS => ?_)
              refine lv_if_ne (tgt := 53) hx hb dX3_dub_43 (by decide) (fun c_16 => absurd (by decide) c_16) (fun c_16 => ?_)
              refine lv_aload_n hx hb dX3_dub_46 rfl (lv_at hl 0 rfl) ?_
              refine lv_iconst (v := 1) hx hb dX3_dub_47 (by decide) ?_
              refine lv_iconst (v := 0) hx hb dX3_dub_48 (by decide) ?_
              refine zw_cV (r := (20, 0, 0)) (As := [.int 1, .int 0]) (rest := []) (st1 := [.int 0]) ⟨hx, hb, hml, hown, hts⟩ (cm_fails (σ := σ) hM 1 0) (cwV 2 hts gX3_dub_X3_fails rfl rfl rfl (by decide +kernel) ⟨Nat.le_of_ble_eq_true rfl, Nat.le_of_ble_eq_true rfl⟩) (hM 0 (by decide)) rfl rfl rfl hK hP hD hS hA hN rfl hl.1 rfl (Nat.le_of_ble_eq_true rfl) rfl dX3_dub_49 ⟨Nat.zero_le _, Nat.zero_le _⟩ (fun H locs hP hD hS => ?_)
              exact zw_iret hx hb hr hlk hK hP hD hS dX3_dub_52 (by simp only [sp_dub, if_pos (show sp_v nr p0 p1 from ⟨h_1, h_3⟩), if_neg (show ¬ sp_v nr p4 p5 from fun q => h_9 q.2), if_pos (show sp_w p3 0 64 from ⟨Int32.not_lt.mp c_5, Int32.not_lt.mp c_6⟩), if_pos h_1, if_pos h_3, if_neg c_5, if_neg c_6, if_pos h_7, if_neg h_9, ite_self] <;> rfl) (by simp only [sp_dub, if_pos (show sp_v nr p0 p1 from ⟨h_1, h_3⟩), if_neg (show ¬ sp_v nr p4 p5 from fun q => h_9 q.2), if_pos (show sp_w p3 0 64 from ⟨Int32.not_lt.mp c_5, Int32.not_lt.mp c_6⟩), if_pos h_1, if_pos h_3, if_neg c_5, if_neg c_6, if_pos h_7, if_neg h_9, ite_self] <;> rfl)
          · refine zw_cV (r := (20, 0, 0)) (As := [.int p4]) (rest := []) (st1 := [.int 0]) ⟨hx, hb, hml, hown, hts⟩ (cm_isReel_0 (σ := σ) hM hI0 p4 h_7) (cwV 1 hts gX3_dub_X3_isReel rfl rfl rfl (by decide +kernel) ⟨Nat.le_of_ble_eq_true rfl, Nat.le_of_ble_eq_true rfl⟩) (hM 0 (by decide)) rfl rfl rfl hK hP hD hS hA hN rfl hl.1 rfl (Nat.le_of_ble_eq_true rfl) rfl dX3_dub_31 ⟨Nat.zero_le _, Nat.zero_le _⟩ (fun H locs hP hD hS => ?_)
            refine lv_if_eq (tgt := 46) hx hb dX3_dub_34 (by decide) (fun c_17 => ?_) (fun c_17 => absurd (by decide) c_17)
            refine lv_aload_n hx hb dX3_dub_46 rfl (lv_at hl 0 rfl) ?_
            refine lv_iconst (v := 1) hx hb dX3_dub_47 (by decide) ?_
            refine lv_iconst (v := 0) hx hb dX3_dub_48 (by decide) ?_
            refine zw_cV (r := (20, 0, 0)) (As := [.int 1, .int 0]) (rest := []) (st1 := [.int 0]) ⟨hx, hb, hml, hown, hts⟩ (cm_fails (σ := σ) hM 1 0) (cwV 2 hts gX3_dub_X3_fails rfl rfl rfl (by decide +kernel) ⟨Nat.le_of_ble_eq_true rfl, Nat.le_of_ble_eq_true rfl⟩) (hM 0 (by decide)) rfl rfl rfl hK hP hD hS hA hN rfl hl.1 rfl (Nat.le_of_ble_eq_true rfl) rfl dX3_dub_49 ⟨Nat.zero_le _, Nat.zero_le _⟩ (fun H locs hP hD hS => ?_)
            exact zw_iret hx hb hr hlk hK hP hD hS dX3_dub_52 (by simp only [sp_dub, if_pos (show sp_v nr p0 p1 from ⟨h_1, h_3⟩), if_neg (show ¬ sp_v nr p4 p5 from fun q => h_7 q.1), if_pos (show sp_w p3 0 64 from ⟨Int32.not_lt.mp c_5, Int32.not_lt.mp c_6⟩), if_pos h_1, if_pos h_3, if_neg c_5, if_neg c_6, if_neg h_7, ite_self] <;> rfl) (by simp only [sp_dub, if_pos (show sp_v nr p0 p1 from ⟨h_1, h_3⟩), if_neg (show ¬ sp_v nr p4 p5 from fun q => h_7 q.1), if_pos (show sp_w p3 0 64 from ⟨Int32.not_lt.mp c_5, Int32.not_lt.mp c_6⟩), if_pos h_1, if_pos h_3, if_neg c_5, if_neg c_6, if_neg h_7, ite_self] <;> rfl)
    · refine zw_cV (r := (20, 0, 0)) (As := [.int p1]) (rest := []) (st1 := [.int 0]) ⟨hx, hb, hml, hown, hts⟩ (cm_isTrack_0 (σ := σ) p1 h_3) (cwV 1 hts gX3_dub_X3_isTrack rfl rfl rfl (by decide +kernel) ⟨Nat.le_of_ble_eq_true rfl, Nat.le_of_ble_eq_true rfl⟩) (hM 0 (by decide)) rfl rfl rfl hK hP hD hS hA hN rfl hl.1 rfl (Nat.le_of_ble_eq_true rfl) rfl dX3_dub_10 ⟨Nat.zero_le _, Nat.zero_le _⟩ (fun H locs hP hD hS => ?_)
      refine lv_if_eq (tgt := 46) hx hb dX3_dub_13 (by decide) (fun c_18 => ?_) (fun c_18 => absurd (by decide) c_18)
      refine lv_aload_n hx hb dX3_dub_46 rfl (lv_at hl 0 rfl) ?_
      refine lv_iconst (v := 1) hx hb dX3_dub_47 (by decide) ?_
      refine lv_iconst (v := 0) hx hb dX3_dub_48 (by decide) ?_
      refine zw_cV (r := (20, 0, 0)) (As := [.int 1, .int 0]) (rest := []) (st1 := [.int 0]) ⟨hx, hb, hml, hown, hts⟩ (cm_fails (σ := σ) hM 1 0) (cwV 2 hts gX3_dub_X3_fails rfl rfl rfl (by decide +kernel) ⟨Nat.le_of_ble_eq_true rfl, Nat.le_of_ble_eq_true rfl⟩) (hM 0 (by decide)) rfl rfl rfl hK hP hD hS hA hN rfl hl.1 rfl (Nat.le_of_ble_eq_true rfl) rfl dX3_dub_49 ⟨Nat.zero_le _, Nat.zero_le _⟩ (fun H locs hP hD hS => ?_)
      exact zw_iret hx hb hr hlk hK hP hD hS dX3_dub_52 (by simp only [sp_dub, if_neg (show ¬ sp_v nr p0 p1 from fun q => h_3 q.2), if_pos h_1, if_neg h_3, ite_self] <;> rfl) (by simp only [sp_dub, if_neg (show ¬ sp_v nr p0 p1 from fun q => h_3 q.2), if_pos h_1, if_neg h_3, ite_self] <;> rfl)
  · refine zw_cV (r := (20, 0, 0)) (As := [.int p0]) (rest := []) (st1 := [.int 0]) ⟨hx, hb, hml, hown, hts⟩ (cm_isReel_0 (σ := σ) hM hI0 p0 h_1) (cwV 1 hts gX3_dub_X3_isReel rfl rfl rfl (by decide +kernel) ⟨Nat.le_of_ble_eq_true rfl, Nat.le_of_ble_eq_true rfl⟩) (hM 0 (by decide)) rfl rfl rfl hK hP hD hS hA hN rfl hl.1 rfl (Nat.le_of_ble_eq_true rfl) rfl dX3_dub_2 ⟨Nat.zero_le _, Nat.zero_le _⟩ (fun H locs hP hD hS => ?_)
    refine lv_if_eq (tgt := 46) hx hb dX3_dub_5 (by decide) (fun c_19 => ?_) (fun c_19 => absurd (by decide) c_19)
    refine lv_aload_n hx hb dX3_dub_46 rfl (lv_at hl 0 rfl) ?_
    refine lv_iconst (v := 1) hx hb dX3_dub_47 (by decide) ?_
    refine lv_iconst (v := 0) hx hb dX3_dub_48 (by decide) ?_
    refine zw_cV (r := (20, 0, 0)) (As := [.int 1, .int 0]) (rest := []) (st1 := [.int 0]) ⟨hx, hb, hml, hown, hts⟩ (cm_fails (σ := σ) hM 1 0) (cwV 2 hts gX3_dub_X3_fails rfl rfl rfl (by decide +kernel) ⟨Nat.le_of_ble_eq_true rfl, Nat.le_of_ble_eq_true rfl⟩) (hM 0 (by decide)) rfl rfl rfl hK hP hD hS hA hN rfl hl.1 rfl (Nat.le_of_ble_eq_true rfl) rfl dX3_dub_49 ⟨Nat.zero_le _, Nat.zero_le _⟩ (fun H locs hP hD hS => ?_)
    exact zw_iret hx hb hr hlk hK hP hD hS dX3_dub_52 (by simp only [sp_dub, if_neg (show ¬ sp_v nr p0 p1 from fun q => h_1 q.1), if_neg h_1, ite_self] <;> rfl) (by simp only [sp_dub, if_neg (show ¬ sp_v nr p0 p1 from fun q => h_1 q.1), if_neg h_1, ite_self] <;> rfl)
