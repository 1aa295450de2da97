/-! WHAT HOLDS BETWEEN CALLS, and that every call keeps it -/
def sp_I (nr : Nat) (len : Nat → Nat) (σ : sp_S) : Prop := nr ≤ 8 ∧ σ (0, 0, 0) 0 = nI nr ∧ (σ (0, 0, 0) 1 = -1 ∨ sp_r nr (σ (0, 0, 0) 1)) ∧ (∀ t, t < 4 → sp_t (σ (3, 0, 0) t)) ∧ (∀ i, i < nr → len i ≤ 64) ∧ (σ (0, 0, 0) 5 ≤ 16 ∧ σ (0, 0, 0) 6 ≤ 16) ∧ sp_F σ ∧ (∀ i t j, len i ≤ j → σ (9, i, t) j = 0) ∧ ∀ i, nr ≤ i → len i = 0 ∧ ∀ t, σ (8, i, t) 1 = 0
section SI
variable {nr : Nat} {len : Nat → Nat} {σ : sp_S}
theorem sp_I_e {st : Int32} (h : sp_I nr len σ) : sp_I nr len (sp_e σ st) := h
theorem sp_I_2 {v : Int32} (h : sp_I nr len σ) : sp_I nr len (sp_s σ (0, 0, 0) 2 v) := h
theorem sp_I_3 {v : Int32} (h : sp_I nr len σ) : sp_I nr len (sp_s σ (0, 0, 0) 3 v) := h
theorem sp_I_4 {v : Int32} (h : sp_I nr len σ) : sp_I nr len (sp_s σ (0, 0, 0) 4 v) := h
theorem sp_I_7 {v : Int32} (h : sp_I nr len σ) : sp_I nr len (sp_s σ (0, 0, 0) 7 v) := h
theorem sp_I_8 {v : Int32} (h : sp_I nr len σ) : sp_I nr len (sp_s σ (0, 0, 0) 8 v) := h
theorem sp_I_o {x : Nat → Int32} (h : sp_I nr len σ) : sp_I nr len (zw_u σ (2, 0, 0) x) := h
theorem sp_I_m {x : Nat → Int32} (h : sp_I nr len σ) : sp_I nr len (zw_u σ (4, 0, 0) x) := h
theorem sp_I_c {x : Nat → Int32} (h : sp_I nr len σ) : sp_I nr len (zw_u σ (5, 0, 0) x) := h
theorem sp_I_len (h : sp_I nr len σ) (i : Nat) : len i ≤ 64 := by
  rcases Nat.lt_or_ge i nr with q | q
  · exact h.2.2.2.2.1 i q
  · have := (h.2.2.2.2.2.2.2.2 i q).1
    omega
theorem sp_I_put {i t : Nat} {p v : Int32} (h : sp_I nr len σ) : sp_I nr len (sp_put len σ i t p v) := by
  have hl := sp_I_len h i
  obtain ⟨a1, a2, a3, a4, a5, a6, a7, a8, a9⟩ := h
  have d0 : sp_put len σ i t p v (0, 0, 0) = σ (0, 0, 0) := sp_put_D (by decide)
  have d3 : sp_put len σ i t p v (3, 0, 0) = σ (3, 0, 0) := sp_put_D (by decide)
  have d8 : ∀ a b : Nat, sp_put len σ i t p v (8, a, b) = σ (8, a, b) := fun a b => sp_put_D (show (8 : Nat) ≠ 9 by decide)
  refine ⟨a1, by rw [d0]; exact a2, by rw [d0]; exact a3, by rw [d3]; exact a4, a5, by rw [d0]; exact a6, sp_F_put a7, fun i2 t2 j2 hj => ?_, fun i2 hi2 => ⟨(a9 i2 hi2).1, fun t2 => by rw [d8]; exact (a9 i2 hi2).2 t2⟩⟩
  unfold sp_put
  split
  · rename_i hf
    have hb := vp_in_iff.mp (ze_fi hl hf)
    have hc := ze_cl p
    by_cases hr : ((9, i2, t2) : zw_R) = (9, i, t)
    · have e1 : i2 = i := congrArg (fun z => z.2.1) hr
      rw [hr, sp_s_j (by subst e1; omega)]
      exact a8 i t j2 (by rw [← e1]; exact hj)
    · rw [sp_s_ne hr]
      exact a8 i2 t2 j2 hj
  · exact a8 i2 t2 j2 hj
theorem sp_I_flag {i t : Nat} {v : Int32} (hi : i < nr) (h : sp_I nr len σ) : sp_I nr len (sp_s σ (8, i, t) 1 v) := by
  obtain ⟨a1, a2, a3, a4, a5, a6, a7, a8, a9⟩ := h
  refine ⟨a1, a2, a3, a4, a5, a6, a7, a8, fun i2 hi2 => ⟨(a9 i2 hi2).1, fun t2 => ?_⟩⟩
  rw [sp_s_ne (q := (8, i2, t2)) (fun z => by have := congrArg (fun z => z.2.1) z; dsimp only at this; omega)]
  exact (a9 i2 hi2).2 t2
theorem sp_I_wipe {i t : Nat} {n : Nat} (h : sp_I nr len σ) : sp_I nr len (zw_u σ (9, i, t) (fun j => if j < n then 0 else σ (9, i, t) j)) := by
  obtain ⟨a1, a2, a3, a4, a5, a6, a7, a8, a9⟩ := h
  refine ⟨a1, a2, a3, a4, a5, a6, fun i2 t2 j2 => ?_, fun i2 t2 j2 hj => ?_, a9⟩
  · by_cases hr : ((9, i2, t2) : zw_R) = (9, i, t)
    · have e1 : t2 = t := congrArg (fun z => z.2.2) hr
      rw [hr, zw_us, e1]
      split
      · unfold sp_as
        split
        · rfl
        · split
          · rfl
          · split <;> rfl
      · exact a7 i t j2
    · rw [zw_un _ _ hr]
      exact a7 i2 t2 j2
  · by_cases hr : ((9, i2, t2) : zw_R) = (9, i, t)
    · have e1 : i2 = i := congrArg (fun z => z.2.1) hr
      rw [hr, zw_us]
      split
      · rfl
      · exact a8 i t j2 (by rw [← e1]; exact hj)
    · rw [zw_un _ _ hr]
      exact a8 i2 t2 j2 hj
theorem sp_I_od {v : Int32} (hv : v = -1 ∨ sp_r nr v) (h : sp_I nr len σ) : sp_I nr len (sp_s σ (0, 0, 0) 1 v) := by
  obtain ⟨a1, a2, a3, a4, a5, a6, a7, a8, a9⟩ := h
  exact ⟨a1, a2, hv, a4, a5, a6, a7, a8, a9⟩
theorem sp_I_md {k : Nat} {v : Int32} (hv : sp_t v) (h : sp_I nr len σ) : sp_I nr len (sp_s σ (3, 0, 0) k v) := by
  obtain ⟨a1, a2, a3, a4, a5, a6, a7, a8, a9⟩ := h
  refine ⟨a1, a2, a3, fun t ht => ?_, a5, a6, a7, a8, a9⟩
  by_cases hk : t = k
  · rw [hk, sp_ss]; exact hv
  · rw [sp_s_j hk]; exact a4 t ht
theorem sp_I_sh {a b : Int32} (ha : a ≤ 16) (hb : b ≤ 16) (h : sp_I nr len σ) : sp_I nr len (sp_s (sp_s σ (0, 0, 0) 5 a) (0, 0, 0) 6 b) := by
  obtain ⟨a1, a2, a3, a4, a5, a6, a7, a8, a9⟩ := h
  exact ⟨a1, a2, a3, a4, a5, ⟨ha, hb⟩, a7, a8, a9⟩
theorem sp_I_mv {t : Int32} (h : sp_I nr len σ) : sp_I nr len (sp_mv nr len σ t).2 := by
  unfold sp_mv
  split
  · split
    · exact h
    · split
      · split
        · exact sp_I_m h
        · split
          · exact sp_I_3 (sp_I_put h)
          · exact sp_I_3 (sp_I_put h)
      · exact h
  · exact h
end SI
theorem sp_I_tk {nr : Nat} {len : Nat → Nat} : ∀ (k : Nat) (t : Int32) (σ : sp_S), sp_I nr len σ → sp_I nr len (sp_tk nr len k t σ)
  | 0, _, σ, h => sp_I_2 h
  | k + 1, t, σ, h => by
    unfold sp_tk
    split
    · exact sp_I_tk k (t + 1) _ (sp_I_mv h)
    · exact sp_I_8 (sp_I_7 (sp_I_mv h))
theorem sp_I_rl {nr : Nat} {len : Nat → Nat} : ∀ (m : Nat) (k : Int32) (σ : sp_S), sp_I nr len σ → sp_I nr len (sp_rl nr len m k σ).2
  | 0, _, σ, h => sp_I_e h
  | m + 1, k, σ, h => by
    unfold sp_rl
    split
    · exact sp_I_rl m (k + 1) _ (sp_I_tk 4 0 σ h)
    · exact sp_I_e (sp_I_tk 4 0 σ h)
theorem sp_I_dl {nr : Nat} {len : Nat → Nat} {i t : Nat} {a : Int32} {i2 t2 : Nat} : ∀ (m : Nat) (k : Int32) (σ : sp_S), sp_I nr len σ → sp_I nr len (sp_dl len i t a i2 t2 m k σ).2
  | 0, _, σ, h => sp_I_e h
  | m + 1, k, σ, h => by
    unfold sp_dl
    split <;> (try split)
    all_goals first | exact sp_I_dl m (k + 1) _ (sp_I_put h) | exact sp_I_e h
theorem sp_I_ul {nr : Nat} {len : Nat → Nat} {i t : Nat} {a b : Int32} : ∀ (m : Nat) (k : Int32) (σ : sp_S), sp_I nr len σ → sp_I nr len (sp_ul len i t a b m k σ).2
  | 0, _, σ, h => sp_I_e h
  | m + 1, k, σ, h => by
    unfold sp_ul
    split <;> (try split)
    all_goals first | exact sp_I_ul m (k + 1) _ (sp_I_put (sp_I_put h)) | exact sp_I_e h
theorem sp_I_sl {nr : Nat} {len : Nat → Nat} {i t : Nat} {a v : Int32} : ∀ (m : Nat) (k : Int32) (σ : sp_S), sp_I nr len σ → sp_I nr len (sp_sl len i t a v m k σ).2
  | 0, _, σ, h => sp_I_e h
  | m + 1, k, σ, h => by
    unfold sp_sl
    split
    · split
      · exact sp_I_e h
      · exact sp_I_sl m (k + 1) σ h
    · exact sp_I_e h
section SK
variable {nr : Nat} {len : Nat → Nat} {σ : sp_S} (p0 p1 p2 p3 p4 p5 : Int32)
theorem sk_strip (h : sp_I nr len σ) : sp_I nr len (sp_strip nr len σ p0 p1).2 := by
  unfold sp_strip
  split
  · rename_i hv
    exact sp_I_e (sp_I_flag (ze_vr hv.1 h.1) h)
  · exact sp_I_e h
theorem sk_lay (h : sp_I nr len σ) : sp_I nr len (sp_lay nr len σ p0 p1).2 := by
  unfold sp_lay
  split
  · rename_i hv
    exact sp_I_e (sp_I_wipe (sp_I_flag (ze_vr hv.1 h.1) h))
  · exact sp_I_e h
theorem sk_thread (h : sp_I nr len σ) : sp_I nr len (sp_thread nr len σ p0).2 := by
  unfold sp_thread
  split
  · rename_i hv
    exact sp_I_e (sp_I_od (Or.inl hv) h)
  · split
    · rename_i hv
      exact sp_I_e (sp_I_od (Or.inr hv) h)
    · exact sp_I_e h
theorem sk_head (h : sp_I nr len σ) : sp_I nr len (sp_head nr len σ p0 p1).2 := by
  unfold sp_head
  split
  · split
    · exact sp_I_e (sp_I_o h)
    · exact sp_I_e h
  · exact sp_I_e h
theorem sk_arm (h : sp_I nr len σ) : sp_I nr len (sp_arm nr len σ p0 p1).2 := by
  unfold sp_arm
  split
  · split
    · rename_i hv
      exact sp_I_e (sp_I_md hv h)
    · exact sp_I_e h
  · exact sp_I_e h
theorem sk_source (h : sp_I nr len σ) : sp_I nr len (sp_source nr len σ p0 p1).2 := sp_I_e (sp_I_4 (sp_I_3 h))
theorem sk_wind (h : sp_I nr len σ) : sp_I nr len (sp_wind nr len σ p0).2 := by
  unfold sp_wind
  split
  · exact sp_I_e (sp_I_2 h)
  · exact sp_I_e h
theorem sk_read (h : sp_I nr len σ) : sp_I nr len (sp_read nr len σ p0).2 := by
  unfold sp_read
  split
  · exact sp_I_e h
  · exact sp_I_e h
theorem sk_write (h : sp_I nr len σ) : sp_I nr len (sp_write nr len σ p0 p1).2 := by
  unfold sp_write
  split
  · exact sp_I_e (sp_I_put h)
  · exact sp_I_e h
theorem sk_run (h : sp_I nr len σ) : sp_I nr len (sp_run nr len σ p0).2 := by
  unfold sp_run
  split
  · split
    · exact sp_I_e h
    · exact sp_I_rl _ _ _ (sp_I_8 (sp_I_7 h))
  · exact sp_I_e h
theorem sk_dub (h : sp_I nr len σ) : sp_I nr len (sp_dub nr len σ p0 p1 p2 p3 p4 p5).2 := by
  unfold sp_dub
  split
  · split
    · split
      · exact sp_I_dl _ _ _ h
      · exact sp_I_e h
    · exact sp_I_e h
  · exact sp_I_e h
theorem sk_turn (h : sp_I nr len σ) : sp_I nr len (sp_turn nr len σ p0 p1).2 := by
  unfold sp_turn
  split
  · split
    · exact sp_I_ul _ _ _ h
    · exact sp_I_e h
  · exact sp_I_e h
theorem sk_scan (h : sp_I nr len σ) : sp_I nr len (sp_scan nr len σ p0 p1).2 := by
  unfold sp_scan
  split
  · exact sp_I_sl _ _ _ h
  · exact sp_I_e h
theorem sk_sheet (h : sp_I nr len σ) : sp_I nr len (sp_sheet nr len σ p0 p1).2 := by
  unfold sp_sheet
  split
  · exact sp_I_e h
  · rename_i h1
    split
    · rename_i h2
      split
      · exact sp_I_e h
      · split
        · exact sp_I_e (sp_I_c (sp_I_sh (Int32.not_lt.mp h1) h2 h))
        · exact sp_I_e h
    · exact sp_I_e h
theorem sk_cue (h : sp_I nr len σ) : sp_I nr len (sp_cue nr len σ p0 p1 p2).2 := by
  unfold sp_cue
  split
  · exact sp_I_e (sp_I_c h)
  · exact sp_I_e h
theorem sk_seek (h : sp_I nr len σ) : sp_I nr len (sp_seek nr len σ p0 p1).2 := by
  unfold sp_seek
  split
  · exact sp_I_e (sp_I_2 h)
  · exact sp_I_e h
theorem sk_trip (h : sp_I nr len σ) : sp_I nr len (sp_trip nr len σ p0).2 := by
  unfold sp_trip
  split
  · exact h
  · split <;> exact h
theorem sk_meter (h : sp_I nr len σ) : sp_I nr len (sp_meter nr len σ p0).2 := by
  unfold sp_meter
  split <;> exact h
theorem sk_count (h : sp_I nr len σ) : sp_I nr len (sp_count nr len σ p0).2 := by
  unfold sp_count
  repeat' split
  all_goals exact h
theorem sk_status (h : sp_I nr len σ) : sp_I nr len (sp_status nr len σ).2 := h
end SK
/-! lay and sheet of the reference are those of the class -/
theorem sp_zl_eq (i t : Nat) : ∀ (m j : Nat) (σ : sp_S), j + m < 2 ^ 31 → sp_zl i t m (nI j) σ = zw_u σ (9, i, t) (fun q => if j ≤ q ∧ q < j + m then 0 else σ (9, i, t) q)
  | 0, j, σ, _ => by
    funext q
    by_cases h : q = (9, i, t)
    · subst h
      rw [zw_us]
      funext k
      show σ (9, i, t) k = _
      rw [if_neg (by omega)]
    · rw [zw_un _ _ h]
      rfl
  | m + 1, j, σ, hb => by
    show sp_zl i t m (nI j + 1) (sp_s σ (9, i, t) (nI j).toNatClampNeg 0) = _
    rw [nI_1, nI_clamp (by omega), sp_zl_eq i t m (j + 1) _ (by omega), zw_uu]
    congr 1
    funext q
    by_cases h1 : q = j
    · subst h1
      rw [if_neg (by omega), if_pos (by omega), sp_ss]
    · rw [sp_s_j h1]
      by_cases h2 : j ≤ q ∧ q < j + (m + 1)
      · rw [if_pos h2, if_pos (by omega)]
      · rw [if_neg h2, if_neg (by omega)]
theorem sp_cz_eq : ∀ (m j : Nat) (σ : sp_S), j + m < 2 ^ 31 → sp_cz m (nI j) σ = zw_u σ (5, 0, 0) (fun q => if j ≤ q ∧ q < j + m then 0 else σ (5, 0, 0) q)
  | 0, j, σ, _ => by
    funext q
    by_cases h : q = (5, 0, 0)
    · subst h
      rw [zw_us]
      funext k
      show σ (5, 0, 0) k = _
      rw [if_neg (by omega)]
    · rw [zw_un _ _ h]
      rfl
  | m + 1, j, σ, hb => by
    show sp_cz m (nI j + 1) (sp_s σ (5, 0, 0) (nI j).toNatClampNeg 0) = _
    rw [nI_1, nI_clamp (by omega), sp_cz_eq m (j + 1) _ (by omega), zw_uu]
    congr 1
    funext q
    by_cases h1 : q = j
    · subst h1
      rw [if_neg (by omega), if_pos (by omega), sp_ss]
    · rw [sp_s_j h1]
      by_cases h2 : j ≤ q ∧ q < j + (m + 1)
      · rw [if_pos h2, if_pos (by omega)]
      · rw [if_neg h2, if_neg (by omega)]
theorem sp_sheet_M {nr : Nat} {len : Nat → Nat} {σ : sp_S} {p0 p1 : Int32} : sp_sheetM nr len σ p0 p1 = sp_sheet nr len σ p0 p1 := by
  unfold sp_sheetM sp_sheet
  have e : ∀ x : sp_S, sp_cz 256 0 x = zw_u x (5, 0, 0) (fun q => if 0 ≤ q ∧ q < 0 + 256 then 0 else x (5, 0, 0) q) := fun x => sp_cz_eq 256 0 x (by omega)
  rw [e]
  simp only [Nat.zero_le, true_and, Nat.zero_add]
theorem sp_lay_M {nr : Nat} {len : Nat → Nat} {σ : sp_S} {p0 p1 : Int32} (h : sp_I nr len σ) : sp_layM nr len σ p0 p1 = sp_lay nr len σ p0 p1 := by
  unfold sp_layM sp_lay
  have e : ∀ (x : sp_S) (i t : Nat), len i ≤ 64 → (∀ j, len i ≤ j → x (9, i, t) j = 0) → sp_zl i t 64 0 x = zw_u x (9, i, t) (fun j => if j < len i then 0 else x (9, i, t) j) := by
    intro x i t hl hx
    have e2 : sp_zl i t 64 0 x = zw_u x (9, i, t) (fun q => if 0 ≤ q ∧ q < 0 + 64 then 0 else x (9, i, t) q) := sp_zl_eq i t 64 0 x (by omega)
    rw [e2]
    congr 1
    funext q
    by_cases h1 : q < len i
    · rw [if_pos h1, if_pos (by omega)]
    · rw [if_neg h1, hx q (by omega)]
      split <;> rfl
  rw [e (sp_s σ (8, p0.toNatClampNeg, p1.toNatClampNeg) 1 1) p0.toNatClampNeg p1.toNatClampNeg (sp_I_len h _) (fun j hj => h.2.2.2.2.2.2.2.1 _ _ j hj)]
