/-! WHAT A STATE IS: nr reels, their lengths len, and the numbers σ of each role. Roles of the class: (0,0,0) the deck (numbers 0 reelsMade, 1 onDeck, 2 tapeAt, 3 sourceNumber, 4 sourceStep, 5 sheetRows, 6 sheetWidth, 7 tripTrack, 8 tripStatus, 9 latestStatus), (1,0,0) its reels, (2,0,0) offsets, (3,0,0) modes, (4,0,0) meters, (5,0,0) cells, (6,i,0) reel i, (7,i,0) its tracks, (8,i,t) a track (number 1: is it there), (9,i,t) its numbers. Roles of the reference: (20,0,0) the object, (21,0,0) length, (22,0,0) there, (23,0,0) number, (24,0,0) offset, (25,0,0) mode, (26,0,0) meter, (27,0,0) cue. -/
abbrev sp_S : Type := zw_R → Nat → Int32
abbrev sp_s (σ : sp_S) (r : zw_R) (j : Nat) (v : Int32) : sp_S := zw_u σ r (upd (σ r) j v)
abbrev sp_e (σ : sp_S) (st : Int32) : sp_S := sp_s σ (0, 0, 0) 9 st
/-- is there such a track -/
abbrev sp_r (nr : Nat) (reel : Int32) : Prop := 0 ≤ reel ∧ reel < nI nr
abbrev sp_t (track : Int32) : Prop := 0 ≤ track ∧ track ≤ 3
abbrev sp_v (nr : Nat) (reel track : Int32) : Prop := sp_r nr reel ∧ sp_t track
abbrev sp_w (v a b : Int32) : Prop := a ≤ v ∧ v ≤ b
def sp_f (len : Nat → Nat) (σ : sp_S) (i t : Nat) (p : Int32) : Int32 := if σ (8, i, t) 1 = 0 then 2 else if 0 ≤ p ∧ p < nI (len i) then 0 else 3
def sp_n (len : Nat → Nat) (σ : sp_S) (i t : Nat) (p : Int32) : Int32 := if sp_f len σ i t p = 0 then σ (9, i, t) p.toNatClampNeg else 0
def sp_as (t : Nat) (v : Int32) : Int32 := if t = 0 then v &&& 65535 else if t = 1 then v.toInt16.toInt32 else if t = 2 then (if (-32768 : Int32) < (if v < 32768 then v else 32768) then (if v < 32768 then v else 32768) else -32768) else v &&& 1
def sp_put (len : Nat → Nat) (σ : sp_S) (i t : Nat) (p v : Int32) : sp_S := if sp_f len σ i t p = 0 then sp_s σ (9, i, t) p.toNatClampNeg (sp_as t v) else σ
/-- the array classes, and the world's tables -/
abbrev ze_t (cA : Nat → ClassId) : List (ClassId × FieldType) := [(cA 0, .int), (cA 1, .object "FourTrackDeck$Reel"), (cA 2, .object "FourTrackDeck$Track")]
abbrev ze_E (dC : Nat → ClassId) (dI : Nat → Nat → Nat) (cA : Nat → ClassId) : zw_E := ((dC, dI), vwCl, ze_t cA)
def ze_S (cA : Nat → ClassId) (ad : zw_R → Nat) (nr : Nat) (len : Nat → Nat) (r : zw_R) (x : Nat → Int32) : va_E := match r.1 with
  | 0 => .inr (2, [.ref (ad (1, 0, 0)), .int (x 0), .int (x 1), .int (x 2), .ref (ad (2, 0, 0)), .ref (ad (3, 0, 0)), .ref (ad (4, 0, 0)), .int (x 3), .int (x 4), .ref (ad (5, 0, 0)), .int (x 5), .int (x 6), .int (x 7), .int (x 8), .int (x 9)])
  | 1 => .inl (cA 1, 8, .inr (.inr (.inr (.inr (fun j => if j < nr then some (ad (6, j, 0)) else none)))))
  | 2 => .inl (cA 0, 4, .inl x)
  | 3 => .inl (cA 0, 4, .inl x)
  | 4 => .inl (cA 0, 4, .inl x)
  | 5 => .inl (cA 0, 256, .inl x)
  | 6 => .inr (0, [.ref (ad (7, r.2.1, 0))])
  | 7 => .inl (cA 2, 4, .inr (.inr (.inr (.inr (fun j => if j < 4 then some (ad (8, r.2.1, j)) else none)))))
  | 8 => .inr (1, [.int (nI r.2.2), .ref (ad (9, r.2.1, r.2.2)), .int (x 1)])
  | _ => .inl (cA 0, len r.2.1, .inl x)
def ze_D (cA : Nat → ClassId) (ad : zw_R → Nat) (nr : Nat) (len : Nat → Nat) (σ : sp_S) : zw_R → va_E := fun r => ze_S cA ad nr len r (σ r)
def ze_X (cD cM : zw_R → va_E) : zw_R → va_E := fun r => bif Nat.blt r.1 20 then cD r else cM r
theorem ze_up {cA : Nat → ClassId} {ad : zw_R → Nat} {nr : Nat} {len : Nat → Nat} {σ : sp_S} {cM : zw_R → va_E} {r : zw_R} {x : Nat → Int32} {e : va_E} (hr : Nat.blt r.1 20 = true) (he : ze_S cA ad nr len r x = e) : ze_X (ze_D cA ad nr len (zw_u σ r x)) cM = zw_u (ze_X (ze_D cA ad nr len σ) cM) r e := by
  funext q
  by_cases h : q = r
  · subst h
    simp only [ze_X, ze_D, zw_us, hr, cond_true, he]
  · simp only [ze_X, ze_D, zw_un _ _ h]
/-- which roles are there -/
def ze_R (nr : Nat) (R : List zw_R) : Prop := (∀ k, k < 6 → (k, 0, 0) ∈ R) ∧ ∀ i, i < nr → (6, i, 0) ∈ R ∧ (7, i, 0) ∈ R ∧ ∀ t, t < 4 → (8, i, t) ∈ R ∧ (9, i, t) ∈ R
theorem ze_lt {x y : Int32} (h : x < y) : x.toInt < y.toInt := Int32.lt_iff_toInt_lt.mp h
theorem ze_le {x y : Int32} (h : x ≤ y) : x.toInt ≤ y.toInt := Int32.le_iff_toInt_le.mp h
theorem ze_nl {x y : Int32} (h : ¬ x < y) : y.toInt ≤ x.toInt := by
  have := mt Int32.lt_iff_toInt_lt.mpr h
  omega
theorem ze_nle {x y : Int32} (h : ¬ x ≤ y) : y.toInt < x.toInt := by
  have := mt Int32.le_iff_toInt_le.mpr h
  omega
theorem ze_cl (x : Int32) : (x.toNatClampNeg : Int) = max x.toInt 0 := by
  show ((x.toInt).toNat : Int) = _
  omega
theorem ze_vr {nr : Nat} {reel : Int32} (h : sp_r nr reel) (hn : nr ≤ 8) : reel.toNatClampNeg < nr := by
  have h1 := ze_le h.1
  have h2 := ze_lt h.2
  rw [nI_toInt (by omega)] at h2
  have h3 := ze_cl reel
  have h4 : (0 : Int32).toInt = 0 := rfl
  omega
theorem ze_vt {track : Int32} (h : sp_t track) : track.toNatClampNeg < 4 := by
  have h1 := ze_le h.1
  have h2 := ze_le h.2
  have h3 := ze_cl track
  have h4 : (0 : Int32).toInt = 0 := rfl
  have h5 : (3 : Int32).toInt = 3 := rfl
  omega
theorem ze_ti {track : Int32} (h : sp_t track) : vp_in track 4 := by
  have h1 := ze_le h.1
  have h2 := ze_le h.2
  have h4 : (0 : Int32).toInt = 0 := rfl
  have h5 : (3 : Int32).toInt = 3 := rfl
  exact vp_in_iff.mpr (by omega)
theorem ze_tn {track : Int32} (h : sp_t track) : nI track.toNatClampNeg = track := by
  have h1 := ze_le h.1
  have h2 := ze_le h.2
  have h3 := ze_cl track
  have h4 : (0 : Int32).toInt = 0 := rfl
  have h5 : (3 : Int32).toInt = 3 := rfl
  apply Int32.toInt_inj.mp
  rw [nI_toInt (by omega)]
  omega
theorem ze_fi {len : Nat → Nat} {σ : sp_S} {i t : Nat} {p : Int32} (hl : len i ≤ 64) (h : sp_f len σ i t p = 0) : vp_in p (len i) := by
  unfold sp_f at h
  split at h
  · exact absurd h (by decide)
  · split at h
    · rename_i h2
      have h3 := ze_le h2.1
      have h4 := ze_lt h2.2
      rw [nI_toInt (by omega)] at h4
      have h5 : (0 : Int32).toInt = 0 := rfl
      exact vp_in_iff.mpr (by omega)
    · exact absurd h (by decide)
theorem ze_r8 {nr : Nat} {reel : Int32} (h : sp_r nr reel) (hn : nr ≤ 8) : vp_in reel 8 ∧ ¬ (8 : Int32) ≤ reel := by
  have h1 := ze_le h.1
  have h2 := ze_lt h.2
  rw [nI_toInt (by omega)] at h2
  have h4 : (0 : Int32).toInt = 0 := rfl
  have h5 : (8 : Int32).toInt = 8 := rfl
  exact ⟨vp_in_iff.mpr (by omega), fun q => by have := ze_le q; omega⟩
theorem ze_in8 {reel : Int32} (h1 : ¬ reel < 0) (h2 : ¬ (8 : Int32) ≤ reel) : vp_in reel 8 := by
  have a1 := ze_nl h1
  have a2 := ze_nle h2
  have h4 : (0 : Int32).toInt = 0 := rfl
  have h5 : (8 : Int32).toInt = 8 := rfl
  exact vp_in_iff.mpr (by omega)
theorem ze_nr {nr : Nat} {reel : Int32} (h : ¬ sp_r nr reel) (h1 : ¬ reel < 0) (hn : nr ≤ 8) : ¬ reel.toNatClampNeg < nr := by
  intro q
  apply h
  have a1 := ze_nl h1
  have h4 : (0 : Int32).toInt = 0 := rfl
  have h3 := ze_cl reel
  refine ⟨Int32.not_lt.mp h1, Int32.lt_iff_toInt_lt.mpr ?_⟩
  rw [nI_toInt (by omega)]
  omega
