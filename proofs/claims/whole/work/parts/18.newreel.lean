/-! A NEW REEL: the cells that Reel() made get their roles -/
def sp_bt (p1 : Int32) (t : Nat) : Int32 := if ((p1 >>> (nI t &&& 31)) &&& 1) = 1 then 1 else 0
def sp_fl (σ : sp_S) (n : Nat) (p1 : Int32) : sp_S := fun r => if r.1 = 8 ∧ r.2.1 = n then upd (σ r) 1 (sp_bt p1 r.2.2) else σ r
def sp_reel (nr : Nat) (len : Nat → Nat) (σ : sp_S) (p0 p1 : Int32) : Int32 × Nat × (Nat → Nat) × sp_S := if sp_w p0 1 64 then (if sp_w p1 0 15 then (if nr < 8 then (nI nr, nr + 1, va_up len nr p0.toNatClampNeg, sp_e (sp_s (sp_fl σ nr p1) (0, 0, 0) 0 (nI nr + 1)) 0) else (-1, nr, len, sp_e σ 5)) else (-1, nr, len, sp_e σ 1)) else (-1, nr, len, sp_e σ 1)
def zr_ad (ad : zw_R → Nat) (nr q x : Nat) (y z : Nat → Nat) : zw_R → Nat := fun r => match r.1 with
  | 6 => if r.2.1 = nr then q else ad r
  | 7 => if r.2.1 = nr then x else ad r
  | 8 => if r.2.1 = nr then y r.2.2 else ad r
  | 9 => if r.2.1 = nr then z r.2.2 else ad r
  | _ => ad r
def zr_R (nr : Nat) : List zw_R := [(6, nr, 0), (7, nr, 0), (8, nr, 0), (9, nr, 0), (8, nr, 1), (9, nr, 1), (8, nr, 2), (9, nr, 2), (8, nr, 3), (9, nr, 3)]
def ze_Z (nr : Nat) (R : List zw_R) : Prop := ∀ r ∈ R, (r.1 < 6 ∧ r.2 = (0, 0)) ∨ (6 ≤ r.1 ∧ r.1 < 10 ∧ r.2.1 < nr) ∨ (20 ≤ r.1 ∧ r.1 < 30)
theorem ze_Z30 {nr : Nat} {R : List zw_R} (h : ze_Z nr R) : ∀ q ∈ R, q.1 < 30 := fun q hq => by
  have := h q hq
  omega
theorem zr_adk {ad : zw_R → Nat} {nr q x : Nat} {y z : Nat → Nat} {r : zw_R} (h : r.1 < 6 ∨ (r.1 < 10 ∧ r.2.1 < nr) ∨ (20 ≤ r.1 ∧ r.1 < 30)) : zr_ad ad nr q x y z r = ad r := by
  unfold zr_ad
  split
  all_goals first | rfl | (rw [if_neg (by omega)])
theorem sp_flk {σ : sp_S} {nr : Nat} {p1 : Int32} {r : zw_R} (h : r.1 < 6 ∨ (r.1 < 10 ∧ r.2.1 < nr) ∨ (20 ≤ r.1 ∧ r.1 < 30)) : sp_fl σ nr p1 r = σ r := by
  unfold sp_fl
  rw [if_neg (by omega)]
theorem zr_S {cA : Nat → ClassId} {ad : zw_R → Nat} {nr q x : Nat} {y z : Nat → Nat} {len : Nat → Nat} {n : Nat} {r : zw_R} {v : Nat → Int32} (h : r.1 < 6 ∨ (r.1 < 10 ∧ r.2.1 < nr)) : ze_S cA (zr_ad ad nr q x y z) nr (va_up len nr n) r v = ze_S cA ad nr len r v := by
  obtain ⟨k, i, t⟩ := r
  dsimp only at h
  have hi : 6 ≤ k → i < nr := fun hk => by omega
  match k, hi with
  | 0, _ => rfl
  | 1, _ =>
    show (Sum.inl (cA 1, 8, Sum.inr (Sum.inr (Sum.inr (Sum.inr (fun j => if j < nr then some (zr_ad ad nr q x y z (6, j, 0)) else none))))) : va_E) = Sum.inl (cA 1, 8, Sum.inr (Sum.inr (Sum.inr (Sum.inr (fun j => if j < nr then some (ad (6, j, 0)) else none)))))
    congr 7
    funext j
    by_cases hj : j < nr
    · rw [if_pos hj, if_pos hj, zr_adk (Or.inr (Or.inl ⟨Nat.le_of_ble_eq_true rfl, hj⟩))]
    · rw [if_neg hj, if_neg hj]
  | 2, _ => rfl
  | 3, _ => rfl
  | 4, _ => rfl
  | 5, _ => rfl
  | 6, hi =>
    show (Sum.inr (0, [Value.ref (zr_ad ad nr q x y z (7, i, 0))]) : va_E) = Sum.inr (0, [Value.ref (ad (7, i, 0))])
    rw [zr_adk (Or.inr (Or.inl ⟨Nat.le_of_ble_eq_true rfl, hi (by decide)⟩))]
  | 7, hi =>
    show (Sum.inl (cA 2, 4, Sum.inr (Sum.inr (Sum.inr (Sum.inr (fun j => if j < 4 then some (zr_ad ad nr q x y z (8, i, j)) else none))))) : va_E) = Sum.inl (cA 2, 4, Sum.inr (Sum.inr (Sum.inr (Sum.inr (fun j => if j < 4 then some (ad (8, i, j)) else none)))))
    congr 7
    funext j
    rw [zr_adk (Or.inr (Or.inl ⟨Nat.le_of_ble_eq_true rfl, hi (by decide)⟩))]
  | 8, hi =>
    show (Sum.inr (1, [Value.int (nI t), Value.ref (zr_ad ad nr q x y z (9, i, t)), Value.int (v 1)]) : va_E) = Sum.inr (1, [Value.int (nI t), Value.ref (ad (9, i, t)), Value.int (v 1)])
    rw [zr_adk (Or.inr (Or.inl ⟨Nat.le_of_ble_eq_true rfl, hi (by decide)⟩))]
  | k + 9, hi =>
    show (Sum.inl (cA 0, va_up len nr n i, Sum.inl v) : va_E) = Sum.inl (cA 0, len i, Sum.inl v)
    rw [va_up_ne _ _ (by have := hi (by omega); omega)]
theorem zr_lab {cA : Nat → ClassId} {ad : zw_R → Nat} {R : List zw_R} {nr : Nat} {len : Nat → Nat} {σ : sp_S} {cM : zw_R → va_E} {p0 p1 : Int32} {q x : Nat} {y z : Nat → Nat} {e : va_E} (hZ : ze_Z nr R) (h9 : ∀ t j, σ (9, nr, t) j = 0) : zw_l (zw_u ad (30, 0, 0) q) (R ++ [(30, 0, 0)]) (zw_u (zw_u (ze_X (ze_D cA ad nr len σ) cM) (30, 0, 0) e) (30, 0, 0) (.inr (0, [.ref x]))) ++ zr_L cA p0 p1 x y z = zw_l (zr_ad ad nr q x y z) (R ++ zr_R nr) (ze_X (ze_D cA (zr_ad ad nr q x y z) nr (va_up len nr p0.toNatClampNeg) (sp_fl σ nr p1)) cM) := by
  unfold zw_l
  rw [List.map_append, List.map_append, List.append_assoc]
  congr 1
  · apply List.map_congr_left
    intro r hr
    have h : r.1 < 6 ∨ (r.1 < 10 ∧ r.2.1 < nr) ∨ (20 ≤ r.1 ∧ r.1 < 30) := by have := hZ r hr; omega
    have ne : r ≠ (30, 0, 0) := fun w => by rw [w] at h; dsimp only at h; omega
    rw [zw_un _ _ ne, zw_un _ _ ne, zw_un _ _ ne, zr_adk h]
    congr 1
    unfold ze_X ze_D
    by_cases hk : Nat.blt r.1 20 = true
    · rw [hk]
      have hk2 : r.1 < 20 := by simpa [Nat.blt_eq] using hk
      dsimp only [cond_true]
      rw [sp_flk h, zr_S (by omega)]
    · have hk2 : Nat.blt r.1 20 = false := Bool.eq_false_iff.mpr hk
      rw [hk2]
      rfl
  · have z9 : ∀ t : Nat, sp_fl σ nr p1 (9, nr, t) = fun _ => 0 := fun t => by
      unfold sp_fl
      rw [if_neg (by dsimp only; omega)]
      funext j
      exact h9 t j
    have z8 : ∀ t : Nat, sp_fl σ nr p1 (8, nr, t) 1 = sp_bt p1 t := fun t => by
      unfold sp_fl
      rw [if_pos ⟨rfl, rfl⟩]
      rfl
    have a6 : zr_ad ad nr q x y z (6, nr, 0) = q := if_pos rfl
    have a7 : zr_ad ad nr q x y z (7, nr, 0) = x := if_pos rfl
    have a8 : ∀ t : Nat, zr_ad ad nr q x y z (8, nr, t) = y t := fun t => if_pos rfl
    have a9 : ∀ t : Nat, zr_ad ad nr q x y z (9, nr, t) = z t := fun t => if_pos rfl
    have c6 : ze_X (ze_D cA (zr_ad ad nr q x y z) nr (va_up len nr p0.toNatClampNeg) (sp_fl σ nr p1)) cM (6, nr, 0) = .inr (0, [.ref x]) := by
      show (Sum.inr (0, [Value.ref (zr_ad ad nr q x y z (7, nr, 0))]) : va_E) = _
      rw [a7]
    have c7 : ze_X (ze_D cA (zr_ad ad nr q x y z) nr (va_up len nr p0.toNatClampNeg) (sp_fl σ nr p1)) cM (7, nr, 0) = .inl (cA 2, 4, .inr (.inr (.inr (.inr (fun j => if j < 4 then some (y j) else none))))) := by
      show (Sum.inl (cA 2, 4, Sum.inr (Sum.inr (Sum.inr (Sum.inr (fun j => if j < 4 then some (zr_ad ad nr q x y z (8, nr, j)) else none))))) : va_E) = _
      simp only [a8]
    have c8 : ∀ t : Nat, ze_X (ze_D cA (zr_ad ad nr q x y z) nr (va_up len nr p0.toNatClampNeg) (sp_fl σ nr p1)) cM (8, nr, t) = .inr (1, [.int (nI t), .ref (z t), .int (sp_bt p1 t)]) := fun t => by
      show (Sum.inr (1, [Value.int (nI t), Value.ref (zr_ad ad nr q x y z (9, nr, t)), Value.int (sp_fl σ nr p1 (8, nr, t) 1)]) : va_E) = _
      rw [a9, z8]
    have c9 : ∀ t : Nat, ze_X (ze_D cA (zr_ad ad nr q x y z) nr (va_up len nr p0.toNatClampNeg) (sp_fl σ nr p1)) cM (9, nr, t) = .inl (cA 0, p0.toNatClampNeg, .inl (fun _ => 0)) := fun t => by
      show (Sum.inl (cA 0, va_up len nr p0.toNatClampNeg nr, Sum.inl (sp_fl σ nr p1 (9, nr, t))) : va_E) = _
      rw [z9, va_up_self]
    simp only [zr_R, List.map_cons, List.map_nil, a6, a7, a8, a9, c6, c7, c8, c9, zw_us]
    rfl
/-- the reels' row, with one more -/
theorem zr_up {cA : Nat → ClassId} {ad : zw_R → Nat} {R : List zw_R} {nr : Nat} {len : Nat → Nat} {σ : sp_S} {cM : zw_R → va_E} {n k : Nat} (hk : k = nr) (hZ : ze_Z n R) : zw_l ad R (zw_u (ze_X (ze_D cA ad nr len σ) cM) (1, 0, 0) (.inl (cA 1, 8, .inr (.inr (.inr (.inr (va_up (fun j => if j < nr then some (ad (6, j, 0)) else none) k (some (ad (6, nr, 0)))))))))) = zw_l ad R (ze_X (ze_D cA ad (nr + 1) len σ) cM) := by
  refine zw_congr (fun _ _ => rfl) (fun r hr => ?_)
  by_cases h : r = (1, 0, 0)
  · subst h
    rw [zw_us]
    show _ = (Sum.inl (cA 1, 8, Sum.inr (Sum.inr (Sum.inr (Sum.inr (fun j => if j < nr + 1 then some (ad (6, j, 0)) else none))))) : va_E)
    congr 7
    funext j
    unfold va_up
    by_cases h1 : j = k
    · rw [if_pos h1, if_pos (by omega), h1, hk]
    · rw [if_neg h1]
      show (if j < nr then some (ad (6, j, 0)) else none) = _
      by_cases h2 : j < nr
      · rw [if_pos h2, if_pos (by omega)]
      · rw [if_neg h2, if_neg (by omega)]
  · rw [zw_un _ _ h]
    have h1 := hZ r hr
    have h2 : r.1 ≠ 1 := fun q => by
      rcases h1 with h1 | h1 | h1
      · exact h (by obtain ⟨a, b⟩ := r; dsimp only at q h1; rw [q, h1.2])
      · omega
      · omega
    unfold ze_X ze_D ze_S
    split
    all_goals first | rfl | omega
/-- what is there of R and of the cells behind reel() -/
def zr_B (cA : Nat → ClassId) (ad : zw_R → Nat) (R : List zw_R) (cM : zw_R → va_E) (z : Int32 × Nat × (Nat → Nat) × sp_S) (ad' : zw_R → Nat) (R' : List zw_R) (cu' : zw_R → va_E) : Prop := (∀ r : zw_R, r.1 < 6 ∨ 20 ≤ r.1 → ad' r = ad r) ∧ (∀ r ∈ R, r ∈ R') ∧ ze_R z.2.1 R' ∧ ze_Z z.2.1 R' ∧ zw_l ad' R' cu' = zw_l ad' R' (ze_X (ze_D cA ad' z.2.1 z.2.2.1 z.2.2.2) cM)
theorem zr_adf {ad : zw_R → Nat} {nr q x : Nat} {y z : Nat → Nat} : ∀ r : zw_R, r.1 < 6 ∨ 20 ≤ r.1 → zr_ad ad nr q x y z r = ad r := by
  intro r h
  unfold zr_ad
  split
  all_goals first | rfl | omega
theorem zr_RR {nr : Nat} {R : List zw_R} (h : ze_R nr R) : ze_R (nr + 1) (R ++ zr_R nr) := by
  refine ⟨fun k hk => List.mem_append_left _ (h.1 k hk), fun i hi => ?_⟩
  by_cases hn : i = nr
  · subst hn
    refine ⟨List.mem_append_right _ (by simp [zr_R]), List.mem_append_right _ (by simp [zr_R]), fun t ht => ?_⟩
    match t, ht with
    | 0, _ => exact ⟨List.mem_append_right _ (by simp [zr_R]), List.mem_append_right _ (by simp [zr_R])⟩
    | 1, _ => exact ⟨List.mem_append_right _ (by simp [zr_R]), List.mem_append_right _ (by simp [zr_R])⟩
    | 2, _ => exact ⟨List.mem_append_right _ (by simp [zr_R]), List.mem_append_right _ (by simp [zr_R])⟩
    | 3, _ => exact ⟨List.mem_append_right _ (by simp [zr_R]), List.mem_append_right _ (by simp [zr_R])⟩
    | k + 4, h4 => exact absurd h4 (by omega)
  · obtain ⟨a, b, c⟩ := h.2 i (by omega)
    exact ⟨List.mem_append_left _ a, List.mem_append_left _ b, fun t ht => ⟨List.mem_append_left _ (c t ht).1, List.mem_append_left _ (c t ht).2⟩⟩
theorem zr_RO {nr : Nat} {R : List zw_R} (h : ze_R nr R) : ze_R nr (R ++ zr_R nr) := ⟨(zr_RR h).1, fun i hi => (zr_RR h).2 i (by omega)⟩
theorem zr_ZZ {nr : Nat} {R : List zw_R} (h : ze_Z nr R) : ze_Z (nr + 1) (R ++ zr_R nr) := by
  intro r hr
  rcases List.mem_append.mp hr with h1 | h1
  · rcases h r h1 with h2 | h2 | h2
    · exact Or.inl h2
    · exact Or.inr (Or.inl (by omega))
    · exact Or.inr (Or.inr h2)
  · refine Or.inr (Or.inl ?_)
    simp only [zr_R, List.mem_cons, List.not_mem_nil, or_false] at h1
    rcases h1 with h1 | h1 | h1 | h1 | h1 | h1 | h1 | h1 | h1 | h1 <;> subst h1 <;> (refine ⟨?_, ?_, ?_⟩ <;> dsimp only <;> omega)
