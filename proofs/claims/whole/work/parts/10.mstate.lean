/-! THE REFERENCE'S CELLS, read off the same numbers -/
def ze_M (cA : Nat → ClassId) (ad : zw_R → Nat) (len : Nat → Nat) (σ : sp_S) : zw_R → va_E := fun r => match r with
  | (20, 0, 0) => .inr (3, [.int (σ (0, 0, 0) 0), .ref (ad (21, 0, 0)), .ref (ad (22, 0, 0)), .ref (ad (23, 0, 0)), .int (σ (0, 0, 0) 1), .int (σ (0, 0, 0) 2), .ref (ad (24, 0, 0)), .ref (ad (25, 0, 0)), .ref (ad (26, 0, 0)), .int (σ (0, 0, 0) 3), .int (σ (0, 0, 0) 4), .int (σ (0, 0, 0) 7), .int (σ (0, 0, 0) 8), .int (σ (0, 0, 0) 5), .int (σ (0, 0, 0) 6), .ref (ad (27, 0, 0)), .int (σ (0, 0, 0) 9)])
  | (21, 0, 0) => .inl (cA 0, 8, .inl (fun i => nI (len i)))
  | (22, 0, 0) => .inl (cA 0, 8, .inl (fun i => sp_b σ i))
  | (23, 0, 0) => .inl (cA 0, 2048, .inl (fun k => σ (9, k / 256, k / 64 % 4) (k % 64)))
  | (24, 0, 0) => .inl (cA 0, 4, .inl (σ (2, 0, 0)))
  | (25, 0, 0) => .inl (cA 0, 4, .inl (σ (3, 0, 0)))
  | (26, 0, 0) => .inl (cA 0, 4, .inl (σ (4, 0, 0)))
  | (27, 0, 0) => .inl (cA 0, 256, .inl (σ (5, 0, 0)))
  | _ => .inr (0, [])
def zm_R (R : List zw_R) : Prop := ∀ k, k < 8 → (20 + k, 0, 0) ∈ R
theorem zm_X {cD cM cM' : zw_R → va_E} {r : zw_R} {e : va_E} (hr : Nat.blt r.1 20 = false) (h1 : cM' r = e) (h2 : ∀ q, q ≠ r → cM' q = cM q) : ze_X cD cM' = zw_u (ze_X cD cM) r e := by
  funext q
  by_cases h : q = r
  · subst h
    simp only [ze_X, zw_us, hr, cond_false, h1]
  · simp only [ze_X, zw_un _ _ h, h2 q h]
section ZM
variable {cA : Nat → ClassId} {ad : zw_R → Nat} {len : Nat → Nat} {σ : sp_S} {cD : zw_R → va_E}
theorem zm_D {j : Nat} {v : Int32} {e : va_E} (h1 : ze_M cA ad len (sp_s σ (0, 0, 0) j v) (20, 0, 0) = e) : ze_X cD (ze_M cA ad len (sp_s σ (0, 0, 0) j v)) = zw_u (ze_X cD (ze_M cA ad len σ)) (20, 0, 0) e := by
  refine zm_X rfl h1 (fun q h => ?_)
  unfold ze_M
  split
  · exact absurd rfl h
  all_goals rfl
theorem zm_A2 {x : Nat → Int32} {e : va_E} (h1 : ze_M cA ad len (zw_u σ (2, 0, 0) x) (24, 0, 0) = e) : ze_X cD (ze_M cA ad len (zw_u σ (2, 0, 0) x)) = zw_u (ze_X cD (ze_M cA ad len σ)) (24, 0, 0) e := by
  refine zm_X rfl h1 (fun q h => ?_)
  unfold ze_M
  split
  all_goals first | rfl | exact absurd rfl h
theorem zm_A3 {x : Nat → Int32} {e : va_E} (h1 : ze_M cA ad len (zw_u σ (3, 0, 0) x) (25, 0, 0) = e) : ze_X cD (ze_M cA ad len (zw_u σ (3, 0, 0) x)) = zw_u (ze_X cD (ze_M cA ad len σ)) (25, 0, 0) e := by
  refine zm_X rfl h1 (fun q h => ?_)
  unfold ze_M
  split
  all_goals first | rfl | exact absurd rfl h
theorem zm_A4 {x : Nat → Int32} {e : va_E} (h1 : ze_M cA ad len (zw_u σ (4, 0, 0) x) (26, 0, 0) = e) : ze_X cD (ze_M cA ad len (zw_u σ (4, 0, 0) x)) = zw_u (ze_X cD (ze_M cA ad len σ)) (26, 0, 0) e := by
  refine zm_X rfl h1 (fun q h => ?_)
  unfold ze_M
  split
  all_goals first | rfl | exact absurd rfl h
theorem zm_A5 {x : Nat → Int32} {e : va_E} (h1 : ze_M cA ad len (zw_u σ (5, 0, 0) x) (27, 0, 0) = e) : ze_X cD (ze_M cA ad len (zw_u σ (5, 0, 0) x)) = zw_u (ze_X cD (ze_M cA ad len σ)) (27, 0, 0) e := by
  refine zm_X rfl h1 (fun q h => ?_)
  unfold ze_M
  split
  all_goals first | rfl | exact absurd rfl h
/-- a number of a track -/
theorem zm_N {i t j k : Nat} {v : Int32} (hk : k = 256 * i + 64 * t + j) (ht : t < 4) (hj : j < 64) : ze_X cD (ze_M cA ad len (sp_s σ (9, i, t) j v)) = zw_u (ze_X cD (ze_M cA ad len σ)) (23, 0, 0) (.inl (cA 0, 2048, .inl (upd (fun k => σ (9, k / 256, k / 64 % 4) (k % 64)) k v))) := by
  refine zm_X rfl ?_ (fun q h => ?_)
  · show (Sum.inl (cA 0, 2048, Sum.inl (fun q => sp_s σ (9, i, t) j v (9, q / 256, q / 64 % 4) (q % 64))) : va_E) = _
    congr 4
    funext q
    unfold upd
    by_cases h : q = k
    · have h1 : q / 256 = i := by omega
      have h2 : q / 64 % 4 = t := by omega
      have h3 : q % 64 = j := by omega
      rw [if_pos h, h1, h2, h3]
      simp [sp_s, zw_u, upd]
    · rw [if_neg h]
      by_cases h4 : (9, q / 256, q / 64 % 4) = ((9, i, t) : zw_R)
      · have h5 : q / 256 = i := congrArg (fun z => z.2.1) h4
        have h6 : q / 64 % 4 = t := congrArg (fun z => z.2.2) h4
        have h7 : q % 64 ≠ j := by omega
        show _ = σ (9, q / 256, q / 64 % 4) (q % 64)
        rw [h5, h6]
        simp [sp_s, zw_u, upd, h7]
      · rw [show sp_s σ (9, i, t) j v (9, q / 256, q / 64 % 4) = σ (9, q / 256, q / 64 % 4) from zw_un _ _ h4]
  · unfold ze_M
    split
    all_goals first | rfl | exact absurd rfl h
theorem zm_T {i t : Nat} {x y : Int32} {w : Int32} (ht : t < 4) (hx : sp_b (sp_s σ (8, i, t) 1 x) i = w) : ze_X cD (ze_M cA ad len (sp_s σ (8, i, t) 1 x)) = zw_u (ze_X cD (ze_M cA ad len σ)) (22, 0, 0) (.inl (cA 0, 8, .inl (upd (fun i => sp_b σ i) i w))) := by
  refine zm_X rfl ?_ (fun q h => ?_)
  · show (Sum.inl (cA 0, 8, Sum.inl (fun q => sp_b (sp_s σ (8, i, t) 1 x) q)) : va_E) = _
    congr 4
    funext q
    unfold upd
    by_cases h : q = i
    · subst h
      rw [if_pos rfl, hx]
    · rw [if_neg h]
      have hne : ∀ b : Nat, sp_s σ (8, i, t) 1 x (8, q, b) = σ (8, q, b) := fun b => zw_un _ _ (fun z => h (congrArg (fun z => z.2.1) z))
      unfold sp_b
      rw [hne, hne, hne, hne]
  · unfold ze_M
    split
    all_goals first | rfl | exact absurd rfl h
end ZM
theorem zm_bit {σ : sp_S} {i t : Nat} (ht : t < 4) : (sp_b σ i >>> (nI t &&& 31)) &&& 1 = if σ (8, i, t) 1 = 0 then 0 else 1 := by
  unfold sp_b
  match t, ht with
  | 0, _ => split <;> split <;> split <;> split <;> rfl
  | 1, _ => split <;> split <;> split <;> split <;> rfl
  | 2, _ => split <;> split <;> split <;> split <;> rfl
  | 3, _ => split <;> split <;> split <;> split <;> rfl
  | k + 4, h => exact absurd h (by omega)
theorem zm_off {σ : sp_S} {i t : Nat} (ht : t < 4) : sp_b (sp_s σ (8, i, t) 1 0) i = sp_b σ i &&& (((1 : Int32) <<< (nI t &&& 31)) ^^^ (-1)) := by
  unfold sp_b
  match t, ht with
  | 0, _ => simp [sp_s, zw_u, upd]; split <;> split <;> split <;> split <;> rfl
  | 1, _ => simp [sp_s, zw_u, upd]; split <;> split <;> split <;> split <;> rfl
  | 2, _ => simp [sp_s, zw_u, upd]; split <;> split <;> split <;> split <;> rfl
  | 3, _ => simp [sp_s, zw_u, upd]; split <;> split <;> split <;> split <;> rfl
  | k + 4, h => exact absurd h (by omega)
theorem zm_on {σ : sp_S} {i t : Nat} (ht : t < 4) : sp_b (sp_s σ (8, i, t) 1 1) i = sp_b σ i ||| ((1 : Int32) <<< (nI t &&& 31)) := by
  unfold sp_b
  match t, ht with
  | 0, _ => simp [sp_s, zw_u, upd]; split <;> split <;> split <;> split <;> rfl
  | 1, _ => simp [sp_s, zw_u, upd]; split <;> split <;> split <;> split <;> rfl
  | 2, _ => simp [sp_s, zw_u, upd]; split <;> split <;> split <;> split <;> rfl
  | 3, _ => simp [sp_s, zw_u, upd]; split <;> split <;> split <;> split <;> rfl
  | k + 4, h => exact absurd h (by omega)
/-- where a number lies in the reference -/
theorem zm_at {a b p : Int32} {nr n : Nat} (ha : sp_r nr a) (hn : nr ≤ 8) (hb : sp_t b) (hp : vp_in p n) (h64 : n ≤ 64) : ((4 * a + b) * 64 + p).toNatClampNeg = 256 * a.toNatClampNeg + 64 * b.toNatClampNeg + p.toNatClampNeg ∧ vp_in ((4 * a + b) * 64 + p) 2048 ∧ p.toNatClampNeg < 64 := by
  have h1 := ze_vr ha hn
  have h2 := ze_vt hb
  obtain ⟨j, hj, ej⟩ := vp_in_of hp (by omega)
  have e : (4 * a + b) * 64 + p = nI ((4 * a.toNatClampNeg + b.toNatClampNeg) * 64 + j) := by
    conv => lhs; rw [← ze_nn ha.1, ← ze_nn hb.1, ej, show (4 : Int32) = nI 4 from rfl, show (64 : Int32) = nI 64 from rfl]
    rw [pk_mul, nI_add, pk_mul, nI_add]
  rw [e, ej, nI_clamp (by omega), nI_clamp (by omega)]
  exact ⟨by omega, vp_in_nI (by omega) (by decide), by omega⟩
theorem zm_rd {σ : sp_S} {a b p : Int32} {nr n : Nat} (ha : sp_r nr a) (hn : nr ≤ 8) (hb : sp_t b) (hp : vp_in p n) (h64 : n ≤ 64) : σ (9, ((4 * a + b) * 64 + p).toNatClampNeg / 256, ((4 * a + b) * 64 + p).toNatClampNeg / 64 % 4) (((4 * a + b) * 64 + p).toNatClampNeg % 64) = σ (9, a.toNatClampNeg, b.toNatClampNeg) p.toNatClampNeg := by
  obtain ⟨h1, h2, h3⟩ := zm_at ha hn hb hp h64
  have h4 := ze_vt hb
  rw [h1]
  rw [show (256 * a.toNatClampNeg + 64 * b.toNatClampNeg + p.toNatClampNeg) / 256 = a.toNatClampNeg by omega, show (256 * a.toNatClampNeg + 64 * b.toNatClampNeg + p.toNatClampNeg) / 64 % 4 = b.toNatClampNeg by omega, show (256 * a.toNatClampNeg + 64 * b.toNatClampNeg + p.toNatClampNeg) % 64 = p.toNatClampNeg by omega]
theorem zm_xor {a : Nat} (h : a < 65536) : a ^^^ 2 ^ 15 = (a + 32768) % 65536 := by
  have h1 : (a ^^^ 2 ^ 15) % 2 ^ 15 = a % 2 ^ 15 := by rw [Nat.xor_mod_two_pow, Nat.mod_self, Nat.xor_zero]
  have h2 : (a ^^^ 2 ^ 15) / 2 ^ 15 = (a / 2 ^ 15) ^^^ 1 := by rw [Nat.xor_div_two_pow, Nat.div_self (Nat.two_pow_pos 15)]
  have h3 : a / 2 ^ 15 = 0 ∨ a / 2 ^ 15 = 1 := by omega
  generalize a ^^^ 2 ^ 15 = t at h1 h2
  rcases h3 with h3 | h3
  · rw [h3] at h2
    have h2 : t / 2 ^ 15 = 1 := h2
    omega
  · rw [h3] at h2
    have h2 : t / 2 ^ 15 = 0 := h2
    omega
theorem zm_nx (a b : Nat) : nI a ^^^ nI b = nI (a ^^^ b) := by
  apply Int32.toBitVec_inj.mp
  show BitVec.ofNat 32 a ^^^ BitVec.ofNat 32 b = BitVec.ofNat 32 (a ^^^ b)
  rw [BitVec.ofNat_xor]
theorem zm_short (v : Int32) : ((v &&& 65535) ^^^ 32768) - 32768 = v.toInt16.toInt32 := by
  have e := pk_and v (m := 65535) 16 (by decide)
  rw [e, show (32768 : Int32) = nI (2 ^ 15) from rfl, zm_nx, zm_xor (Nat.mod_lt _ (by decide))]
  apply Int32.toInt_inj.mp
  rw [Int16.toInt_toInt32, Int32.toInt_toInt16, pk_sub_toInt (by omega) (by omega)]
  have hv : v.toInt = if 2 * v.toBitVec.toNat < 2 ^ 32 then (v.toBitVec.toNat : Int) else (v.toBitVec.toNat : Int) - (2 ^ 32 : Nat) := BitVec.toInt_eq_toNat_cond _
  have hb : v.toBitVec.toNat < 2 ^ 32 := v.toBitVec.isLt
  rw [hv, Int.bmod_def]
  omega
theorem zm_lev (v : Int32) : (if v < -32768 then -32768 else if 32768 < v then 32768 else v) = sp_as 2 v := by
  show _ = (if (-32768 : Int32) < (if v < 32768 then v else 32768) then (if v < 32768 then v else 32768) else -32768)
  have a1 : (-32768 : Int32).toInt = -32768 := rfl
  have a2 : (32768 : Int32).toInt = 32768 := rfl
  by_cases h1 : v < 32768
  · rw [if_pos h1]
    have b1 := ze_lt h1
    have h2 : ¬ (32768 : Int32) < v := fun q => by have := ze_lt q; omega
    rw [if_neg h2]
    by_cases h3 : (-32768 : Int32) < v
    · rw [if_pos h3, if_neg (fun q => by have := ze_lt q; have := ze_lt h3; omega)]
    · rw [if_neg h3]
      by_cases h4 : v < -32768
      · rw [if_pos h4]
      · rw [if_neg h4]
        exact Int32.toInt_inj.mp (by have := ze_nl h3; have := ze_nl h4; omega)
  · rw [if_neg h1, if_pos (show (-32768 : Int32) < 32768 by decide)]
    have b1 := ze_nl h1
    rw [if_neg (show ¬ v < -32768 from fun q => by have := ze_lt q; omega)]
    by_cases h2 : (32768 : Int32) < v
    · rw [if_pos h2]
    · rw [if_neg h2]
      exact Int32.toInt_inj.mp (by have := ze_nl h2; omega)
