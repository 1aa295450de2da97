/-! THE CLAIM OUT OF ONE WALK OF THE LAW'S BODY. Your part is whole_start (and what it stands on); all else here is the same for every law, but numbers. -/
def R_law : String := "FourTrackDeckLaw"
def lw_P (b : Addr) (xs : List Int32) (args : Array Value) (s : State) : Prop := args = #[.ref b] ∧ s.IntsAt b xs ∧ xs.length ≤ 3584 ∧ (Jvm.Cond.and given_1 narrow_1).before args s = true
def lw_Q (_ : Array Value) (s : State) (o : Outcome) (t : State) : Prop := o = .returned (some (.int 1)) ∧ Framed s o t [] 600000 7302250
def lw_Z (below : List Frame) (a : Array Value) (s : State) : State → Prop := fun t => ∃ o, t.status = .running ∧ Ended t below o ∧ lw_Q a s o t
/-- the law's own end, with 1 on the stack, nothing written that was there before, its room as the claim has it -/
theorem lw_ret {p : Program} {l : Launch} {e : Env} {s : State} {m : MethodId} {below : List Frame} {meth : Method} {c : Code} {b : Nat} (hx : p.tables.exec = Jvm.exec) (hb : c.code = code) (hr : meth.sig.returnType = ret) (hlocks : meth.locks = false) {pc : Nat} {H : Heap} {ls : Array Slot} (hdg : decode code pc = .ok (.ireturn, 1)) : W p l e room_1 s m #[Value.ref b] below meth c H [] 600000 7302250 (lw_Z below #[Value.ref b] s) (F0 m pc ls [.int 1]) := by
  intro T hT X
  obtain ⟨fs, hret, hrun, hended, hW, hframe⟩ := X.leave (v := some (.int 1)) (hlocks := hlocks) (fun h => by rw [hr] at h; cases h)
  have hmeth' : T.vm.method? m = some meth := X.method'
  refine ⟨T.setFrames fs, ?_, .returned (some (.int 1)), hrun, hended, rfl, ⟨_, rfl⟩, hW, hframe⟩
  jvm_step X.here [X.here.top, hx, hb, hdg, hmeth', hr, ret, narrow_b1]
  (try refine ⟨rfl, ?_⟩); (try refine ⟨rfl, ?_⟩)
  first | (intro acts; rw [hret _ acts rfl rfl rfl]) | rw [hret _ _ rfl rfl rfl]
  exact Steps.refl _
/-- what holds at the law's entry: the machine, the code, the tables' words (any of lw_tbl by 'hts w (by decide +kernel)'), the script of L ints xs at the cell b, what the Statement gives of the start (any of its parts by flat_of_before) -/
def lw_At (p : Program) (s : State) (m : MethodId) (meth : Method) (c : Code) (b L : Nat) (xs : Nat → Int32) : Prop :=
  p.tables.exec = Jvm.exec ∧ c.code = code ∧ meth.sig.returnType = ret ∧ c.maxLocals = 4 ∧ s.vm.findClass R_law = some m.cls ∧ (∀ w ∈ lw_tbl, w.before #[Value.ref b] s = true) ∧ va_X b L xs s s.heap ∧ b < s.heap.size ∧ meth.locks = false ∧ (Jvm.Cond.and given_1 narrow_1).before #[Value.ref b] s = true

/-- the law between two calls: the class and the reference hold the same numbers -/
def lw_Ok (dC : Nat → ClassId) (dI : Nat → Nat → Nat) (cA : Nat → ClassId) (b : Nat) (s : State) (ls : Array Slot) (x3 : Int32) (H : Heap) (locs : List Loc) : Prop := ∃ (ad : zw_R → Nat) (R : List zw_R) (nr : Nat) (len : Nat → Nat) (σ : sp_S), ze_R nr R ∧ ze_Z nr R ∧ zm_R R ∧ sp_I nr len σ ∧ va_P (ze_E dC dI cA).1 (ze_E dC dI cA).2.1 (zw_l ad R (ze_X (ze_D cA ad nr len σ) (ze_M cA ad len σ))) H ∧ va_D (fun q : Nat => s.heap.size ≤ q) (zw_l ad R (ze_X (ze_D cA ad nr len σ) (ze_M cA ad len σ))) ∧ va_S (fun q : Nat => s.heap.size ≤ q) s.heap H locs ∧ lv_has ls 4 [(0, .ref b), (1, .ref (ad (0, 0, 0))), (2, .ref (ad (20, 0, 0))), (3, .int x3)]
/-- what stays -/
def lw_Cx (p : Program) (s : State) (m : MethodId) (c : Code) (b L : Nat) (xs : Nat → Int32) (dC : Nat → ClassId) (dI : Nat → Nat → Nat) (cA : Nat → ClassId) : Prop := p.tables.exec = Jvm.exec ∧ c.code = cL_law ∧ c.maxLocals = 4 ∧ s.vm.findClass RL = some m.cls ∧ (∀ w ∈ wsL_law, w.before #[Value.ref b] s = true) ∧ va_X b L xs s s.heap ∧ b < s.heap.size ∧ va_K (ze_E dC dI cA).1 (ze_E dC dI cA).2.1 (ze_E dC dI cA).2.2 s ∧ zw_N s ∧ L ≤ 3584
set_option maxHeartbeats 4000000 in
set_option maxRecDepth 100000 in
/-- the call reel -/
theorem lw_c0 {p : Program} {l : Launch} {e : Env} {s : State} {m : MethodId} {below : List Frame} {meth : Method} {c : Code} {b L : Nat} {xs : Nat → Int32} {dC : Nat → ClassId} {dI : Nat → Nat → Nat} {cA : Nat → ClassId} {x3 : Int32} {j cells slots : Nat} {H : Heap} {locs : List Loc} {ls : Array Slot} (C : lw_Cx p s m c b L xs dC dI cA) (h3 : x3 = nI j) (hj : j + 7 ≤ L) (hc : cells + 10 ≤ 600000 ∧ slots + 273 ≤ 7302250) (hO : lw_Ok dC dI cA b s ls x3 H locs) (kk : ∀ (H1 : Heap) (locs1 : List Loc), lw_Ok dC dI cA b s ls x3 H1 locs1 → W p l e room_1 s m #[Value.ref b] below meth c H1 locs1 (cells + 10) (slots + 273) (lw_Z below #[Value.ref b] s) (F0 m 787 ls [])) : W p l e room_1 s m #[Value.ref b] below meth c H locs cells slots (lw_Z below #[Value.ref b] s) (F0 m 132 ls []) := by
  obtain ⟨hx, hb, hml, hown, hts, hX, hbl, hK, hN, hL⟩ := C
  obtain ⟨ad, R, nr, len, σ, hR, hZ, hM, hI, hP, hD, hS, hl⟩ := hO
  have hA : ∀ q : Nat, s.heap.size ≤ q → (fun q : Nat => s.heap.size ≤ q) q := fun _ h => h
  have hbA : ¬ (fun q : Nat => s.heap.size ≤ q) b := Nat.not_le.mpr hbl
  have hc1 : cells ≤ room_1.cells ∧ slots ≤ room_1.slots := ⟨show cells ≤ 600000 by omega, show slots ≤ 7302250 by omega⟩
  have i1 : vp_in (x3 + 1) L := by rw [h3, show (1 : Int32) = nI 1 from rfl, nI_add]; exact vp_in_nI (by omega) (by omega)
  have i2 : vp_in (x3 + 2) L := by rw [h3, show (2 : Int32) = nI 2 from rfl, nI_add]; exact vp_in_nI (by omega) (by omega)
  refine lv_aload_n hx hb dL_law_132 rfl (lv_at hl 1 rfl) ?_
  refine lv_aload_n hx hb dL_law_133 rfl (lv_at hl 0 rfl) ?_
  refine lv_iload_n hx hb dL_law_134 rfl (lv_at hl 3 rfl) ?_
  refine lv_iconst (v := 1) hx hb dL_law_135 (by decide) ?_
  refine lv_iadd hx hb dL_law_136 ?_
  refine va_sld hx hb hX hbl hbA hS i1 dL_law_137 ?_
  refine lv_aload_n hx hb dL_law_138 rfl (lv_at hl 0 rfl) ?_
  refine lv_iload_n hx hb dL_law_139 rfl (lv_at hl 3 rfl) ?_
  refine lv_iconst (v := 2) hx hb dL_law_140 (by decide) ?_
  refine lv_iadd hx hb dL_law_141 ?_
  refine va_sld hx hb hX hbl hbA hS i2 dL_law_142 ?_
  refine zw_cVG (r := (0, 0, 0)) (As := [.int (xs (x3 + 1).toNatClampNeg), .int (xs (x3 + 2).toNatClampNeg)]) (rest := []) (st1 := [.int (sp_reel nr len σ (xs (x3 + 1).toNatClampNeg) (xs (x3 + 2).toNatClampNeg)).1]) ⟨hx, hb, hml, hown, hts⟩ (cd_reel (σ := σ) hR hI hZ (xs (x3 + 1).toNatClampNeg) (xs (x3 + 2).toNatClampNeg)) (cwV 2 hts gL_law_X2_reel rfl rfl rfl (by decide +kernel) ⟨Nat.le_of_ble_eq_true rfl, Nat.le_of_ble_eq_true rfl⟩) (hR.1 0 (by decide)) rfl rfl rfl hK hP hD hS hA hN rfl hl.1 rfl (Nat.le_of_ble_eq_true rfl) rfl dL_law_143 ⟨show cells + 10 ≤ 600000 by omega, show slots + 273 ≤ 7302250 by omega⟩ (fun ad' R' cu' H locs hB hP hD hS => ?_)
  obtain ⟨g1, g2, g3, g4, g5⟩ := hB
  rw [g5, zm_ad g1] at hP hD
  have hM : zm_R R' := fun k hk => g2 _ (hM k hk)
  have hl : lv_has ls 4 [(0, .ref b), (1, .ref (ad' (0, 0, 0))), (2, .ref (ad' (20, 0, 0))), (3, .int x3)] := by rw [g1 (0, 0, 0) (by decide), g1 (20, 0, 0) (by decide)]; exact hl
  have hc1 : cells + 10 ≤ room_1.cells ∧ slots + 273 ≤ room_1.slots := ⟨show cells + 10 ≤ 600000 by omega, show slots + 273 ≤ 7302250 by omega⟩
  refine lv_aload_n hx hb dL_law_146 rfl (lv_at hl 2 rfl) ?_
  refine lv_aload_n hx hb dL_law_147 rfl (lv_at hl 0 rfl) ?_
  refine lv_iload_n hx hb dL_law_148 rfl (lv_at hl 3 rfl) ?_
  refine lv_iconst (v := 1) hx hb dL_law_149 (by decide) ?_
  refine lv_iadd hx hb dL_law_150 ?_
  refine va_sld hx hb hX hbl hbA hS i1 dL_law_151 ?_
  refine lv_aload_n hx hb dL_law_152 rfl (lv_at hl 0 rfl) ?_
  refine lv_iload_n hx hb dL_law_153 rfl (lv_at hl 3 rfl) ?_
  refine lv_iconst (v := 2) hx hb dL_law_154 (by decide) ?_
  refine lv_iadd hx hb dL_law_155 ?_
  refine va_sld hx hb hX hbl hbA hS i2 dL_law_156 ?_
  refine zw_cV (r := (20, 0, 0)) (As := [.int (xs (x3 + 1).toNatClampNeg), .int (xs (x3 + 2).toNatClampNeg)]) (rest := [.int (sp_reel nr len σ (xs (x3 + 1).toNatClampNeg) (xs (x3 + 2).toNatClampNeg)).1]) (st1 := [.int (sp_reel nr len σ (xs (x3 + 1).toNatClampNeg) (xs (x3 + 2).toNatClampNeg)).1, .int (sp_reel nr len σ (xs (x3 + 1).toNatClampNeg) (xs (x3 + 2).toNatClampNeg)).1]) ⟨hx, hb, hml, hown, hts⟩ (cm_reel (σ := σ) hM hI (xs (x3 + 1).toNatClampNeg) (xs (x3 + 2).toNatClampNeg)) (cwV 2 hts gL_law_X3_reel rfl rfl rfl (by decide +kernel) ⟨Nat.le_of_ble_eq_true rfl, Nat.le_of_ble_eq_true rfl⟩) (hM 0 (by decide)) rfl rfl rfl hK hP hD hS hA hN rfl hl.1 rfl (Nat.le_of_ble_eq_true rfl) rfl dL_law_157 hc1 (fun H locs hP hD hS => ?_)
  refine lv_icmp_eq (tgt := 787) hx hb dL_law_160 (by decide) (fun c_1 => ?_) (fun c_1 => absurd rfl c_1)
  exact kk _ _ ⟨ad', R', (sp_reel nr len σ (xs (x3 + 1).toNatClampNeg) (xs (x3 + 2).toNatClampNeg)).2.1, (sp_reel nr len σ (xs (x3 + 1).toNatClampNeg) (xs (x3 + 2).toNatClampNeg)).2.2.1, (sp_reel nr len σ (xs (x3 + 1).toNatClampNeg) (xs (x3 + 2).toNatClampNeg)).2.2.2, g3, g4, hM, sk_reel (xs (x3 + 1).toNatClampNeg) (xs (x3 + 2).toNatClampNeg) hI, hP, hD, hS, hl⟩
set_option maxHeartbeats 4000000 in
set_option maxRecDepth 100000 in
/-- the call strip -/
theorem lw_c1 {p : Program} {l : Launch} {e : Env} {s : State} {m : MethodId} {below : List Frame} {meth : Method} {c : Code} {b L : Nat} {xs : Nat → Int32} {dC : Nat → ClassId} {dI : Nat → Nat → Nat} {cA : Nat → ClassId} {x3 : Int32} {j cells slots : Nat} {H : Heap} {locs : List Loc} {ls : Array Slot} (C : lw_Cx p s m c b L xs dC dI cA) (h3 : x3 = nI j) (hj : j + 7 ≤ L) (hc : cells + 10 ≤ 600000 ∧ slots + 273 ≤ 7302250) (hO : lw_Ok dC dI cA b s ls x3 H locs) (kk : ∀ (H1 : Heap) (locs1 : List Loc), lw_Ok dC dI cA b s ls x3 H1 locs1 → W p l e room_1 s m #[Value.ref b] below meth c H1 locs1 (cells + 10) (slots + 273) (lw_Z below #[Value.ref b] s) (F0 m 787 ls [])) : W p l e room_1 s m #[Value.ref b] below meth c H locs cells slots (lw_Z below #[Value.ref b] s) (F0 m 165 ls []) := by
  obtain ⟨hx, hb, hml, hown, hts, hX, hbl, hK, hN, hL⟩ := C
  obtain ⟨ad, R, nr, len, σ, hR, hZ, hM, hI, hP, hD, hS, hl⟩ := hO
  have hA : ∀ q : Nat, s.heap.size ≤ q → (fun q : Nat => s.heap.size ≤ q) q := fun _ h => h
  have hbA : ¬ (fun q : Nat => s.heap.size ≤ q) b := Nat.not_le.mpr hbl
  have hc1 : cells ≤ room_1.cells ∧ slots ≤ room_1.slots := ⟨show cells ≤ 600000 by omega, show slots ≤ 7302250 by omega⟩
  have i1 : vp_in (x3 + 1) L := by rw [h3, show (1 : Int32) = nI 1 from rfl, nI_add]; exact vp_in_nI (by omega) (by omega)
  have i2 : vp_in (x3 + 2) L := by rw [h3, show (2 : Int32) = nI 2 from rfl, nI_add]; exact vp_in_nI (by omega) (by omega)
  refine lv_aload_n hx hb dL_law_165 rfl (lv_at hl 1 rfl) ?_
  refine lv_aload_n hx hb dL_law_166 rfl (lv_at hl 0 rfl) ?_
  refine lv_iload_n hx hb dL_law_167 rfl (lv_at hl 3 rfl) ?_
  refine lv_iconst (v := 1) hx hb dL_law_168 (by decide) ?_
  refine lv_iadd hx hb dL_law_169 ?_
  refine va_sld hx hb hX hbl hbA hS i1 dL_law_170 ?_
  refine lv_aload_n hx hb dL_law_171 rfl (lv_at hl 0 rfl) ?_
  refine lv_iload_n hx hb dL_law_172 rfl (lv_at hl 3 rfl) ?_
  refine lv_iconst (v := 2) hx hb dL_law_173 (by decide) ?_
  refine lv_iadd hx hb dL_law_174 ?_
  refine va_sld hx hb hX hbl hbA hS i2 dL_law_175 ?_
  refine zw_cV (r := (0, 0, 0)) (As := [.int (xs (x3 + 1).toNatClampNeg), .int (xs (x3 + 2).toNatClampNeg)]) (rest := []) (st1 := [.int (sp_strip nr len σ (xs (x3 + 1).toNatClampNeg) (xs (x3 + 2).toNatClampNeg)).1]) ⟨hx, hb, hml, hown, hts⟩ (cd_strip (σ := σ) hR hI.1 (xs (x3 + 1).toNatClampNeg) (xs (x3 + 2).toNatClampNeg)) (cwV 2 hts gL_law_X2_strip rfl rfl rfl (by decide +kernel) ⟨Nat.le_of_ble_eq_true rfl, Nat.le_of_ble_eq_true rfl⟩) (hR.1 0 (by decide)) rfl rfl rfl hK hP hD hS hA hN rfl hl.1 rfl (Nat.le_of_ble_eq_true rfl) rfl dL_law_176 hc1 (fun H locs hP hD hS => ?_)
  refine lv_aload_n hx hb dL_law_179 rfl (lv_at hl 2 rfl) ?_
  refine lv_aload_n hx hb dL_law_180 rfl (lv_at hl 0 rfl) ?_
  refine lv_iload_n hx hb dL_law_181 rfl (lv_at hl 3 rfl) ?_
  refine lv_iconst (v := 1) hx hb dL_law_182 (by decide) ?_
  refine lv_iadd hx hb dL_law_183 ?_
  refine va_sld hx hb hX hbl hbA hS i1 dL_law_184 ?_
  refine lv_aload_n hx hb dL_law_185 rfl (lv_at hl 0 rfl) ?_
  refine lv_iload_n hx hb dL_law_186 rfl (lv_at hl 3 rfl) ?_
  refine lv_iconst (v := 2) hx hb dL_law_187 (by decide) ?_
  refine lv_iadd hx hb dL_law_188 ?_
  refine va_sld hx hb hX hbl hbA hS i2 dL_law_189 ?_
  refine zw_cV (r := (20, 0, 0)) (As := [.int (xs (x3 + 1).toNatClampNeg), .int (xs (x3 + 2).toNatClampNeg)]) (rest := [.int (sp_strip nr len σ (xs (x3 + 1).toNatClampNeg) (xs (x3 + 2).toNatClampNeg)).1]) (st1 := [.int (sp_strip nr len σ (xs (x3 + 1).toNatClampNeg) (xs (x3 + 2).toNatClampNeg)).1, .int (sp_strip nr len σ (xs (x3 + 1).toNatClampNeg) (xs (x3 + 2).toNatClampNeg)).1]) ⟨hx, hb, hml, hown, hts⟩ (cm_strip (σ := σ) hM hI.1 hI.2.1 (xs (x3 + 1).toNatClampNeg) (xs (x3 + 2).toNatClampNeg)) (cwV 2 hts gL_law_X3_strip rfl rfl rfl (by decide +kernel) ⟨Nat.le_of_ble_eq_true rfl, Nat.le_of_ble_eq_true rfl⟩) (hM 0 (by decide)) rfl rfl rfl hK hP hD hS hA hN rfl hl.1 rfl (Nat.le_of_ble_eq_true rfl) rfl dL_law_190 hc1 (fun H locs hP hD hS => ?_)
  refine lv_icmp_eq (tgt := 787) hx hb dL_law_193 (by decide) (fun c_1 => ?_) (fun c_1 => absurd rfl c_1)
  refine W.widen (k := cells + 10) (n := slots + 273) (by omega) (by omega) ?_
  exact kk _ _ ⟨ad, R, nr, len, (sp_strip nr len σ (xs (x3 + 1).toNatClampNeg) (xs (x3 + 2).toNatClampNeg)).2, hR, hZ, hM, sk_strip (xs (x3 + 1).toNatClampNeg) (xs (x3 + 2).toNatClampNeg) hI, hP, hD, hS, hl⟩
set_option maxHeartbeats 4000000 in
set_option maxRecDepth 100000 in
/-- the call lay -/
theorem lw_c2 {p : Program} {l : Launch} {e : Env} {s : State} {m : MethodId} {below : List Frame} {meth : Method} {c : Code} {b L : Nat} {xs : Nat → Int32} {dC : Nat → ClassId} {dI : Nat → Nat → Nat} {cA : Nat → ClassId} {x3 : Int32} {j cells slots : Nat} {H : Heap} {locs : List Loc} {ls : Array Slot} (C : lw_Cx p s m c b L xs dC dI cA) (h3 : x3 = nI j) (hj : j + 7 ≤ L) (hc : cells + 10 ≤ 600000 ∧ slots + 273 ≤ 7302250) (hO : lw_Ok dC dI cA b s ls x3 H locs) (kk : ∀ (H1 : Heap) (locs1 : List Loc), lw_Ok dC dI cA b s ls x3 H1 locs1 → W p l e room_1 s m #[Value.ref b] below meth c H1 locs1 (cells + 10) (slots + 273) (lw_Z below #[Value.ref b] s) (F0 m 787 ls [])) : W p l e room_1 s m #[Value.ref b] below meth c H locs cells slots (lw_Z below #[Value.ref b] s) (F0 m 198 ls []) := by
  obtain ⟨hx, hb, hml, hown, hts, hX, hbl, hK, hN, hL⟩ := C
  obtain ⟨ad, R, nr, len, σ, hR, hZ, hM, hI, hP, hD, hS, hl⟩ := hO
  have hA : ∀ q : Nat, s.heap.size ≤ q → (fun q : Nat => s.heap.size ≤ q) q := fun _ h => h
  have hbA : ¬ (fun q : Nat => s.heap.size ≤ q) b := Nat.not_le.mpr hbl
  have hc1 : cells ≤ room_1.cells ∧ slots ≤ room_1.slots := ⟨show cells ≤ 600000 by omega, show slots ≤ 7302250 by omega⟩
  have i1 : vp_in (x3 + 1) L := by rw [h3, show (1 : Int32) = nI 1 from rfl, nI_add]; exact vp_in_nI (by omega) (by omega)
  have i2 : vp_in (x3 + 2) L := by rw [h3, show (2 : Int32) = nI 2 from rfl, nI_add]; exact vp_in_nI (by omega) (by omega)
  refine lv_aload_n hx hb dL_law_198 rfl (lv_at hl 1 rfl) ?_
  refine lv_aload_n hx hb dL_law_199 rfl (lv_at hl 0 rfl) ?_
  refine lv_iload_n hx hb dL_law_200 rfl (lv_at hl 3 rfl) ?_
  refine lv_iconst (v := 1) hx hb dL_law_201 (by decide) ?_
  refine lv_iadd hx hb dL_law_202 ?_
  refine va_sld hx hb hX hbl hbA hS i1 dL_law_203 ?_
  refine lv_aload_n hx hb dL_law_204 rfl (lv_at hl 0 rfl) ?_
  refine lv_iload_n hx hb dL_law_205 rfl (lv_at hl 3 rfl) ?_
  refine lv_iconst (v := 2) hx hb dL_law_206 (by decide) ?_
  refine lv_iadd hx hb dL_law_207 ?_
  refine va_sld hx hb hX hbl hbA hS i2 dL_law_208 ?_
  refine zw_cV (r := (0, 0, 0)) (As := [.int (xs (x3 + 1).toNatClampNeg), .int (xs (x3 + 2).toNatClampNeg)]) (rest := []) (st1 := [.int (sp_lay nr len σ (xs (x3 + 1).toNatClampNeg) (xs (x3 + 2).toNatClampNeg)).1]) ⟨hx, hb, hml, hown, hts⟩ (cd_lay (σ := σ) hR hI.1 hI.2.2.2.2.1 (xs (x3 + 1).toNatClampNeg) (xs (x3 + 2).toNatClampNeg)) (cwV 2 hts gL_law_X2_lay rfl rfl rfl (by decide +kernel) ⟨Nat.le_of_ble_eq_true rfl, Nat.le_of_ble_eq_true rfl⟩) (hR.1 0 (by decide)) rfl rfl rfl hK hP hD hS hA hN rfl hl.1 rfl (Nat.le_of_ble_eq_true rfl) rfl dL_law_209 hc1 (fun H locs hP hD hS => ?_)
  refine lv_aload_n hx hb dL_law_212 rfl (lv_at hl 2 rfl) ?_
  refine lv_aload_n hx hb dL_law_213 rfl (lv_at hl 0 rfl) ?_
  refine lv_iload_n hx hb dL_law_214 rfl (lv_at hl 3 rfl) ?_
  refine lv_iconst (v := 1) hx hb dL_law_215 (by decide) ?_
  refine lv_iadd hx hb dL_law_216 ?_
  refine va_sld hx hb hX hbl hbA hS i1 dL_law_217 ?_
  refine lv_aload_n hx hb dL_law_218 rfl (lv_at hl 0 rfl) ?_
  refine lv_iload_n hx hb dL_law_219 rfl (lv_at hl 3 rfl) ?_
  refine lv_iconst (v := 2) hx hb dL_law_220 (by decide) ?_
  refine lv_iadd hx hb dL_law_221 ?_
  refine va_sld hx hb hX hbl hbA hS i2 dL_law_222 ?_
  refine zw_cV (r := (20, 0, 0)) (As := [.int (xs (x3 + 1).toNatClampNeg), .int (xs (x3 + 2).toNatClampNeg)]) (rest := [.int (sp_lay nr len σ (xs (x3 + 1).toNatClampNeg) (xs (x3 + 2).toNatClampNeg)).1]) (st1 := [.int (sp_lay nr len σ (xs (x3 + 1).toNatClampNeg) (xs (x3 + 2).toNatClampNeg)).1, .int (sp_lay nr len σ (xs (x3 + 1).toNatClampNeg) (xs (x3 + 2).toNatClampNeg)).1]) ⟨hx, hb, hml, hown, hts⟩ (cm_lay (σ := σ) hM hI (xs (x3 + 1).toNatClampNeg) (xs (x3 + 2).toNatClampNeg)) (cwV 2 hts gL_law_X3_lay rfl rfl rfl (by decide +kernel) ⟨Nat.le_of_ble_eq_true rfl, Nat.le_of_ble_eq_true rfl⟩) (hM 0 (by decide)) rfl rfl rfl hK hP hD hS hA hN rfl hl.1 rfl (Nat.le_of_ble_eq_true rfl) rfl dL_law_223 hc1 (fun H locs hP hD hS => ?_)
  refine lv_icmp_eq (tgt := 787) hx hb dL_law_226 (by decide) (fun c_1 => ?_) (fun c_1 => absurd rfl c_1)
  refine W.widen (k := cells + 10) (n := slots + 273) (by omega) (by omega) ?_
  exact kk _ _ ⟨ad, R, nr, len, (sp_lay nr len σ (xs (x3 + 1).toNatClampNeg) (xs (x3 + 2).toNatClampNeg)).2, hR, hZ, hM, sk_lay (xs (x3 + 1).toNatClampNeg) (xs (x3 + 2).toNatClampNeg) hI, hP, hD, hS, hl⟩
set_option maxHeartbeats 4000000 in
set_option maxRecDepth 100000 in
/-- the call thread -/
theorem lw_c3 {p : Program} {l : Launch} {e : Env} {s : State} {m : MethodId} {below : List Frame} {meth : Method} {c : Code} {b L : Nat} {xs : Nat → Int32} {dC : Nat → ClassId} {dI : Nat → Nat → Nat} {cA : Nat → ClassId} {x3 : Int32} {j cells slots : Nat} {H : Heap} {locs : List Loc} {ls : Array Slot} (C : lw_Cx p s m c b L xs dC dI cA) (h3 : x3 = nI j) (hj : j + 7 ≤ L) (hc : cells + 10 ≤ 600000 ∧ slots + 273 ≤ 7302250) (hO : lw_Ok dC dI cA b s ls x3 H locs) (kk : ∀ (H1 : Heap) (locs1 : List Loc), lw_Ok dC dI cA b s ls x3 H1 locs1 → W p l e room_1 s m #[Value.ref b] below meth c H1 locs1 (cells + 10) (slots + 273) (lw_Z below #[Value.ref b] s) (F0 m 787 ls [])) : W p l e room_1 s m #[Value.ref b] below meth c H locs cells slots (lw_Z below #[Value.ref b] s) (F0 m 231 ls []) := by
  obtain ⟨hx, hb, hml, hown, hts, hX, hbl, hK, hN, hL⟩ := C
  obtain ⟨ad, R, nr, len, σ, hR, hZ, hM, hI, hP, hD, hS, hl⟩ := hO
  have hA : ∀ q : Nat, s.heap.size ≤ q → (fun q : Nat => s.heap.size ≤ q) q := fun _ h => h
  have hbA : ¬ (fun q : Nat => s.heap.size ≤ q) b := Nat.not_le.mpr hbl
  have hc1 : cells ≤ room_1.cells ∧ slots ≤ room_1.slots := ⟨show cells ≤ 600000 by omega, show slots ≤ 7302250 by omega⟩
  have i1 : vp_in (x3 + 1) L := by rw [h3, show (1 : Int32) = nI 1 from rfl, nI_add]; exact vp_in_nI (by omega) (by omega)
  refine lv_aload_n hx hb dL_law_231 rfl (lv_at hl 1 rfl) ?_
  refine lv_aload_n hx hb dL_law_232 rfl (lv_at hl 0 rfl) ?_
  refine lv_iload_n hx hb dL_law_233 rfl (lv_at hl 3 rfl) ?_
  refine lv_iconst (v := 1) hx hb dL_law_234 (by decide) ?_
  refine lv_iadd hx hb dL_law_235 ?_
  refine va_sld hx hb hX hbl hbA hS i1 dL_law_236 ?_
  refine zw_cV (r := (0, 0, 0)) (As := [.int (xs (x3 + 1).toNatClampNeg)]) (rest := []) (st1 := [.int (sp_thread nr len σ (xs (x3 + 1).toNatClampNeg)).1]) ⟨hx, hb, hml, hown, hts⟩ (cd_thread (σ := σ) hR hI.1 (xs (x3 + 1).toNatClampNeg)) (cwV 1 hts gL_law_X2_thread rfl rfl rfl (by decide +kernel) ⟨Nat.le_of_ble_eq_true rfl, Nat.le_of_ble_eq_true rfl⟩) (hR.1 0 (by decide)) rfl rfl rfl hK hP hD hS hA hN rfl hl.1 rfl (Nat.le_of_ble_eq_true rfl) rfl dL_law_237 hc1 (fun H locs hP hD hS => ?_)
  refine lv_aload_n hx hb dL_law_240 rfl (lv_at hl 2 rfl) ?_
  refine lv_aload_n hx hb dL_law_241 rfl (lv_at hl 0 rfl) ?_
  refine lv_iload_n hx hb dL_law_242 rfl (lv_at hl 3 rfl) ?_
  refine lv_iconst (v := 1) hx hb dL_law_243 (by decide) ?_
  refine lv_iadd hx hb dL_law_244 ?_
  refine va_sld hx hb hX hbl hbA hS i1 dL_law_245 ?_
  refine zw_cV (r := (20, 0, 0)) (As := [.int (xs (x3 + 1).toNatClampNeg)]) (rest := [.int (sp_thread nr len σ (xs (x3 + 1).toNatClampNeg)).1]) (st1 := [.int (sp_thread nr len σ (xs (x3 + 1).toNatClampNeg)).1, .int (sp_thread nr len σ (xs (x3 + 1).toNatClampNeg)).1]) ⟨hx, hb, hml, hown, hts⟩ (cm_thread (σ := σ) hM hI.2.1 (xs (x3 + 1).toNatClampNeg)) (cwV 1 hts gL_law_X3_thread rfl rfl rfl (by decide +kernel) ⟨Nat.le_of_ble_eq_true rfl, Nat.le_of_ble_eq_true rfl⟩) (hM 0 (by decide)) rfl rfl rfl hK hP hD hS hA hN rfl hl.1 rfl (Nat.le_of_ble_eq_true rfl) rfl dL_law_246 hc1 (fun H locs hP hD hS => ?_)
  refine lv_icmp_eq (tgt := 787) hx hb dL_law_249 (by decide) (fun c_1 => ?_) (fun c_1 => absurd rfl c_1)
  refine W.widen (k := cells + 10) (n := slots + 273) (by omega) (by omega) ?_
  exact kk _ _ ⟨ad, R, nr, len, (sp_thread nr len σ (xs (x3 + 1).toNatClampNeg)).2, hR, hZ, hM, sk_thread (xs (x3 + 1).toNatClampNeg) hI, hP, hD, hS, hl⟩
set_option maxHeartbeats 4000000 in
set_option maxRecDepth 100000 in
/-- the call head -/
theorem lw_c4 {p : Program} {l : Launch} {e : Env} {s : State} {m : MethodId} {below : List Frame} {meth : Method} {c : Code} {b L : Nat} {xs : Nat → Int32} {dC : Nat → ClassId} {dI : Nat → Nat → Nat} {cA : Nat → ClassId} {x3 : Int32} {j cells slots : Nat} {H : Heap} {locs : List Loc} {ls : Array Slot} (C : lw_Cx p s m c b L xs dC dI cA) (h3 : x3 = nI j) (hj : j + 7 ≤ L) (hc : cells + 10 ≤ 600000 ∧ slots + 273 ≤ 7302250) (hO : lw_Ok dC dI cA b s ls x3 H locs) (kk : ∀ (H1 : Heap) (locs1 : List Loc), lw_Ok dC dI cA b s ls x3 H1 locs1 → W p l e room_1 s m #[Value.ref b] below meth c H1 locs1 (cells + 10) (slots + 273) (lw_Z below #[Value.ref b] s) (F0 m 787 ls [])) : W p l e room_1 s m #[Value.ref b] below meth c H locs cells slots (lw_Z below #[Value.ref b] s) (F0 m 254 ls []) := by
  obtain ⟨hx, hb, hml, hown, hts, hX, hbl, hK, hN, hL⟩ := C
  obtain ⟨ad, R, nr, len, σ, hR, hZ, hM, hI, hP, hD, hS, hl⟩ := hO
  have hA : ∀ q : Nat, s.heap.size ≤ q → (fun q : Nat => s.heap.size ≤ q) q := fun _ h => h
  have hbA : ¬ (fun q : Nat => s.heap.size ≤ q) b := Nat.not_le.mpr hbl
  have hc1 : cells ≤ room_1.cells ∧ slots ≤ room_1.slots := ⟨show cells ≤ 600000 by omega, show slots ≤ 7302250 by omega⟩
  have i1 : vp_in (x3 + 1) L := by rw [h3, show (1 : Int32) = nI 1 from rfl, nI_add]; exact vp_in_nI (by omega) (by omega)
  have i2 : vp_in (x3 + 2) L := by rw [h3, show (2 : Int32) = nI 2 from rfl, nI_add]; exact vp_in_nI (by omega) (by omega)
  refine lv_aload_n hx hb dL_law_254 rfl (lv_at hl 1 rfl) ?_
  refine lv_aload_n hx hb dL_law_255 rfl (lv_at hl 0 rfl) ?_
  refine lv_iload_n hx hb dL_law_256 rfl (lv_at hl 3 rfl) ?_
  refine lv_iconst (v := 1) hx hb dL_law_257 (by decide) ?_
  refine lv_iadd hx hb dL_law_258 ?_
  refine va_sld hx hb hX hbl hbA hS i1 dL_law_259 ?_
  refine lv_aload_n hx hb dL_law_260 rfl (lv_at hl 0 rfl) ?_
  refine lv_iload_n hx hb dL_law_261 rfl (lv_at hl 3 rfl) ?_
  refine lv_iconst (v := 2) hx hb dL_law_262 (by decide) ?_
  refine lv_iadd hx hb dL_law_263 ?_
  refine va_sld hx hb hX hbl hbA hS i2 dL_law_264 ?_
  refine zw_cV (r := (0, 0, 0)) (As := [.int (xs (x3 + 1).toNatClampNeg), .int (xs (x3 + 2).toNatClampNeg)]) (rest := []) (st1 := [.int (sp_head nr len σ (xs (x3 + 1).toNatClampNeg) (xs (x3 + 2).toNatClampNeg)).1]) ⟨hx, hb, hml, hown, hts⟩ (cd_head (σ := σ) hR (xs (x3 + 1).toNatClampNeg) (xs (x3 + 2).toNatClampNeg)) (cwV 2 hts gL_law_X2_head rfl rfl rfl (by decide +kernel) ⟨Nat.le_of_ble_eq_true rfl, Nat.le_of_ble_eq_true rfl⟩) (hR.1 0 (by decide)) rfl rfl rfl hK hP hD hS hA hN rfl hl.1 rfl (Nat.le_of_ble_eq_true rfl) rfl dL_law_265 hc1 (fun H locs hP hD hS => ?_)
  refine lv_aload_n hx hb dL_law_268 rfl (lv_at hl 2 rfl) ?_
  refine lv_aload_n hx hb dL_law_269 rfl (lv_at hl 0 rfl) ?_
  refine lv_iload_n hx hb dL_law_270 rfl (lv_at hl 3 rfl) ?_
  refine lv_iconst (v := 1) hx hb dL_law_271 (by decide) ?_
  refine lv_iadd hx hb dL_law_272 ?_
  refine va_sld hx hb hX hbl hbA hS i1 dL_law_273 ?_
  refine lv_aload_n hx hb dL_law_274 rfl (lv_at hl 0 rfl) ?_
  refine lv_iload_n hx hb dL_law_275 rfl (lv_at hl 3 rfl) ?_
  refine lv_iconst (v := 2) hx hb dL_law_276 (by decide) ?_
  refine lv_iadd hx hb dL_law_277 ?_
  refine va_sld hx hb hX hbl hbA hS i2 dL_law_278 ?_
  refine zw_cV (r := (20, 0, 0)) (As := [.int (xs (x3 + 1).toNatClampNeg), .int (xs (x3 + 2).toNatClampNeg)]) (rest := [.int (sp_head nr len σ (xs (x3 + 1).toNatClampNeg) (xs (x3 + 2).toNatClampNeg)).1]) (st1 := [.int (sp_head nr len σ (xs (x3 + 1).toNatClampNeg) (xs (x3 + 2).toNatClampNeg)).1, .int (sp_head nr len σ (xs (x3 + 1).toNatClampNeg) (xs (x3 + 2).toNatClampNeg)).1]) ⟨hx, hb, hml, hown, hts⟩ (cm_head (nr := nr) (σ := σ) hM (xs (x3 + 1).toNatClampNeg) (xs (x3 + 2).toNatClampNeg)) (cwV 2 hts gL_law_X3_head rfl rfl rfl (by decide +kernel) ⟨Nat.le_of_ble_eq_true rfl, Nat.le_of_ble_eq_true rfl⟩) (hM 0 (by decide)) rfl rfl rfl hK hP hD hS hA hN rfl hl.1 rfl (Nat.le_of_ble_eq_true rfl) rfl dL_law_279 hc1 (fun H locs hP hD hS => ?_)
  refine lv_icmp_eq (tgt := 787) hx hb dL_law_282 (by decide) (fun c_1 => ?_) (fun c_1 => absurd rfl c_1)
  refine W.widen (k := cells + 10) (n := slots + 273) (by omega) (by omega) ?_
  exact kk _ _ ⟨ad, R, nr, len, (sp_head nr len σ (xs (x3 + 1).toNatClampNeg) (xs (x3 + 2).toNatClampNeg)).2, hR, hZ, hM, sk_head (xs (x3 + 1).toNatClampNeg) (xs (x3 + 2).toNatClampNeg) hI, hP, hD, hS, hl⟩
set_option maxHeartbeats 4000000 in
set_option maxRecDepth 100000 in
/-- the call arm -/
theorem lw_c5 {p : Program} {l : Launch} {e : Env} {s : State} {m : MethodId} {below : List Frame} {meth : Method} {c : Code} {b L : Nat} {xs : Nat → Int32} {dC : Nat → ClassId} {dI : Nat → Nat → Nat} {cA : Nat → ClassId} {x3 : Int32} {j cells slots : Nat} {H : Heap} {locs : List Loc} {ls : Array Slot} (C : lw_Cx p s m c b L xs dC dI cA) (h3 : x3 = nI j) (hj : j + 7 ≤ L) (hc : cells + 10 ≤ 600000 ∧ slots + 273 ≤ 7302250) (hO : lw_Ok dC dI cA b s ls x3 H locs) (kk : ∀ (H1 : Heap) (locs1 : List Loc), lw_Ok dC dI cA b s ls x3 H1 locs1 → W p l e room_1 s m #[Value.ref b] below meth c H1 locs1 (cells + 10) (slots + 273) (lw_Z below #[Value.ref b] s) (F0 m 787 ls [])) : W p l e room_1 s m #[Value.ref b] below meth c H locs cells slots (lw_Z below #[Value.ref b] s) (F0 m 287 ls []) := by
  obtain ⟨hx, hb, hml, hown, hts, hX, hbl, hK, hN, hL⟩ := C
  obtain ⟨ad, R, nr, len, σ, hR, hZ, hM, hI, hP, hD, hS, hl⟩ := hO
  have hA : ∀ q : Nat, s.heap.size ≤ q → (fun q : Nat => s.heap.size ≤ q) q := fun _ h => h
  have hbA : ¬ (fun q : Nat => s.heap.size ≤ q) b := Nat.not_le.mpr hbl
  have hc1 : cells ≤ room_1.cells ∧ slots ≤ room_1.slots := ⟨show cells ≤ 600000 by omega, show slots ≤ 7302250 by omega⟩
  have i1 : vp_in (x3 + 1) L := by rw [h3, show (1 : Int32) = nI 1 from rfl, nI_add]; exact vp_in_nI (by omega) (by omega)
  have i2 : vp_in (x3 + 2) L := by rw [h3, show (2 : Int32) = nI 2 from rfl, nI_add]; exact vp_in_nI (by omega) (by omega)
  refine lv_aload_n hx hb dL_law_287 rfl (lv_at hl 1 rfl) ?_
  refine lv_aload_n hx hb dL_law_288 rfl (lv_at hl 0 rfl) ?_
  refine lv_iload_n hx hb dL_law_289 rfl (lv_at hl 3 rfl) ?_
  refine lv_iconst (v := 1) hx hb dL_law_290 (by decide) ?_
  refine lv_iadd hx hb dL_law_291 ?_
  refine va_sld hx hb hX hbl hbA hS i1 dL_law_292 ?_
  refine lv_aload_n hx hb dL_law_293 rfl (lv_at hl 0 rfl) ?_
  refine lv_iload_n hx hb dL_law_294 rfl (lv_at hl 3 rfl) ?_
  refine lv_iconst (v := 2) hx hb dL_law_295 (by decide) ?_
  refine lv_iadd hx hb dL_law_296 ?_
  refine va_sld hx hb hX hbl hbA hS i2 dL_law_297 ?_
  refine zw_cV (r := (0, 0, 0)) (As := [.int (xs (x3 + 1).toNatClampNeg), .int (xs (x3 + 2).toNatClampNeg)]) (rest := []) (st1 := [.int (sp_arm nr len σ (xs (x3 + 1).toNatClampNeg) (xs (x3 + 2).toNatClampNeg)).1]) ⟨hx, hb, hml, hown, hts⟩ (cd_arm (σ := σ) hR (xs (x3 + 1).toNatClampNeg) (xs (x3 + 2).toNatClampNeg)) (cwV 2 hts gL_law_X2_arm rfl rfl rfl (by decide +kernel) ⟨Nat.le_of_ble_eq_true rfl, Nat.le_of_ble_eq_true rfl⟩) (hR.1 0 (by decide)) rfl rfl rfl hK hP hD hS hA hN rfl hl.1 rfl (Nat.le_of_ble_eq_true rfl) rfl dL_law_298 hc1 (fun H locs hP hD hS => ?_)
  refine lv_aload_n hx hb dL_law_301 rfl (lv_at hl 2 rfl) ?_
  refine lv_aload_n hx hb dL_law_302 rfl (lv_at hl 0 rfl) ?_
  refine lv_iload_n hx hb dL_law_303 rfl (lv_at hl 3 rfl) ?_
  refine lv_iconst (v := 1) hx hb dL_law_304 (by decide) ?_
  refine lv_iadd hx hb dL_law_305 ?_
  refine va_sld hx hb hX hbl hbA hS i1 dL_law_306 ?_
  refine lv_aload_n hx hb dL_law_307 rfl (lv_at hl 0 rfl) ?_
  refine lv_iload_n hx hb dL_law_308 rfl (lv_at hl 3 rfl) ?_
  refine lv_iconst (v := 2) hx hb dL_law_309 (by decide) ?_
  refine lv_iadd hx hb dL_law_310 ?_
  refine va_sld hx hb hX hbl hbA hS i2 dL_law_311 ?_
  refine zw_cV (r := (20, 0, 0)) (As := [.int (xs (x3 + 1).toNatClampNeg), .int (xs (x3 + 2).toNatClampNeg)]) (rest := [.int (sp_arm nr len σ (xs (x3 + 1).toNatClampNeg) (xs (x3 + 2).toNatClampNeg)).1]) (st1 := [.int (sp_arm nr len σ (xs (x3 + 1).toNatClampNeg) (xs (x3 + 2).toNatClampNeg)).1, .int (sp_arm nr len σ (xs (x3 + 1).toNatClampNeg) (xs (x3 + 2).toNatClampNeg)).1]) ⟨hx, hb, hml, hown, hts⟩ (cm_arm (nr := nr) (σ := σ) hM (xs (x3 + 1).toNatClampNeg) (xs (x3 + 2).toNatClampNeg)) (cwV 2 hts gL_law_X3_arm rfl rfl rfl (by decide +kernel) ⟨Nat.le_of_ble_eq_true rfl, Nat.le_of_ble_eq_true rfl⟩) (hM 0 (by decide)) rfl rfl rfl hK hP hD hS hA hN rfl hl.1 rfl (Nat.le_of_ble_eq_true rfl) rfl dL_law_312 hc1 (fun H locs hP hD hS => ?_)
  refine lv_icmp_eq (tgt := 787) hx hb dL_law_315 (by decide) (fun c_1 => ?_) (fun c_1 => absurd rfl c_1)
  refine W.widen (k := cells + 10) (n := slots + 273) (by omega) (by omega) ?_
  exact kk _ _ ⟨ad, R, nr, len, (sp_arm nr len σ (xs (x3 + 1).toNatClampNeg) (xs (x3 + 2).toNatClampNeg)).2, hR, hZ, hM, sk_arm (xs (x3 + 1).toNatClampNeg) (xs (x3 + 2).toNatClampNeg) hI, hP, hD, hS, hl⟩
set_option maxHeartbeats 4000000 in
set_option maxRecDepth 100000 in
/-- the call source -/
theorem lw_c6 {p : Program} {l : Launch} {e : Env} {s : State} {m : MethodId} {below : List Frame} {meth : Method} {c : Code} {b L : Nat} {xs : Nat → Int32} {dC : Nat → ClassId} {dI : Nat → Nat → Nat} {cA : Nat → ClassId} {x3 : Int32} {j cells slots : Nat} {H : Heap} {locs : List Loc} {ls : Array Slot} (C : lw_Cx p s m c b L xs dC dI cA) (h3 : x3 = nI j) (hj : j + 7 ≤ L) (hc : cells + 10 ≤ 600000 ∧ slots + 273 ≤ 7302250) (hO : lw_Ok dC dI cA b s ls x3 H locs) (kk : ∀ (H1 : Heap) (locs1 : List Loc), lw_Ok dC dI cA b s ls x3 H1 locs1 → W p l e room_1 s m #[Value.ref b] below meth c H1 locs1 (cells + 10) (slots + 273) (lw_Z below #[Value.ref b] s) (F0 m 787 ls [])) : W p l e room_1 s m #[Value.ref b] below meth c H locs cells slots (lw_Z below #[Value.ref b] s) (F0 m 320 ls []) := by
  obtain ⟨hx, hb, hml, hown, hts, hX, hbl, hK, hN, hL⟩ := C
  obtain ⟨ad, R, nr, len, σ, hR, hZ, hM, hI, hP, hD, hS, hl⟩ := hO
  have hA : ∀ q : Nat, s.heap.size ≤ q → (fun q : Nat => s.heap.size ≤ q) q := fun _ h => h
  have hbA : ¬ (fun q : Nat => s.heap.size ≤ q) b := Nat.not_le.mpr hbl
  have hc1 : cells ≤ room_1.cells ∧ slots ≤ room_1.slots := ⟨show cells ≤ 600000 by omega, show slots ≤ 7302250 by omega⟩
  have i1 : vp_in (x3 + 1) L := by rw [h3, show (1 : Int32) = nI 1 from rfl, nI_add]; exact vp_in_nI (by omega) (by omega)
  have i2 : vp_in (x3 + 2) L := by rw [h3, show (2 : Int32) = nI 2 from rfl, nI_add]; exact vp_in_nI (by omega) (by omega)
  refine lv_aload_n hx hb dL_law_320 rfl (lv_at hl 1 rfl) ?_
  refine lv_aload_n hx hb dL_law_321 rfl (lv_at hl 0 rfl) ?_
  refine lv_iload_n hx hb dL_law_322 rfl (lv_at hl 3 rfl) ?_
  refine lv_iconst (v := 1) hx hb dL_law_323 (by decide) ?_
  refine lv_iadd hx hb dL_law_324 ?_
  refine va_sld hx hb hX hbl hbA hS i1 dL_law_325 ?_
  refine lv_aload_n hx hb dL_law_326 rfl (lv_at hl 0 rfl) ?_
  refine lv_iload_n hx hb dL_law_327 rfl (lv_at hl 3 rfl) ?_
  refine lv_iconst (v := 2) hx hb dL_law_328 (by decide) ?_
  refine lv_iadd hx hb dL_law_329 ?_
  refine va_sld hx hb hX hbl hbA hS i2 dL_law_330 ?_
  refine zw_cV (r := (0, 0, 0)) (As := [.int (xs (x3 + 1).toNatClampNeg), .int (xs (x3 + 2).toNatClampNeg)]) (rest := []) (st1 := [.int (sp_source nr len σ (xs (x3 + 1).toNatClampNeg) (xs (x3 + 2).toNatClampNeg)).1]) ⟨hx, hb, hml, hown, hts⟩ (cd_source (σ := σ) hR (xs (x3 + 1).toNatClampNeg) (xs (x3 + 2).toNatClampNeg)) (cwV 2 hts gL_law_X2_source rfl rfl rfl (by decide +kernel) ⟨Nat.le_of_ble_eq_true rfl, Nat.le_of_ble_eq_true rfl⟩) (hR.1 0 (by decide)) rfl rfl rfl hK hP hD hS hA hN rfl hl.1 rfl (Nat.le_of_ble_eq_true rfl) rfl dL_law_331 hc1 (fun H locs hP hD hS => ?_)
  refine lv_aload_n hx hb dL_law_334 rfl (lv_at hl 2 rfl) ?_
  refine lv_aload_n hx hb dL_law_335 rfl (lv_at hl 0 rfl) ?_
  refine lv_iload_n hx hb dL_law_336 rfl (lv_at hl 3 rfl) ?_
  refine lv_iconst (v := 1) hx hb dL_law_337 (by decide) ?_
  refine lv_iadd hx hb dL_law_338 ?_
  refine va_sld hx hb hX hbl hbA hS i1 dL_law_339 ?_
  refine lv_aload_n hx hb dL_law_340 rfl (lv_at hl 0 rfl) ?_
  refine lv_iload_n hx hb dL_law_341 rfl (lv_at hl 3 rfl) ?_
  refine lv_iconst (v := 2) hx hb dL_law_342 (by decide) ?_
  refine lv_iadd hx hb dL_law_343 ?_
  refine va_sld hx hb hX hbl hbA hS i2 dL_law_344 ?_
  refine zw_cV (r := (20, 0, 0)) (As := [.int (xs (x3 + 1).toNatClampNeg), .int (xs (x3 + 2).toNatClampNeg)]) (rest := [.int (sp_source nr len σ (xs (x3 + 1).toNatClampNeg) (xs (x3 + 2).toNatClampNeg)).1]) (st1 := [.int (sp_source nr len σ (xs (x3 + 1).toNatClampNeg) (xs (x3 + 2).toNatClampNeg)).1, .int (sp_source nr len σ (xs (x3 + 1).toNatClampNeg) (xs (x3 + 2).toNatClampNeg)).1]) ⟨hx, hb, hml, hown, hts⟩ (cm_source (nr := nr) (σ := σ) hM (xs (x3 + 1).toNatClampNeg) (xs (x3 + 2).toNatClampNeg)) (cwV 2 hts gL_law_X3_source rfl rfl rfl (by decide +kernel) ⟨Nat.le_of_ble_eq_true rfl, Nat.le_of_ble_eq_true rfl⟩) (hM 0 (by decide)) rfl rfl rfl hK hP hD hS hA hN rfl hl.1 rfl (Nat.le_of_ble_eq_true rfl) rfl dL_law_345 hc1 (fun H locs hP hD hS => ?_)
  refine lv_icmp_eq (tgt := 787) hx hb dL_law_348 (by decide) (fun c_1 => ?_) (fun c_1 => absurd rfl c_1)
  refine W.widen (k := cells + 10) (n := slots + 273) (by omega) (by omega) ?_
  exact kk _ _ ⟨ad, R, nr, len, (sp_source nr len σ (xs (x3 + 1).toNatClampNeg) (xs (x3 + 2).toNatClampNeg)).2, hR, hZ, hM, sk_source (xs (x3 + 1).toNatClampNeg) (xs (x3 + 2).toNatClampNeg) hI, hP, hD, hS, hl⟩
set_option maxHeartbeats 4000000 in
set_option maxRecDepth 100000 in
/-- the call wind -/
theorem lw_c7 {p : Program} {l : Launch} {e : Env} {s : State} {m : MethodId} {below : List Frame} {meth : Method} {c : Code} {b L : Nat} {xs : Nat → Int32} {dC : Nat → ClassId} {dI : Nat → Nat → Nat} {cA : Nat → ClassId} {x3 : Int32} {j cells slots : Nat} {H : Heap} {locs : List Loc} {ls : Array Slot} (C : lw_Cx p s m c b L xs dC dI cA) (h3 : x3 = nI j) (hj : j + 7 ≤ L) (hc : cells + 10 ≤ 600000 ∧ slots + 273 ≤ 7302250) (hO : lw_Ok dC dI cA b s ls x3 H locs) (kk : ∀ (H1 : Heap) (locs1 : List Loc), lw_Ok dC dI cA b s ls x3 H1 locs1 → W p l e room_1 s m #[Value.ref b] below meth c H1 locs1 (cells + 10) (slots + 273) (lw_Z below #[Value.ref b] s) (F0 m 787 ls [])) : W p l e room_1 s m #[Value.ref b] below meth c H locs cells slots (lw_Z below #[Value.ref b] s) (F0 m 353 ls []) := by
  obtain ⟨hx, hb, hml, hown, hts, hX, hbl, hK, hN, hL⟩ := C
  obtain ⟨ad, R, nr, len, σ, hR, hZ, hM, hI, hP, hD, hS, hl⟩ := hO
  have hA : ∀ q : Nat, s.heap.size ≤ q → (fun q : Nat => s.heap.size ≤ q) q := fun _ h => h
  have hbA : ¬ (fun q : Nat => s.heap.size ≤ q) b := Nat.not_le.mpr hbl
  have hc1 : cells ≤ room_1.cells ∧ slots ≤ room_1.slots := ⟨show cells ≤ 600000 by omega, show slots ≤ 7302250 by omega⟩
  have i1 : vp_in (x3 + 1) L := by rw [h3, show (1 : Int32) = nI 1 from rfl, nI_add]; exact vp_in_nI (by omega) (by omega)
  refine lv_aload_n hx hb dL_law_353 rfl (lv_at hl 1 rfl) ?_
  refine lv_aload_n hx hb dL_law_354 rfl (lv_at hl 0 rfl) ?_
  refine lv_iload_n hx hb dL_law_355 rfl (lv_at hl 3 rfl) ?_
  refine lv_iconst (v := 1) hx hb dL_law_356 (by decide) ?_
  refine lv_iadd hx hb dL_law_357 ?_
  refine va_sld hx hb hX hbl hbA hS i1 dL_law_358 ?_
  refine zw_cV (r := (0, 0, 0)) (As := [.int (xs (x3 + 1).toNatClampNeg)]) (rest := []) (st1 := [.int (sp_wind nr len σ (xs (x3 + 1).toNatClampNeg)).1]) ⟨hx, hb, hml, hown, hts⟩ (cd_wind (σ := σ) hR (xs (x3 + 1).toNatClampNeg)) (cwV 1 hts gL_law_X2_wind rfl rfl rfl (by decide +kernel) ⟨Nat.le_of_ble_eq_true rfl, Nat.le_of_ble_eq_true rfl⟩) (hR.1 0 (by decide)) rfl rfl rfl hK hP hD hS hA hN rfl hl.1 rfl (Nat.le_of_ble_eq_true rfl) rfl dL_law_359 hc1 (fun H locs hP hD hS => ?_)
  refine lv_aload_n hx hb dL_law_362 rfl (lv_at hl 2 rfl) ?_
  refine lv_aload_n hx hb dL_law_363 rfl (lv_at hl 0 rfl) ?_
  refine lv_iload_n hx hb dL_law_364 rfl (lv_at hl 3 rfl) ?_
  refine lv_iconst (v := 1) hx hb dL_law_365 (by decide) ?_
  refine lv_iadd hx hb dL_law_366 ?_
  refine va_sld hx hb hX hbl hbA hS i1 dL_law_367 ?_
  refine zw_cV (r := (20, 0, 0)) (As := [.int (xs (x3 + 1).toNatClampNeg)]) (rest := [.int (sp_wind nr len σ (xs (x3 + 1).toNatClampNeg)).1]) (st1 := [.int (sp_wind nr len σ (xs (x3 + 1).toNatClampNeg)).1, .int (sp_wind nr len σ (xs (x3 + 1).toNatClampNeg)).1]) ⟨hx, hb, hml, hown, hts⟩ (cm_wind (nr := nr) (σ := σ) hM (xs (x3 + 1).toNatClampNeg)) (cwV 1 hts gL_law_X3_wind rfl rfl rfl (by decide +kernel) ⟨Nat.le_of_ble_eq_true rfl, Nat.le_of_ble_eq_true rfl⟩) (hM 0 (by decide)) rfl rfl rfl hK hP hD hS hA hN rfl hl.1 rfl (Nat.le_of_ble_eq_true rfl) rfl dL_law_368 hc1 (fun H locs hP hD hS => ?_)
  refine lv_icmp_eq (tgt := 787) hx hb dL_law_371 (by decide) (fun c_1 => ?_) (fun c_1 => absurd rfl c_1)
  refine W.widen (k := cells + 10) (n := slots + 273) (by omega) (by omega) ?_
  exact kk _ _ ⟨ad, R, nr, len, (sp_wind nr len σ (xs (x3 + 1).toNatClampNeg)).2, hR, hZ, hM, sk_wind (xs (x3 + 1).toNatClampNeg) hI, hP, hD, hS, hl⟩
set_option maxHeartbeats 4000000 in
set_option maxRecDepth 100000 in
/-- the call read -/
theorem lw_c8 {p : Program} {l : Launch} {e : Env} {s : State} {m : MethodId} {below : List Frame} {meth : Method} {c : Code} {b L : Nat} {xs : Nat → Int32} {dC : Nat → ClassId} {dI : Nat → Nat → Nat} {cA : Nat → ClassId} {x3 : Int32} {j cells slots : Nat} {H : Heap} {locs : List Loc} {ls : Array Slot} (C : lw_Cx p s m c b L xs dC dI cA) (h3 : x3 = nI j) (hj : j + 7 ≤ L) (hc : cells + 10 ≤ 600000 ∧ slots + 273 ≤ 7302250) (hO : lw_Ok dC dI cA b s ls x3 H locs) (kk : ∀ (H1 : Heap) (locs1 : List Loc), lw_Ok dC dI cA b s ls x3 H1 locs1 → W p l e room_1 s m #[Value.ref b] below meth c H1 locs1 (cells + 10) (slots + 273) (lw_Z below #[Value.ref b] s) (F0 m 787 ls [])) : W p l e room_1 s m #[Value.ref b] below meth c H locs cells slots (lw_Z below #[Value.ref b] s) (F0 m 376 ls []) := by
  obtain ⟨hx, hb, hml, hown, hts, hX, hbl, hK, hN, hL⟩ := C
  obtain ⟨ad, R, nr, len, σ, hR, hZ, hM, hI, hP, hD, hS, hl⟩ := hO
  have hA : ∀ q : Nat, s.heap.size ≤ q → (fun q : Nat => s.heap.size ≤ q) q := fun _ h => h
  have hbA : ¬ (fun q : Nat => s.heap.size ≤ q) b := Nat.not_le.mpr hbl
  have hc1 : cells ≤ room_1.cells ∧ slots ≤ room_1.slots := ⟨show cells ≤ 600000 by omega, show slots ≤ 7302250 by omega⟩
  have i1 : vp_in (x3 + 1) L := by rw [h3, show (1 : Int32) = nI 1 from rfl, nI_add]; exact vp_in_nI (by omega) (by omega)
  refine lv_aload_n hx hb dL_law_376 rfl (lv_at hl 1 rfl) ?_
  refine lv_aload_n hx hb dL_law_377 rfl (lv_at hl 0 rfl) ?_
  refine lv_iload_n hx hb dL_law_378 rfl (lv_at hl 3 rfl) ?_
  refine lv_iconst (v := 1) hx hb dL_law_379 (by decide) ?_
  refine lv_iadd hx hb dL_law_380 ?_
  refine va_sld hx hb hX hbl hbA hS i1 dL_law_381 ?_
  refine zw_cV (r := (0, 0, 0)) (As := [.int (xs (x3 + 1).toNatClampNeg)]) (rest := []) (st1 := [.int (sp_read nr len σ (xs (x3 + 1).toNatClampNeg)).1]) ⟨hx, hb, hml, hown, hts⟩ (cd_read (σ := σ) hR hI.1 hI.2.2.2.2.1 (xs (x3 + 1).toNatClampNeg)) (cwV 1 hts gL_law_X2_read rfl rfl rfl (by decide +kernel) ⟨Nat.le_of_ble_eq_true rfl, Nat.le_of_ble_eq_true rfl⟩) (hR.1 0 (by decide)) rfl rfl rfl hK hP hD hS hA hN rfl hl.1 rfl (Nat.le_of_ble_eq_true rfl) rfl dL_law_382 hc1 (fun H locs hP hD hS => ?_)
  refine lv_aload_n hx hb dL_law_385 rfl (lv_at hl 2 rfl) ?_
  refine lv_aload_n hx hb dL_law_386 rfl (lv_at hl 0 rfl) ?_
  refine lv_iload_n hx hb dL_law_387 rfl (lv_at hl 3 rfl) ?_
  refine lv_iconst (v := 1) hx hb dL_law_388 (by decide) ?_
  refine lv_iadd hx hb dL_law_389 ?_
  refine va_sld hx hb hX hbl hbA hS i1 dL_law_390 ?_
  refine zw_cV (r := (20, 0, 0)) (As := [.int (xs (x3 + 1).toNatClampNeg)]) (rest := [.int (sp_read nr len σ (xs (x3 + 1).toNatClampNeg)).1]) (st1 := [.int (sp_read nr len σ (xs (x3 + 1).toNatClampNeg)).1, .int (sp_read nr len σ (xs (x3 + 1).toNatClampNeg)).1]) ⟨hx, hb, hml, hown, hts⟩ (cm_read (σ := σ) hM hI.1 hI.2.2.2.2.1 hI.2.2.1 (xs (x3 + 1).toNatClampNeg)) (cwV 1 hts gL_law_X3_read rfl rfl rfl (by decide +kernel) ⟨Nat.le_of_ble_eq_true rfl, Nat.le_of_ble_eq_true rfl⟩) (hM 0 (by decide)) rfl rfl rfl hK hP hD hS hA hN rfl hl.1 rfl (Nat.le_of_ble_eq_true rfl) rfl dL_law_391 hc1 (fun H locs hP hD hS => ?_)
  refine lv_icmp_eq (tgt := 787) hx hb dL_law_394 (by decide) (fun c_1 => ?_) (fun c_1 => absurd rfl c_1)
  refine W.widen (k := cells + 10) (n := slots + 273) (by omega) (by omega) ?_
  exact kk _ _ ⟨ad, R, nr, len, (sp_read nr len σ (xs (x3 + 1).toNatClampNeg)).2, hR, hZ, hM, sk_read (xs (x3 + 1).toNatClampNeg) hI, hP, hD, hS, hl⟩
set_option maxHeartbeats 4000000 in
set_option maxRecDepth 100000 in
/-- the call write -/
theorem lw_c9 {p : Program} {l : Launch} {e : Env} {s : State} {m : MethodId} {below : List Frame} {meth : Method} {c : Code} {b L : Nat} {xs : Nat → Int32} {dC : Nat → ClassId} {dI : Nat → Nat → Nat} {cA : Nat → ClassId} {x3 : Int32} {j cells slots : Nat} {H : Heap} {locs : List Loc} {ls : Array Slot} (C : lw_Cx p s m c b L xs dC dI cA) (h3 : x3 = nI j) (hj : j + 7 ≤ L) (hc : cells + 10 ≤ 600000 ∧ slots + 273 ≤ 7302250) (hO : lw_Ok dC dI cA b s ls x3 H locs) (kk : ∀ (H1 : Heap) (locs1 : List Loc), lw_Ok dC dI cA b s ls x3 H1 locs1 → W p l e room_1 s m #[Value.ref b] below meth c H1 locs1 (cells + 10) (slots + 273) (lw_Z below #[Value.ref b] s) (F0 m 787 ls [])) : W p l e room_1 s m #[Value.ref b] below meth c H locs cells slots (lw_Z below #[Value.ref b] s) (F0 m 399 ls []) := by
  obtain ⟨hx, hb, hml, hown, hts, hX, hbl, hK, hN, hL⟩ := C
  obtain ⟨ad, R, nr, len, σ, hR, hZ, hM, hI, hP, hD, hS, hl⟩ := hO
  have hA : ∀ q : Nat, s.heap.size ≤ q → (fun q : Nat => s.heap.size ≤ q) q := fun _ h => h
  have hbA : ¬ (fun q : Nat => s.heap.size ≤ q) b := Nat.not_le.mpr hbl
  have hc1 : cells ≤ room_1.cells ∧ slots ≤ room_1.slots := ⟨show cells ≤ 600000 by omega, show slots ≤ 7302250 by omega⟩
  have i1 : vp_in (x3 + 1) L := by rw [h3, show (1 : Int32) = nI 1 from rfl, nI_add]; exact vp_in_nI (by omega) (by omega)
  have i2 : vp_in (x3 + 2) L := by rw [h3, show (2 : Int32) = nI 2 from rfl, nI_add]; exact vp_in_nI (by omega) (by omega)
  refine lv_aload_n hx hb dL_law_399 rfl (lv_at hl 1 rfl) ?_
  refine lv_aload_n hx hb dL_law_400 rfl (lv_at hl 0 rfl) ?_
  refine lv_iload_n hx hb dL_law_401 rfl (lv_at hl 3 rfl) ?_
  refine lv_iconst (v := 1) hx hb dL_law_402 (by decide) ?_
  refine lv_iadd hx hb dL_law_403 ?_
  refine va_sld hx hb hX hbl hbA hS i1 dL_law_404 ?_
  refine lv_aload_n hx hb dL_law_405 rfl (lv_at hl 0 rfl) ?_
  refine lv_iload_n hx hb dL_law_406 rfl (lv_at hl 3 rfl) ?_
  refine lv_iconst (v := 2) hx hb dL_law_407 (by decide) ?_
  refine lv_iadd hx hb dL_law_408 ?_
  refine va_sld hx hb hX hbl hbA hS i2 dL_law_409 ?_
  refine zw_cV (r := (0, 0, 0)) (As := [.int (xs (x3 + 1).toNatClampNeg), .int (xs (x3 + 2).toNatClampNeg)]) (rest := []) (st1 := [.int (sp_write nr len σ (xs (x3 + 1).toNatClampNeg) (xs (x3 + 2).toNatClampNeg)).1]) ⟨hx, hb, hml, hown, hts⟩ (cd_write (σ := σ) hR hI.1 hI.2.2.2.2.1 (xs (x3 + 1).toNatClampNeg) (xs (x3 + 2).toNatClampNeg)) (cwV 2 hts gL_law_X2_write rfl rfl rfl (by decide +kernel) ⟨Nat.le_of_ble_eq_true rfl, Nat.le_of_ble_eq_true rfl⟩) (hR.1 0 (by decide)) rfl rfl rfl hK hP hD hS hA hN rfl hl.1 rfl (Nat.le_of_ble_eq_true rfl) rfl dL_law_410 hc1 (fun H locs hP hD hS => ?_)
  refine lv_aload_n hx hb dL_law_413 rfl (lv_at hl 2 rfl) ?_
  refine lv_aload_n hx hb dL_law_414 rfl (lv_at hl 0 rfl) ?_
  refine lv_iload_n hx hb dL_law_415 rfl (lv_at hl 3 rfl) ?_
  refine lv_iconst (v := 1) hx hb dL_law_416 (by decide) ?_
  refine lv_iadd hx hb dL_law_417 ?_
  refine va_sld hx hb hX hbl hbA hS i1 dL_law_418 ?_
  refine lv_aload_n hx hb dL_law_419 rfl (lv_at hl 0 rfl) ?_
  refine lv_iload_n hx hb dL_law_420 rfl (lv_at hl 3 rfl) ?_
  refine lv_iconst (v := 2) hx hb dL_law_421 (by decide) ?_
  refine lv_iadd hx hb dL_law_422 ?_
  refine va_sld hx hb hX hbl hbA hS i2 dL_law_423 ?_
  refine zw_cV (r := (20, 0, 0)) (As := [.int (xs (x3 + 1).toNatClampNeg), .int (xs (x3 + 2).toNatClampNeg)]) (rest := [.int (sp_write nr len σ (xs (x3 + 1).toNatClampNeg) (xs (x3 + 2).toNatClampNeg)).1]) (st1 := [.int (sp_write nr len σ (xs (x3 + 1).toNatClampNeg) (xs (x3 + 2).toNatClampNeg)).1, .int (sp_write nr len σ (xs (x3 + 1).toNatClampNeg) (xs (x3 + 2).toNatClampNeg)).1]) ⟨hx, hb, hml, hown, hts⟩ (cm_write (σ := σ) hM hI.1 hI.2.2.2.2.1 hI.2.2.1 (xs (x3 + 1).toNatClampNeg) (xs (x3 + 2).toNatClampNeg)) (cwV 2 hts gL_law_X3_write rfl rfl rfl (by decide +kernel) ⟨Nat.le_of_ble_eq_true rfl, Nat.le_of_ble_eq_true rfl⟩) (hM 0 (by decide)) rfl rfl rfl hK hP hD hS hA hN rfl hl.1 rfl (Nat.le_of_ble_eq_true rfl) rfl dL_law_424 hc1 (fun H locs hP hD hS => ?_)
  refine lv_icmp_eq (tgt := 787) hx hb dL_law_427 (by decide) (fun c_1 => ?_) (fun c_1 => absurd rfl c_1)
  refine W.widen (k := cells + 10) (n := slots + 273) (by omega) (by omega) ?_
  exact kk _ _ ⟨ad, R, nr, len, (sp_write nr len σ (xs (x3 + 1).toNatClampNeg) (xs (x3 + 2).toNatClampNeg)).2, hR, hZ, hM, sk_write (xs (x3 + 1).toNatClampNeg) (xs (x3 + 2).toNatClampNeg) hI, hP, hD, hS, hl⟩
set_option maxHeartbeats 4000000 in
set_option maxRecDepth 100000 in
/-- the call run -/
theorem lw_c10 {p : Program} {l : Launch} {e : Env} {s : State} {m : MethodId} {below : List Frame} {meth : Method} {c : Code} {b L : Nat} {xs : Nat → Int32} {dC : Nat → ClassId} {dI : Nat → Nat → Nat} {cA : Nat → ClassId} {x3 : Int32} {j cells slots : Nat} {H : Heap} {locs : List Loc} {ls : Array Slot} (C : lw_Cx p s m c b L xs dC dI cA) (h3 : x3 = nI j) (hj : j + 7 ≤ L) (hc : cells + 10 ≤ 600000 ∧ slots + 273 ≤ 7302250) (hO : lw_Ok dC dI cA b s ls x3 H locs) (kk : ∀ (H1 : Heap) (locs1 : List Loc), lw_Ok dC dI cA b s ls x3 H1 locs1 → W p l e room_1 s m #[Value.ref b] below meth c H1 locs1 (cells + 10) (slots + 273) (lw_Z below #[Value.ref b] s) (F0 m 787 ls [])) : W p l e room_1 s m #[Value.ref b] below meth c H locs cells slots (lw_Z below #[Value.ref b] s) (F0 m 432 ls []) := by
  obtain ⟨hx, hb, hml, hown, hts, hX, hbl, hK, hN, hL⟩ := C
  obtain ⟨ad, R, nr, len, σ, hR, hZ, hM, hI, hP, hD, hS, hl⟩ := hO
  have hA : ∀ q : Nat, s.heap.size ≤ q → (fun q : Nat => s.heap.size ≤ q) q := fun _ h => h
  have hbA : ¬ (fun q : Nat => s.heap.size ≤ q) b := Nat.not_le.mpr hbl
  have hc1 : cells ≤ room_1.cells ∧ slots ≤ room_1.slots := ⟨show cells ≤ 600000 by omega, show slots ≤ 7302250 by omega⟩
  have i1 : vp_in (x3 + 1) L := by rw [h3, show (1 : Int32) = nI 1 from rfl, nI_add]; exact vp_in_nI (by omega) (by omega)
  refine lv_aload_n hx hb dL_law_432 rfl (lv_at hl 1 rfl) ?_
  refine lv_aload_n hx hb dL_law_433 rfl (lv_at hl 0 rfl) ?_
  refine lv_iload_n hx hb dL_law_434 rfl (lv_at hl 3 rfl) ?_
  refine lv_iconst (v := 1) hx hb dL_law_435 (by decide) ?_
  refine lv_iadd hx hb dL_law_436 ?_
  refine va_sld hx hb hX hbl hbA hS i1 dL_law_437 ?_
  refine zw_cV (r := (0, 0, 0)) (As := [.int (xs (x3 + 1).toNatClampNeg)]) (rest := []) (st1 := [.int (sp_run nr len σ (xs (x3 + 1).toNatClampNeg)).1]) ⟨hx, hb, hml, hown, hts⟩ (cd_run (σ := σ) hR hI.1 hI.2.2.2.2.1 (xs (x3 + 1).toNatClampNeg)) (cwV 1 hts gL_law_X2_run rfl rfl rfl (by decide +kernel) ⟨Nat.le_of_ble_eq_true rfl, Nat.le_of_ble_eq_true rfl⟩) (hR.1 0 (by decide)) rfl rfl rfl hK hP hD hS hA hN rfl hl.1 rfl (Nat.le_of_ble_eq_true rfl) rfl dL_law_438 hc1 (fun H locs hP hD hS => ?_)
  refine lv_aload_n hx hb dL_law_441 rfl (lv_at hl 2 rfl) ?_
  refine lv_aload_n hx hb dL_law_442 rfl (lv_at hl 0 rfl) ?_
  refine lv_iload_n hx hb dL_law_443 rfl (lv_at hl 3 rfl) ?_
  refine lv_iconst (v := 1) hx hb dL_law_444 (by decide) ?_
  refine lv_iadd hx hb dL_law_445 ?_
  refine va_sld hx hb hX hbl hbA hS i1 dL_law_446 ?_
  refine zw_cV (r := (20, 0, 0)) (As := [.int (xs (x3 + 1).toNatClampNeg)]) (rest := [.int (sp_run nr len σ (xs (x3 + 1).toNatClampNeg)).1]) (st1 := [.int (sp_run nr len σ (xs (x3 + 1).toNatClampNeg)).1, .int (sp_run nr len σ (xs (x3 + 1).toNatClampNeg)).1]) ⟨hx, hb, hml, hown, hts⟩ (cm_run (σ := σ) hM hI.1 hI.2.2.2.2.1 hI.2.2.1 hI.2.2.2.1 (xs (x3 + 1).toNatClampNeg)) (cwV 1 hts gL_law_X3_run rfl rfl rfl (by decide +kernel) ⟨Nat.le_of_ble_eq_true rfl, Nat.le_of_ble_eq_true rfl⟩) (hM 0 (by decide)) rfl rfl rfl hK hP hD hS hA hN rfl hl.1 rfl (Nat.le_of_ble_eq_true rfl) rfl dL_law_447 hc1 (fun H locs hP hD hS => ?_)
  refine lv_icmp_eq (tgt := 787) hx hb dL_law_450 (by decide) (fun c_1 => ?_) (fun c_1 => absurd rfl c_1)
  refine W.widen (k := cells + 10) (n := slots + 273) (by omega) (by omega) ?_
  exact kk _ _ ⟨ad, R, nr, len, (sp_run nr len σ (xs (x3 + 1).toNatClampNeg)).2, hR, hZ, hM, sk_run (xs (x3 + 1).toNatClampNeg) hI, hP, hD, hS, hl⟩
