/-! METHODS THAT MAKE CELLS: a new cell gets a new role -/
def zw_G (l : Launch) (y : MethodName) (ws : List Cond) (rm : Room) (E : zw_E) (av : List Value) (ad : zw_R → Nat) (R : List zw_R) (cu : zw_R → va_E) (ans : Option Value) (B : (zw_R → Nat) → List zw_R → (zw_R → va_E) → Prop) (mc ms : Nat) : Prop :=
  ∀ sz : Nat, Met l y ws rm (va_Pc av (zw_pre E sz ad R cu)) (zw_Q ans (fun t => ∃ ad' R' cu', B ad' R' cu' ∧ zw_B E (va_A (zw_l ad R cu) sz) ad' R' cu' t) (va_A (zw_l ad R cu) sz)) mc ms (va_A (zw_l ad R cu) sz)
theorem zw_bodyG {l : Launch} {y : MethodName} {ws ws' : List Cond} {rm : Room} {E : zw_E} {av : List Value} {ad : zw_R → Nat} {R : List zw_R} {cu : zw_R → va_E} {ans : Option Value} {B : (zw_R → Nat) → List zw_R → (zw_R → va_E) → Prop} {mc ms : Nat} {cc : ByteArray} {maxL : Nat} {ret : Option FieldType}
    (hy : plainName y.cls = true) (hw : ws = Cond.code y cc maxL ret :: ws') (hn : (lg_sl av).length ≤ maxL)
    (body : ∀ (p : Program) (e : Env) (s : State) (m : MethodId) (below : List Frame) (meth : Method) (c : Code) (A : Nat → Prop) (ls : Array Slot), p.tables.exec = Jvm.exec → c.code = cc → meth.sig.returnType = ret → meth.locks = false → c.maxLocals = maxL → (∀ w ∈ ws, w.before av.toArray s = true) → s.vm.findClass y.cls = some m.cls → meth.name = y.name → (∀ q : Nat, s.heap.size ≤ q → A q) → va_K E.1 E.2.1 E.2.2 s → va_P E.1 E.2.1 (zw_l ad R cu) s.heap → va_D A (zw_l ad R cu) → va_S A s.heap s.heap [] → zw_N s → lv_has ls maxL (lv_args 0 av) →
      W p l e rm s m av.toArray below meth c s.heap [] 0 0 (MQ below (zw_Q ans (fun t => ∃ ad' R' cu', B ad' R' cu' ∧ zw_B E A ad' R' cu' t) A) av.toArray s mc ms A) (F0 m 0 ls [])) : zw_G l y ws rm E av ad R cu ans B mc ms := by
  intro sz
  refine Met.ofW (cc := cc) (maxL := maxL) (ret := ret) hy hw ?_
  intro p e s m args below meth c s₁ B hml hv
  obtain ⟨rfl, hsz, hP, hK, hD0, hN⟩ := hv
  subst hsz
  rw [lg_entry_eq]
  exact body p e s m below meth c _ _ B.exec B.bytes B.returns B.notSynchronized hml (atoms_spec (ws := ws) B.pre) (findClass_of_methodNamed B.named) (name_of_methodNamed B.named B.method).1 (fun q h => Or.inr h) hK hP hD0.self va_S.rf hN (lv_entry av hn)
theorem zw_nm {R : List zw_R} {r : zw_R} {n : Nat} (h : ∀ q ∈ R, q.1 < n) (hr : n ≤ r.1) : r ∉ R := fun q => by
  have := h r q
  omega
theorem zw_ltp {R : List zw_R} {n k : Nat} (h : ∀ q ∈ R, q.1 < n) (hk : n ≤ k) : ∀ q ∈ R ++ [(k, 0, 0)], q.1 < k + 1 := by
  intro q hq
  rcases List.mem_append.mp hq with h1 | h1
  · have := h q h1
    omega
  · rw [List.mem_singleton.mp h1]
    exact Nat.lt_succ_self k
section ZA
variable {p : Program} {l : Launch} {e : Env} {RM : Room} {s : State} {m : MethodId} {args : Array Value} {below : List Frame} {meth : Method} {c : Code} {H : Heap} {locs : List Loc} {cells slots : Nat} {Q : State → Prop}
variable {cc : ByteArray} {pc : Nat} {ls : Array Slot} {rest : List Value} {E : zw_E} {A : Nat → Prop} {H0 : Heap} {ad : zw_R → Nat} {R : List zw_R} {cu : zw_R → va_E}
theorem zw_vretG {ans : Option Value} {B : (zw_R → Nat) → List zw_R → (zw_R → va_E) → Prop} (hx : p.tables.exec = Jvm.exec) (hb : c.code = cc) (hr : meth.sig.returnType = none) (hlocks : meth.locks = false) (hK : va_K E.1 E.2.1 E.2.2 s) (hP : va_P E.1 E.2.1 (zw_l ad R cu) H) (hD : va_D A (zw_l ad R cu)) (hS : va_S A s.heap H locs) (hdg : decode cc pc = .ok (.return_, 1)) (hv : ans = none) (hB : B ad R cu) :
    W p l e RM s m args below meth c H locs cells slots (MQ below (zw_Q ans (fun t => ∃ ad' R' cu', B ad' R' cu' ∧ zw_B E A ad' R' cu' t) A) args s cells slots A) (F0 m pc ls []) := by
  subst hv
  exact W.vret hx hb hr (fun t ht hW => ⟨rfl, ⟨ad, R, cu, hB, by rw [ht]; exact hP, va_K.moved hW.alike hK, hD⟩, hS.F ht⟩) hS.2.2 hdg hlocks
theorem zw_iretG {ans : Option Value} {v : Int32} {B : (zw_R → Nat) → List zw_R → (zw_R → va_E) → Prop} (hx : p.tables.exec = Jvm.exec) (hb : c.code = cc) (hr : meth.sig.returnType = some .int) (hlocks : meth.locks = false) (hK : va_K E.1 E.2.1 E.2.2 s) (hP : va_P E.1 E.2.1 (zw_l ad R cu) H) (hD : va_D A (zw_l ad R cu)) (hS : va_S A s.heap H locs) (hdg : decode cc pc = .ok (.ireturn, 1)) (hv : ans = some (.int v)) (hB : B ad R cu) :
    W p l e RM s m args below meth c H locs cells slots (MQ below (zw_Q ans (fun t => ∃ ad' R' cu', B ad' R' cu' ∧ zw_B E A ad' R' cu' t) A) args s cells slots A) (F0 m pc ls [.int v]) := by
  subst hv
  exact W.iret hx hb hr (fun t ht hW => ⟨rfl, ⟨ad, R, cu, hB, by rw [ht]; exact hP, va_K.moved hW.alike hK, hD⟩, hS.F ht⟩) hS.2.2 hdg hlocks
theorem zw_new (hexec : p.tables.exec = Jvm.exec) (hb : c.code = cc) {own C : String} {T : u_T} {N ci index : Nat} {Ts : List Cond} (hts : ∀ w ∈ Ts, w.before args s = true) (hin : ∀ w ∈ u_ws C T N, w ∈ Ts) (ty : Nat → FieldType) (hty : ∀ k, k < N → parseFieldDescriptor (T k).2.2.1 = some (ty k)) (hown : s.vm.findClass own = some m.cls) (hcl : (Cond.classLink own index C).before args s = true) (hinst : (Cond.instantiable C N).before args s = true) (hini : (Cond.initialized C).before args s = true)
    (hK : va_K E.1 E.2.1 E.2.2 s) (hP : va_P E.1 E.2.1 (zw_l ad R cu) H) (hD : va_D A (zw_l ad R cu)) (hS : va_S A H0 H locs) (hA : ∀ q, H0.size ≤ q → A q) {r : zw_R} (hr : r ∉ R) (hc : E.2.1[ci]? = some (C, T, N)) {fs : List Value} (hfs : ∀ j, j < N → defaultValue (ty j) = vp_V fs j) (hcells : cells + 1 ≤ RM.cells) (hslots : slots + N ≤ RM.slots) (hdg : decode cc pc = .ok (.new index, 3))
    (kk : ∀ (q : Nat) (H1 : Heap), va_P E.1 E.2.1 (zw_l (zw_u ad r q) (R ++ [r]) (zw_u cu r (.inr (ci, fs)))) H1 → va_D A (zw_l (zw_u ad r q) (R ++ [r]) (zw_u cu r (.inr (ci, fs)))) → va_S A H0 H1 locs →
      W p l e RM s m args below meth c H1 locs (cells + 1) (slots + N) Q (F0 m (pc + 3) ls (.ref q :: rest))) : W p l e RM s m args below meth c H locs cells slots Q (F0 m pc ls rest) := by
  refine va_new hexec hb hts hin ty hty hown hcl hinst hini hK hP hD hS hA hc hfs hcells hslots hdg (fun q H1 h1 h2 h3 => ?_)
  rw [zw_push hr] at h1 h2
  exact kk q H1 h1 h2 h3
theorem zw_newa (hexec : p.tables.exec = Jvm.exec) (hb : c.code = cc) (harr : (Cond.arrayClass .int).before args s = true) (hK : va_K E.1 E.2.1 E.2.2 s) (hP : va_P E.1 E.2.1 (zw_l ad R cu) H) (hD : va_D A (zw_l ad R cu)) (hS : va_S A H0 H locs) (hA : ∀ q, H0.size ≤ q → A q) {r : zw_R} (hr : r ∉ R) (t0 : Nat) {c0 : ClassId} (ht : E.2.2[t0]? = some (c0, .int))
    {n : Int32} {N' : Nat} (hn : ¬ n < 0) (hN : n.toNatClampNeg = N') (hbytes : N' * 4 ≤ 536870912) (hcells : cells + 1 ≤ RM.cells) (hslots : slots + N' ≤ RM.slots) (hdg : decode cc pc = .ok (.newarray .int, 2))
    (kk : ∀ (q : Nat) (H1 : Heap), va_P E.1 E.2.1 (zw_l (zw_u ad r q) (R ++ [r]) (zw_u cu r (.inl (c0, N', .inl (fun _ => 0))))) H1 → va_D A (zw_l (zw_u ad r q) (R ++ [r]) (zw_u cu r (.inl (c0, N', .inl (fun _ => 0))))) → va_S A H0 H1 locs →
      W p l e RM s m args below meth c H1 locs (cells + 1) (slots + N') Q (F0 m (pc + 2) ls (.ref q :: rest))) : W p l e RM s m args below meth c H locs cells slots Q (F0 m pc ls (.int n :: rest)) := by
  refine va_newa (atype := .int) (ty := .int) (a0 := (N', .inl (fun _ => 0))) hexec hb harr rfl hK hP hD hS hA (fun cA => rfl) hn hN hbytes hcells hslots hdg (fun q cA H1 hK1 h1 h2 h3 => ?_)
  have e1 := (hK1.2 E.2.2.length (cA, .int) (by simp)).2
  have e2 := (hK.2 t0 _ ht).2
  have e : cA = c0 := Option.some.inj (e1.symm.trans e2)
  subst e
  rw [zw_push hr] at h1 h2
  exact kk q H1 h1 h2 h3
theorem zw_newq (hexec : p.tables.exec = Jvm.exec) (hb : c.code = cc) {own C : String} {index : Nat} (hown : s.vm.findClass own = some m.cls) (hclink : (Cond.classLink own index C).before args s = true) (hover : va_AO C s) (hK : va_K E.1 E.2.1 E.2.2 s) (hP : va_P E.1 E.2.1 (zw_l ad R cu) H) (hD : va_D A (zw_l ad R cu)) (hS : va_S A H0 H locs) (hA : ∀ q, H0.size ≤ q → A q) {r : zw_R} (hr : r ∉ R) (t0 : Nat) {c0 : ClassId} (ht : E.2.2[t0]? = some (c0, .object C))
    {n : Int32} {N' : Nat} (hn : ¬ n < 0) (hN : n.toNatClampNeg = N') (hbytes : N' * 4 ≤ 536870912) (hcells : cells + 1 ≤ RM.cells) (hslots : slots + N' ≤ RM.slots) (hdg : decode cc pc = .ok (.anewarray index, 3))
    (kk : ∀ (q : Nat) (H1 : Heap), va_P E.1 E.2.1 (zw_l (zw_u ad r q) (R ++ [r]) (zw_u cu r (.inl (c0, N', .inr (.inr (.inr (.inr (fun _ => none)))))))) H1 → va_D A (zw_l (zw_u ad r q) (R ++ [r]) (zw_u cu r (.inl (c0, N', .inr (.inr (.inr (.inr (fun _ => none)))))))) → va_S A H0 H1 locs →
      W p l e RM s m args below meth c H1 locs (cells + 1) (slots + N') Q (F0 m (pc + 3) ls (.ref q :: rest))) : W p l e RM s m args below meth c H locs cells slots Q (F0 m pc ls (.int n :: rest)) := by
  refine va_newq hexec hb hown hclink hover hK hP hD hS hA hn hN hbytes hcells hslots hdg (fun q cA H1 hK1 h1 h2 h3 => ?_)
  obtain ⟨_, _, -, -, -, e1⟩ := (hK1.2 E.2.2.length (cA, .object C) (by simp)).2
  obtain ⟨_, _, -, -, -, e2⟩ := (hK.2 t0 _ ht).2
  have e : cA = c0 := Option.some.inj (e1.symm.trans e2)
  subst e
  rw [zw_push hr] at h1 h2
  exact kk q H1 h1 h2 h3
theorem zw_astq (hexec : p.tables.exec = Jvm.exec) (hb : c.code = cc) (hK : va_K E.1 E.2.1 E.2.2 s) (hP : va_P E.1 E.2.1 (zw_l ad R cu) H) (hD : va_D A (zw_l ad R cu)) (hS : va_S A H0 H locs) {r rk : zw_R} (hr : r ∈ R) (hk : rk ∈ R) (t0 ci : Nat) {cA : ClassId} {rr : vw_C} {n : Nat} {vs : List Value} {f : Nat → Option Nat} (he : cu r = .inl (cA, n, .inr (.inr (.inr (.inr f))))) (ht : E.2.2[t0]? = some (cA, .object rr.1)) (hv : cu rk = .inr (ci, vs)) (hc : E.2.1[ci]? = some rr) {i : Int32} (hin : vp_in i n) (hdg : decode cc pc = .ok (.aastore, 1))
    {cu1 : zw_R → va_E} (hcu : cu1 = zw_u cu r (.inl (cA, n, .inr (.inr (.inr (.inr (va_up f i.toNatClampNeg (some (ad rk))))))))) (kk : ∀ (H1 : Heap) (locs1 : List Loc), va_P E.1 E.2.1 (zw_l ad R cu1) H1 → va_D A (zw_l ad R cu1) → va_S A H0 H1 locs1 → W p l e RM s m args below meth c H1 locs1 cells slots Q (F0 m (pc + 1) ls rest)) : W p l e RM s m args below meth c H locs cells slots Q (F0 m pc ls (.ref (ad rk) :: .int i :: .ref (ad r) :: rest)) := by
  obtain ⟨q0, hq, h0⟩ := zw_at (ad := ad) (cu := cu) hr
  obtain ⟨qk, -, h1⟩ := zw_at (ad := ad) (cu := cu) hk
  rw [he] at h0
  rw [hv] at h1
  refine va_astq hexec hb hK hP hD hS q0 t0 qk ci h0 ht h1 hc hin hdg (fun H1 locs1 g1 g2 g3 => ?_)
  rw [zw_set hD hq, ← hcu] at g1 g2
  exact kk H1 locs1 g1 g2 g3
/-- behind a call that made cells -/
theorem zw_callG {ans : Option Value} {B : (zw_R → Nat) → List zw_R → (zw_R → va_E) → Prop} {mc ms : Nat} {st0 : List Value} {a : Array Value} {st1 : List Value} (h1 : ans.toList ++ rest = st1) (hr : va_Run p l e RM s m args below meth c H locs cells slots mc ms (F0 m pc ls st0) rest (zw_Q ans (fun t => ∃ ad' R' cu', B ad' R' cu' ∧ zw_B E (va_A (zw_l ad R cu) H.size) ad' R' cu' t) (va_A (zw_l ad R cu) H.size) a) (va_A (zw_l ad R cu) H.size)) (hD : va_D A (zw_l ad R cu)) (hS : va_S A H0 H locs) (hA : ∀ q, H0.size ≤ q → A q)
    (kk : ∀ (ad' : zw_R → Nat) (R' : List zw_R) (cu' : zw_R → va_E) (H1 : Heap) (locs1 : List Loc), B ad' R' cu' → va_P E.1 E.2.1 (zw_l ad' R' cu') H1 → va_D A (zw_l ad' R' cu') → va_S A H0 H1 locs1 → W p l e RM s m args below meth c H1 locs1 (cells + mc) (slots + ms) Q (F0 m (pc + 3) ls st1)) : W p l e RM s m args below meth c H locs cells slots Q (F0 m pc ls st0) := by
  subst h1
  intro T hT X
  have hF := zw_free hD hS hA
  obtain ⟨v, st₀, t, T', L, h0, X', hL, e1, e2, ⟨hv, ⟨ad', R', cu', hB, bP, bK, bD⟩, hz, hk⟩, st⟩ := hr T hT X
  cases hv
  rw [h0] at hz hk
  obtain ⟨t2, a1, b1⟩ := kk ad' R' cu' T'.heap (locs ++ L) hB (by rw [e1]; exact bP) (bD.weaken (fun _ _ _ h => hF _ h))
    ⟨Nat.le_trans hS.1 (by rw [e1]; exact hz), fun q h1 h2 => by rw [e1, hk q (Nat.lt_of_lt_of_le h1 hS.1) (fun z => h2 (hF q z))]; exact hS.2.1 q h1 h2, fun q hq => by
      rcases List.mem_append.mp hq with h | h
      · exact hS.2.2 q h
      · exact hF _ (hL q h)⟩ T' rfl X'
  exact ⟨t2, st t2 a1, b1⟩
variable {y : MethodName} {bytes : ByteArray} {maxL nL n index : Nat} {ret : Option FieldType} {ws Ts : List Cond} {rm : Room} {own C host : String} {As : List Value} {ans : Option Value} {st0 st1 : List Value} {B : (zw_R → Nat) → List zw_R → (zw_R → va_E) → Prop} {mc ms : Nat}
theorem zw_cI (S : CallFix p m c cc nL s args Ts own) {r : zw_R} (hM : zw_G l y ws rm E (.ref (ad r) :: As) ad R cu ans B mc ms) (cw : CallB RM s args own index y bytes maxL none ws rm mc ms n ∧ y.name = "<init>" ∧ (Cond.instanceMethod y).before args s = true) (hK : va_K E.1 E.2.1 E.2.2 s) (hP : va_P E.1 E.2.1 (zw_l ad R cu) H) (hD : va_D A (zw_l ad R cu)) (hS : va_S A H0 H locs) (hA : ∀ q, H0.size ≤ q → A q) (hN : zw_N s)
    (hn : As.length = n) (hsize : ls.size = nL) (hstack : st0 = As.reverse ++ .ref (ad r) :: rest) (hW : (rest.map fun v => v.category).sum ≤ 8) (h1 : ans.toList ++ rest = st1) (hdg : decode cc pc = .ok (.invokespecial index, 3)) (hf : cells + mc ≤ RM.cells ∧ slots + ms ≤ RM.slots)
    (kk : ∀ (ad' : zw_R → Nat) (R' : List zw_R) (cu' : zw_R → va_E) (H1 : Heap) (locs1 : List Loc), B ad' R' cu' → va_P E.1 E.2.1 (zw_l ad' R' cu') H1 → va_D A (zw_l ad' R' cu') → va_S A H0 H1 locs1 → W p l e RM s m args below meth c H1 locs1 (cells + mc) (slots + ms) Q (F0 m (pc + 3) ls st1)) : W p l e RM s m args below meth c H locs cells slots Q (F0 m pc ls st0) :=
  zw_callG h1 (va_runI (As := As) (rest := rest) (g := F0 m pc ls st0) S (hM H.size) cw ⟨zw_blind, fun U hU hW => ⟨rfl, by rw [hU], by rw [hU]; exact hP, va_K.moved hW.alike hK, hD.weaken (fun _ _ _ _ => trivial), zw_N.warm hW hN⟩⟩ rfl hn hsize hstack (lv_room hW) hdg hf) hD hS hA kk
theorem zw_cIN (S : CallFix p m c cc nL s args Ts own) {r : zw_R} (hM : zw_G l y ws rm E (.ref (ad r) :: As) ad R cu ans B mc ms) (cw : va_CN RM s args own index y host bytes maxL none ws rm mc ms n ∧ y.name = "<init>" ∧ (Cond.instanceMethod y).before args s = true) (hK : va_K E.1 E.2.1 E.2.2 s) (hP : va_P E.1 E.2.1 (zw_l ad R cu) H) (hD : va_D A (zw_l ad R cu)) (hS : va_S A H0 H locs) (hA : ∀ q, H0.size ≤ q → A q) (hN : zw_N s)
    (hn : As.length = n) (hsize : ls.size = nL) (hstack : st0 = As.reverse ++ .ref (ad r) :: rest) (hW : (rest.map fun v => v.category).sum ≤ 8) (h1 : ans.toList ++ rest = st1) (hdg : decode cc pc = .ok (.invokespecial index, 3)) (hf : cells + mc ≤ RM.cells ∧ slots + ms ≤ RM.slots)
    (kk : ∀ (ad' : zw_R → Nat) (R' : List zw_R) (cu' : zw_R → va_E) (H1 : Heap) (locs1 : List Loc), B ad' R' cu' → va_P E.1 E.2.1 (zw_l ad' R' cu') H1 → va_D A (zw_l ad' R' cu') → va_S A H0 H1 locs1 → W p l e RM s m args below meth c H1 locs1 (cells + mc) (slots + ms) Q (F0 m (pc + 3) ls st1)) : W p l e RM s m args below meth c H locs cells slots Q (F0 m pc ls st0) :=
  zw_callG h1 (va_runIN (As := As) (rest := rest) (g := F0 m pc ls st0) S (hM H.size) cw ⟨zw_blind, fun U hU hW => ⟨rfl, by rw [hU], by rw [hU]; exact hP, va_K.moved hW.alike hK, hD.weaken (fun _ _ _ _ => trivial), zw_N.warm hW hN⟩⟩ rfl hn hsize hstack (lv_room hW) hdg hf) hD hS hA kk
theorem zw_cVG (S : CallFix p m c cc nL s args Ts own) {r : zw_R} (hM : zw_G l y ws rm E (.ref (ad r) :: As) ad R cu ans B mc ms) (cw : CallW RM s args own C index y bytes maxL ret ws rm mc ms n) (hr : r ∈ R) {ci : Nat} {fs : List Value} (he : cu r = .inr (ci, fs)) {q : vw_C} (hc : E.2.1[ci]? = some q) (hq : q.1 = C) (hK : va_K E.1 E.2.1 E.2.2 s) (hP : va_P E.1 E.2.1 (zw_l ad R cu) H) (hD : va_D A (zw_l ad R cu)) (hS : va_S A H0 H locs) (hA : ∀ q, H0.size ≤ q → A q) (hN : zw_N s)
    (hn : As.length = n) (hsize : ls.size = nL) (hstack : st0 = As.reverse ++ .ref (ad r) :: rest) (hW : (rest.map fun v => v.category).sum ≤ 8) (h1 : ans.toList ++ rest = st1) (hdg : decode cc pc = .ok (.invokevirtual index, 3)) (hf : cells + mc ≤ RM.cells ∧ slots + ms ≤ RM.slots)
    (kk : ∀ (ad' : zw_R → Nat) (R' : List zw_R) (cu' : zw_R → va_E) (H1 : Heap) (locs1 : List Loc), B ad' R' cu' → va_P E.1 E.2.1 (zw_l ad' R' cu') H1 → va_D A (zw_l ad' R' cu') → va_S A H0 H1 locs1 → W p l e RM s m args below meth c H1 locs1 (cells + mc) (slots + ms) Q (F0 m (pc + 3) ls st1)) : W p l e RM s m args below meth c H locs cells slots Q (F0 m pc ls st0) := by
  obtain ⟨q0, -, h0⟩ := zw_at (ad := ad) (cu := cu) hr
  rw [he] at h0
  subst hq
  exact zw_callG h1 (va_runV (As := As) (rest := rest) (g := F0 m pc ls st0) S (hM H.size) cw ⟨zw_blind, va_recv hK hP hc h0, fun U hU hW => ⟨rfl, by rw [hU], by rw [hU]; exact hP, va_K.moved hW.alike hK, hD.weaken (fun _ _ _ _ => trivial), zw_N.warm hW hN⟩⟩ rfl hn hsize hstack (lv_room hW) hdg hf) hD hS hA kk
end ZA
