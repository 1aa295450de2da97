/-! THE WORLD BY ROLES: a cell has a role (kind, i, t); ad says where it lies, cu what it holds; R: which roles are there. -/
abbrev zw_R : Type := Nat × Nat × Nat
def zw_u {α : Type} (f : zw_R → α) (r : zw_R) (v : α) : zw_R → α := fun q => if q = r then v else f q
theorem zw_us {α : Type} (f : zw_R → α) (r : zw_R) (v : α) : zw_u f r v r = v := by simp [zw_u]
theorem zw_un {α : Type} (f : zw_R → α) {r q : zw_R} (v : α) (h : q ≠ r) : zw_u f r v q = f q := by simp [zw_u, h]
theorem zw_uu {α : Type} (f : zw_R → α) (r : zw_R) (v w : α) : zw_u (zw_u f r v) r w = zw_u f r w := by
  funext q
  by_cases h : q = r <;> simp [zw_u, h]
def zw_l (ad : zw_R → Nat) (R : List zw_R) (cu : zw_R → va_E) : va_W := R.map (fun r => (ad r, cu r))
theorem zw_at {ad : zw_R → Nat} {R : List zw_R} {cu : zw_R → va_E} {r : zw_R} (h : r ∈ R) : ∃ k : Nat, R[k]? = some r ∧ (zw_l ad R cu)[k]? = some (ad r, cu r) := by
  obtain ⟨k, hk⟩ := List.getElem?_of_mem h
  exact ⟨k, hk, by simp [zw_l, hk]⟩
theorem zw_set {A : Nat → Prop} {ad : zw_R → Nat} {R : List zw_R} {cu : zw_R → va_E} {r : zw_R} {k : Nat} {e : va_E} (hD : va_D A (zw_l ad R cu)) (hr : R[k]? = some r) : (zw_l ad R cu).set k (ad r, e) = zw_l ad R (zw_u cu r e) := by
  have hk : (zw_l ad R cu)[k]? = some (ad r, cu r) := by simp [zw_l, hr]
  have hl : k < (zw_l ad R cu).length := (List.getElem?_eq_some_iff.mp hk).1
  apply List.ext_getElem?
  intro i
  by_cases hik : i = k
  · subst hik
    rw [List.getElem?_set_self hl]
    simp [zw_l, hr, zw_u]
  · rw [List.getElem?_set_ne (Ne.symm hik)]
    cases hi : R[i]? with
    | none => simp [zw_l, hi]
    | some q =>
      have hq : q ≠ r := by
        intro h
        subst h
        exact hik (hD.1 i k (ad q, cu q) (ad q, cu q) (by simp [zw_l, hi]) hk rfl)
      simp [zw_l, hi, zw_u, hq]
theorem zw_congr {ad ad' : zw_R → Nat} {R : List zw_R} {cu cu' : zw_R → va_E} (ha : ∀ r ∈ R, ad r = ad' r) (hc : ∀ r ∈ R, cu r = cu' r) : zw_l ad R cu = zw_l ad' R cu' := by
  unfold zw_l
  apply List.map_congr_left
  intro r hr
  rw [ha r hr, hc r hr]
theorem zw_push {ad : zw_R → Nat} {R : List zw_R} {cu : zw_R → va_E} {r : zw_R} {q : Nat} {e : va_E} (h : r ∉ R) : zw_l ad R cu ++ [(q, e)] = zw_l (zw_u ad r q) (R ++ [r]) (zw_u cu r e) := by
  unfold zw_l
  rw [List.map_append]
  congr 1
  · apply List.map_congr_left
    intro x hx
    have : x ≠ r := fun z => h (z ▸ hx)
    rw [zw_un _ _ this, zw_un _ _ this]
  · simp [zw_u]
theorem zw_free {A0 : Nat → Prop} {ws : va_W} {H0 H : Heap} {locs : List Loc} (hD : va_D A0 ws) (hS : va_S A0 H0 H locs) (hA : ∀ q, H0.size ≤ q → A0 q) : ∀ q, va_A ws H.size q → A0 q := by
  intro q h
  rcases h with ⟨k, e, h⟩ | h
  · exact hD.2 k (q, e) h
  · exact hA q (Nat.le_trans hS.1 h)
/-- words of nest mates and of arrays of objects, which go along with the world -/
def zn_F : List (String × Nat × String × String × String × String) := [("FourTrackDeck", 131, "FourTrackDeck$Reel", "tracks", "[LFourTrackDeck$Track;", "FourTrackDeck"), ("FourTrackDeck", 74, "FourTrackDeck$Track", "isThere", "Z", "FourTrackDeck"), ("FourTrackDeck$Reel", 20, "FourTrackDeck$Track", "isThere", "Z", "FourTrackDeck")]
def zn_M : List (String × Nat × MethodName × String) := [("FourTrackDeck", 101, yX1_numberAt, "FourTrackDeck"), ("FourTrackDeck", 104, yX1_put, "FourTrackDeck"), ("FourTrackDeck", 113, yX1_exchange, "FourTrackDeck"), ("FourTrackDeck", 138, yX0_bitsOfTracks, "FourTrackDeck"), ("FourTrackDeck", 67, yX0_init, "FourTrackDeck"), ("FourTrackDeck", 80, yX1_wipe, "FourTrackDeck"), ("FourTrackDeck", 98, yX1_faultAt, "FourTrackDeck"), ("FourTrackDeck$Reel", 17, yX1_init, "FourTrackDeck")]
def zn_A : List String := ["FourTrackDeck$Reel", "FourTrackDeck$Track"]
def zw_N (U : State) : Prop := (∀ q ∈ zn_F, va_Nw (.fieldLinkNest q.1 q.2.1 q.2.2.1 q.2.2.2.1 q.2.2.2.2.1 q.2.2.2.2.2) U) ∧ (∀ q ∈ zn_M, va_Nw (.methodLinkNest q.1 q.2.1 q.2.2.1 q.2.2.2) U) ∧ ∀ q ∈ zn_A, va_AO q U
theorem zw_N.warm {s U : State} (hW : s.WarmedH U.vm) (h : zw_N s) : zw_N U := ⟨fun q hq => va_Nw.warmF hW (h.1 q hq), fun q hq => va_Nw.warmM hW (h.2.1 q hq), fun q hq => va_AO.moved hW.alike (h.2.2 q hq)⟩
theorem zw_N.same {u U : State} (hv : u.vm = U.vm) (h : zw_N u) : zw_N U := ⟨fun q hq => va_Nw.same rfl hv (h.1 q hq), fun q hq => va_Nw.same rfl hv (h.2.1 q hq), fun q hq => va_AO.moved (by rw [hv]; exact Vm.Alike.refl U.vm) (h.2.2 q hq)⟩
/-- the end of a method: its answer, and the world behind it -/
def zw_Q (ans : Option Value) (B : State → Prop) (A : Nat → Prop) : Array Value → State → Outcome → State → Prop := fun _ st oc t => oc = .returned ans ∧ B t ∧ va_F A st t
abbrev zw_E : Type := va_G × List vw_C × List (ClassId × FieldType)
def zw_pre (E : zw_E) (sz : Nat) (ad : zw_R → Nat) (R : List zw_R) (cu : zw_R → va_E) (U : State) : Prop := U.heap.size = sz ∧ va_P E.1 E.2.1 (zw_l ad R cu) U.heap ∧ va_K E.1 E.2.1 E.2.2 U ∧ va_D (fun _ => True) (zw_l ad R cu) ∧ zw_N U
def zw_B (E : zw_E) (A : Nat → Prop) (ad : zw_R → Nat) (R : List zw_R) (cu : zw_R → va_E) (t : State) : Prop := va_P E.1 E.2.1 (zw_l ad R cu) t.heap ∧ va_K E.1 E.2.1 E.2.2 t ∧ va_D A (zw_l ad R cu)
/-- a method that makes nothing: from the world cu to the world cu', its answer being ans -/
def zw_M (l : Launch) (y : MethodName) (ws : List Cond) (rm : Room) (E : zw_E) (av : List Value) (ad : zw_R → Nat) (R : List zw_R) (cu : zw_R → va_E) (ans : Option Value) (cu' : zw_R → va_E) : Prop :=
  ∀ sz : Nat, Met l y ws rm (va_Pc av (zw_pre E sz ad R cu)) (zw_Q ans (zw_B E (va_A (zw_l ad R cu) sz) ad R cu') (va_A (zw_l ad R cu) sz)) 0 0 (va_A (zw_l ad R cu) sz)
theorem zw_blind {av : List Value} {E : zw_E} {sz : Nat} {ad : zw_R → Nat} {R : List zw_R} {cu : zw_R → va_E} : FrameBlind (va_Pc av (zw_pre E sz ad R cu)) := by
  intro a U g mk q
  obtain ⟨q0, q1, qP, qK, qD, qN⟩ := q
  exact ⟨q0, q1, qP, va_K.moved (u := U) (U := U.calling g mk a) (Vm.Alike.refl U.vm) qK, qD, zw_N.same (u := U) rfl qN⟩
theorem zw_body {l : Launch} {y : MethodName} {ws ws' : List Cond} {rm : Room} {E : zw_E} {av : List Value} {ad : zw_R → Nat} {R : List zw_R} {cu cu' : zw_R → va_E} {ans : Option Value} {cc : ByteArray} {maxL : Nat} {ret : Option FieldType}
    (hy : plainName y.cls = true) (hw : ws = Cond.code y cc maxL ret :: ws') (hn : (lg_sl av).length ≤ maxL)
    (body : ∀ (p : Program) (e : Env) (s : State) (m : MethodId) (below : List Frame) (meth : Method) (c : Code) (A : Nat → Prop) (ls : Array Slot), p.tables.exec = Jvm.exec → c.code = cc → meth.sig.returnType = ret → meth.locks = false → c.maxLocals = maxL → (∀ w ∈ ws, w.before av.toArray s = true) → s.vm.findClass y.cls = some m.cls → meth.name = y.name → (∀ q : Nat, s.heap.size ≤ q → A q) → va_K E.1 E.2.1 E.2.2 s → va_P E.1 E.2.1 (zw_l ad R cu) s.heap → va_D A (zw_l ad R cu) → va_S A s.heap s.heap [] → zw_N s → lv_has ls maxL (lv_args 0 av) →
      W p l e rm s m av.toArray below meth c s.heap [] 0 0 (MQ below (zw_Q ans (zw_B E A ad R cu') A) av.toArray s 0 0 A) (F0 m 0 ls [])) : zw_M l y ws rm E av ad R cu ans cu' := by
  intro sz
  refine Met.ofW (cc := cc) (maxL := maxL) (ret := ret) hy hw ?_
  intro p e s m args below meth c s₁ B hml hv
  obtain ⟨rfl, hsz, hP, hK, hD0, hN⟩ := hv
  subst hsz
  rw [lg_entry_eq]
  exact body p e s m below meth c _ _ B.exec B.bytes B.returns B.notSynchronized hml (atoms_spec (ws := ws) B.pre) (findClass_of_methodNamed B.named) (name_of_methodNamed B.named B.method).1 (fun q h => Or.inr h) hK hP hD0.self va_S.rf hN (lv_entry av hn)
section ZW
variable {p : Program} {l : Launch} {e : Env} {RM : Room} {s : State} {m : MethodId} {args : Array Value} {below : List Frame} {meth : Method} {c : Code} {H : Heap} {locs : List Loc} {cells slots : Nat} {Q : State → Prop}
variable {cc : ByteArray} {pc : Nat} {ls : Array Slot} {rest : List Value} {E : zw_E} {A : Nat → Prop} {H0 : Heap} {ad : zw_R → Nat} {R : List zw_R} {cu : zw_R → va_E}
theorem zw_iret {cu' : zw_R → va_E} {ans : Option Value} {v : Int32} (hx : p.tables.exec = Jvm.exec) (hb : c.code = cc) (hr : meth.sig.returnType = some .int) (hlocks : meth.locks = false) (hK : va_K E.1 E.2.1 E.2.2 s) (hP : va_P E.1 E.2.1 (zw_l ad R cu) H) (hD : va_D A (zw_l ad R cu)) (hS : va_S A s.heap H locs) (hdg : decode cc pc = .ok (.ireturn, 1)) (hv : ans = some (.int v)) (hc : cu' = cu) :
    W p l e RM s m args below meth c H locs cells slots (MQ below (zw_Q ans (zw_B E A ad R cu') A) args s cells slots A) (F0 m pc ls [.int v]) := by
  subst hv; subst hc
  exact W.iret hx hb hr (fun t ht hW => ⟨rfl, ⟨by rw [ht]; exact hP, va_K.moved hW.alike hK, hD⟩, hS.F ht⟩) hS.2.2 hdg hlocks
theorem zw_zret {cu' : zw_R → va_E} {ans : Option Value} {v : Int32} {ty : FieldType} (hx : p.tables.exec = Jvm.exec) (hb : c.code = cc) (hr : meth.sig.returnType = some ty) (hn : narrow ty (.int v) = .int v) (hlocks : meth.locks = false) (hK : va_K E.1 E.2.1 E.2.2 s) (hP : va_P E.1 E.2.1 (zw_l ad R cu) H) (hD : va_D A (zw_l ad R cu)) (hS : va_S A s.heap H locs) (hdg : decode cc pc = .ok (.ireturn, 1)) (hv : ans = some (.int v)) (hc : cu' = cu) :
    W p l e RM s m args below meth c H locs cells slots (MQ below (zw_Q ans (zw_B E A ad R cu') A) args s cells slots A) (F0 m pc ls [.int v]) := by
  subst hv; subst hc
  exact W.zret hx hb hr hn (fun t ht hW => ⟨rfl, ⟨by rw [ht]; exact hP, va_K.moved hW.alike hK, hD⟩, hS.F ht⟩) hS.2.2 hdg hlocks
theorem zw_vret {cu' : zw_R → va_E} {ans : Option Value} (hx : p.tables.exec = Jvm.exec) (hb : c.code = cc) (hr : meth.sig.returnType = none) (hlocks : meth.locks = false) (hK : va_K E.1 E.2.1 E.2.2 s) (hP : va_P E.1 E.2.1 (zw_l ad R cu) H) (hD : va_D A (zw_l ad R cu)) (hS : va_S A s.heap H locs) (hdg : decode cc pc = .ok (.return_, 1)) (hv : ans = none) (hc : cu' = cu) :
    W p l e RM s m args below meth c H locs cells slots (MQ below (zw_Q ans (zw_B E A ad R cu') A) args s cells slots A) (F0 m pc ls []) := by
  subst hv; subst hc
  exact W.vret hx hb hr (fun t ht hW => ⟨rfl, ⟨by rw [ht]; exact hP, va_K.moved hW.alike hK, hD⟩, hS.F ht⟩) hS.2.2 hdg hlocks
theorem zw_aret {cu' : zw_R → va_E} {ans : Option Value} {v : Value} {C : String} (hx : p.tables.exec = Jvm.exec) (hb : c.code = cc) (hr : meth.sig.returnType = some (.object C)) (hlocks : meth.locks = false) (hK : va_K E.1 E.2.1 E.2.2 s) (hP : va_P E.1 E.2.1 (zw_l ad R cu) H) (hD : va_D A (zw_l ad R cu)) (hS : va_S A s.heap H locs) (hvr : v = .null ∨ ∃ a, v = .ref a) (hdg : decode cc pc = .ok (.areturn, 1)) (hv : ans = some v) (hc : cu' = cu) :
    W p l e RM s m args below meth c H locs cells slots (MQ below (zw_Q ans (zw_B E A ad R cu') A) args s cells slots A) (F0 m pc ls [v]) := by
  subst hv; subst hc
  exact W.aret hx hb hr (Or.inl ⟨C, rfl⟩) hvr (fun t ht hW => ⟨rfl, ⟨by rw [ht]; exact hP, va_K.moved hW.alike hK, hD⟩, hS.F ht⟩) hS.2.2 hdg hlocks
theorem zw_getf (hexec : p.tables.exec = Jvm.exec) (hb : c.code = cc) {own ref C : String} {T : u_T} {N ci index : Nat} {Ts : List Cond} (hts : ∀ w ∈ Ts, w.before args s = true) (hin : ∀ w ∈ u_ws C T N, w ∈ Ts) (hown : s.vm.findClass own = some m.cls) (hK : va_K E.1 E.2.1 E.2.2 s) (hP : va_P E.1 E.2.1 (zw_l ad R cu) H) {r : zw_R} (hr : r ∈ R) {fs : List Value} (he : cu r = .inr (ci, fs)) (hc : E.2.1[ci]? = some (C, T, N)) (k : Nat) (hk : k < N) (hlink : (Cond.fieldLink own index ref (T k).2.1 (T k).2.2.1).before args s = true) (hsame : ∀ x, s.fieldFound? (T k).1 (T k).2.1 (T k).2.2.1 = some x → s.fieldFound? ref (T k).2.1 (T k).2.2.1 = some x) {v : Value} (hv : fs[k]? = some v) (hdg : decode cc pc = .ok (.getfield index, 3))
    (kk : W p l e RM s m args below meth c H locs cells slots Q (F0 m (pc + 3) ls (v :: rest))) : W p l e RM s m args below meth c H locs cells slots Q (F0 m pc ls (.ref (ad r) :: rest)) := by
  obtain ⟨q0, -, h0⟩ := zw_at (ad := ad) (cu := cu) hr
  rw [he] at h0
  exact va_get hexec hb hts hin hown hK hP q0 h0 hc k hk hlink hsame hv hdg kk
theorem zw_getN (hexec : p.tables.exec = Jvm.exec) (hb : c.code = cc) {own ref C host : String} {T : u_T} {N ci index : Nat} {Ts : List Cond} (hts : ∀ w ∈ Ts, w.before args s = true) (hin : ∀ w ∈ u_ws C T N, w ∈ Ts) (hown : s.vm.findClass own = some m.cls) (hK : va_K E.1 E.2.1 E.2.2 s) (hP : va_P E.1 E.2.1 (zw_l ad R cu) H) {r : zw_R} (hr : r ∈ R) {fs : List Value} (he : cu r = .inr (ci, fs)) (hc : E.2.1[ci]? = some (C, T, N)) (k : Nat) (hk : k < N) (hlink : (Cond.fieldLinkNest own index ref (T k).2.1 (T k).2.2.1 host).before args s = true) (hsame : ∀ x, s.fieldFound? (T k).1 (T k).2.1 (T k).2.2.1 = some x → s.fieldFound? ref (T k).2.1 (T k).2.2.1 = some x) {v : Value} (hv : fs[k]? = some v) (hdg : decode cc pc = .ok (.getfield index, 3))
    (kk : W p l e RM s m args below meth c H locs cells slots Q (F0 m (pc + 3) ls (v :: rest))) : W p l e RM s m args below meth c H locs cells slots Q (F0 m pc ls (.ref (ad r) :: rest)) := by
  obtain ⟨q0, -, h0⟩ := zw_at (ad := ad) (cu := cu) hr
  rw [he] at h0
  exact va_getN hexec hb hts hin hown hK hP q0 h0 hc k hk hlink hsame hv hdg kk
theorem zw_putf (hexec : p.tables.exec = Jvm.exec) (hb : c.code = cc) {own ref C : String} {T : u_T} {N ci index : Nat} {Ts : List Cond} (hts : ∀ w ∈ Ts, w.before args s = true) (hin : ∀ w ∈ u_ws C T N, w ∈ Ts) (ty0 : Nat → FieldType) (hty : ∀ k, k < N → parseFieldDescriptor (T k).2.2.1 = some (ty0 k)) (hnm : ∀ a, a < N → ∀ b, b < N → a ≠ b → (T a).2.1 ≠ (T b).2.1) (hown : s.vm.findClass own = some m.cls) (hK : va_K E.1 E.2.1 E.2.2 s) (hP : va_P E.1 E.2.1 (zw_l ad R cu) H) (hD : va_D A (zw_l ad R cu)) (hS0 : va_S A H0 H locs) {r : zw_R} (hr : r ∈ R) {fs : List Value} (he : cu r = .inr (ci, fs)) (hc : E.2.1[ci]? = some (C, T, N)) (k : Nat) (hk : k < N) (hlink : (Cond.fieldLink own index ref (T k).2.1 (T k).2.2.1).before args s = true) (hsame : ∀ x, s.fieldFound? (T k).1 (T k).2.1 (T k).2.2.1 = some x → s.fieldFound? ref (T k).2.1 (T k).2.2.1 = some x) (hfin : (T k).2.2.2 = false) {ty : FieldType} {v : Value} (hd : parseFieldDescriptor (T k).2.2.1 = some ty) (hn : narrow ty v = v) (hfit : fits ty v = true) (hl : k < fs.length)
    (hdg : decode cc pc = .ok (.putfield index, 3)) {cu1 : zw_R → va_E} (hcu : cu1 = zw_u cu r (.inr (ci, fs.set k v))) (kk : ∀ (H1 : Heap) (locs1 : List Loc), va_P E.1 E.2.1 (zw_l ad R cu1) H1 → va_D A (zw_l ad R cu1) → va_S A H0 H1 locs1 → W p l e RM s m args below meth c H1 locs1 cells slots Q (F0 m (pc + 3) ls rest)) : W p l e RM s m args below meth c H locs cells slots Q (F0 m pc ls (v :: .ref (ad r) :: rest)) := by
  obtain ⟨q0, hq, h0⟩ := zw_at (ad := ad) (cu := cu) hr
  rw [he] at h0
  refine va_put hexec hb hts hin ty0 hty hnm hown hK hP hD hS0 q0 h0 hc k hk hlink hsame hfin hd hn hfit hl hdg (fun H1 locs1 h1 h2 h3 => ?_)
  rw [zw_set hD hq, ← hcu] at h1 h2
  exact kk H1 locs1 h1 h2 h3
theorem zw_putN (hexec : p.tables.exec = Jvm.exec) (hb : c.code = cc) {own ref C host : String} {T : u_T} {N ci index : Nat} {Ts : List Cond} (hts : ∀ w ∈ Ts, w.before args s = true) (hin : ∀ w ∈ u_ws C T N, w ∈ Ts) (ty0 : Nat → FieldType) (hty : ∀ k, k < N → parseFieldDescriptor (T k).2.2.1 = some (ty0 k)) (hnm : ∀ a, a < N → ∀ b, b < N → a ≠ b → (T a).2.1 ≠ (T b).2.1) (hown : s.vm.findClass own = some m.cls) (hK : va_K E.1 E.2.1 E.2.2 s) (hP : va_P E.1 E.2.1 (zw_l ad R cu) H) (hD : va_D A (zw_l ad R cu)) (hS0 : va_S A H0 H locs) {r : zw_R} (hr : r ∈ R) {fs : List Value} (he : cu r = .inr (ci, fs)) (hc : E.2.1[ci]? = some (C, T, N)) (k : Nat) (hk : k < N) (hlink : (Cond.fieldLinkNest own index ref (T k).2.1 (T k).2.2.1 host).before args s = true) (hsame : ∀ x, s.fieldFound? (T k).1 (T k).2.1 (T k).2.2.1 = some x → s.fieldFound? ref (T k).2.1 (T k).2.2.1 = some x) (hfin : (T k).2.2.2 = false) {ty : FieldType} {v : Value} (hd : parseFieldDescriptor (T k).2.2.1 = some ty) (hn : narrow ty v = v) (hfit : fits ty v = true) (hl : k < fs.length)
    (hdg : decode cc pc = .ok (.putfield index, 3)) {cu1 : zw_R → va_E} (hcu : cu1 = zw_u cu r (.inr (ci, fs.set k v))) (kk : ∀ (H1 : Heap) (locs1 : List Loc), va_P E.1 E.2.1 (zw_l ad R cu1) H1 → va_D A (zw_l ad R cu1) → va_S A H0 H1 locs1 → W p l e RM s m args below meth c H1 locs1 cells slots Q (F0 m (pc + 3) ls rest)) : W p l e RM s m args below meth c H locs cells slots Q (F0 m pc ls (v :: .ref (ad r) :: rest)) := by
  obtain ⟨q0, hq, h0⟩ := zw_at (ad := ad) (cu := cu) hr
  rw [he] at h0
  refine va_putN hexec hb hts hin ty0 hty hnm hown hK hP hD hS0 q0 h0 hc k hk hlink hsame hfin hd hn hfit hl hdg (fun H1 locs1 h1 h2 h3 => ?_)
  rw [zw_set hD hq, ← hcu] at h1 h2
  exact kk H1 locs1 h1 h2 h3
theorem zw_putF (hexec : p.tables.exec = Jvm.exec) (hb : c.code = cc) {own ref C : String} {T : u_T} {N ci index : Nat} {Ts : List Cond} (hts : ∀ w ∈ Ts, w.before args s = true) (hin : ∀ w ∈ u_ws C T N, w ∈ Ts) (ty0 : Nat → FieldType) (hty : ∀ k, k < N → parseFieldDescriptor (T k).2.2.1 = some (ty0 k)) (hnm : ∀ a, a < N → ∀ b, b < N → a ≠ b → (T a).2.1 ≠ (T b).2.1) (hown : s.vm.findClass own = some m.cls) (hK : va_K E.1 E.2.1 E.2.2 s) (hP : va_P E.1 E.2.1 (zw_l ad R cu) H) (hD : va_D A (zw_l ad R cu)) (hS0 : va_S A H0 H locs) {r : zw_R} (hr : r ∈ R) {fs : List Value} (he : cu r = .inr (ci, fs)) (hc : E.2.1[ci]? = some (C, T, N)) (k : Nat) (hk : k < N) (hlink : (Cond.fieldLink own index ref (T k).2.1 (T k).2.2.1).before args s = true) (hsame : ∀ x, s.fieldFound? (T k).1 (T k).2.1 (T k).2.2.1 = some x → s.fieldFound? ref (T k).2.1 (T k).2.2.1 = some x) (hfin : (T k).2.2.2 = true) (hin2 : meth.name = "<init>") (hdecl : (T k).1 = own) {ty : FieldType} {v : Value} (hd : parseFieldDescriptor (T k).2.2.1 = some ty) (hn : narrow ty v = v) (hfit : fits ty v = true) (hl : k < fs.length)
    (hdg : decode cc pc = .ok (.putfield index, 3)) {cu1 : zw_R → va_E} (hcu : cu1 = zw_u cu r (.inr (ci, fs.set k v))) (kk : ∀ (H1 : Heap) (locs1 : List Loc), va_P E.1 E.2.1 (zw_l ad R cu1) H1 → va_D A (zw_l ad R cu1) → va_S A H0 H1 locs1 → W p l e RM s m args below meth c H1 locs1 cells slots Q (F0 m (pc + 3) ls rest)) : W p l e RM s m args below meth c H locs cells slots Q (F0 m pc ls (v :: .ref (ad r) :: rest)) := by
  obtain ⟨q0, hq, h0⟩ := zw_at (ad := ad) (cu := cu) hr
  rw [he] at h0
  refine va_putF hexec hb hts hin ty0 hty hnm hown hK hP hD hS0 q0 h0 hc k hk hlink hsame hfin hin2 hdecl hd hn hfit hl hdg (fun H1 locs1 h1 h2 h3 => ?_)
  rw [zw_set hD hq, ← hcu] at h1 h2
  exact kk H1 locs1 h1 h2 h3
theorem zw_alen (hexec : p.tables.exec = Jvm.exec) (hb : c.code = cc) (hK : va_K E.1 E.2.1 E.2.2 s) (hP : va_P E.1 E.2.1 (zw_l ad R cu) H) {r : zw_R} (hr : r ∈ R) (t0 : Nat) {cA : ClassId} {x : vp_A} (he : cu r = .inl (cA, x)) {ty : FieldType} (ht : E.2.2[t0]? = some (cA, ty)) {v : Int32} (hv : Int32.ofNat x.1 = v) (hdg : decode cc pc = .ok (.arraylength, 1))
    (kk : W p l e RM s m args below meth c H locs cells slots Q (F0 m (pc + 1) ls (.int v :: rest))) : W p l e RM s m args below meth c H locs cells slots Q (F0 m pc ls (.ref (ad r) :: rest)) := by
  obtain ⟨q0, -, h0⟩ := zw_at (ad := ad) (cu := cu) hr
  rw [he] at h0
  exact va_alen hexec hb hK hP q0 t0 h0 ht hv hdg kk
theorem zw_iald (hexec : p.tables.exec = Jvm.exec) (hb : c.code = cc) (hK : va_K E.1 E.2.1 E.2.2 s) (hP : va_P E.1 E.2.1 (zw_l ad R cu) H) {r : zw_R} (hr : r ∈ R) (t0 : Nat) {cA : ClassId} {n : Nat} {f : Nat → Int32} (he : cu r = .inl (cA, n, .inl f)) (ht : E.2.2[t0]? = some (cA, .int)) {i : Int32} (hin : vp_in i n) (hdg : decode cc pc = .ok (.iaload, 1))
    (kk : W p l e RM s m args below meth c H locs cells slots Q (F0 m (pc + 1) ls (.int (f i.toNatClampNeg) :: rest))) : W p l e RM s m args below meth c H locs cells slots Q (F0 m pc ls (.int i :: .ref (ad r) :: rest)) := by
  obtain ⟨q0, -, h0⟩ := zw_at (ad := ad) (cu := cu) hr
  rw [he] at h0
  exact va_iald hexec hb hK hP q0 t0 h0 ht hin hdg kk
theorem zw_iast (hexec : p.tables.exec = Jvm.exec) (hb : c.code = cc) (hK : va_K E.1 E.2.1 E.2.2 s) (hP : va_P E.1 E.2.1 (zw_l ad R cu) H) (hD : va_D A (zw_l ad R cu)) (hS : va_S A H0 H locs) {r : zw_R} (hr : r ∈ R) (t0 : Nat) {cA : ClassId} {n : Nat} {f : Nat → Int32} (he : cu r = .inl (cA, n, .inl f)) (ht : E.2.2[t0]? = some (cA, .int)) {i : Int32} {x : Int32} (hin : vp_in i n) (hdg : decode cc pc = .ok (.iastore, 1))
    {cu1 : zw_R → va_E} (hcu : cu1 = zw_u cu r (.inl (cA, n, .inl (upd f i.toNatClampNeg x)))) (kk : ∀ (H1 : Heap) (locs1 : List Loc), va_P E.1 E.2.1 (zw_l ad R cu1) H1 → va_D A (zw_l ad R cu1) → va_S A H0 H1 locs1 → W p l e RM s m args below meth c H1 locs1 cells slots Q (F0 m (pc + 1) ls rest)) : W p l e RM s m args below meth c H locs cells slots Q (F0 m pc ls (.int x :: .int i :: .ref (ad r) :: rest)) := by
  obtain ⟨q0, hq, h0⟩ := zw_at (ad := ad) (cu := cu) hr
  rw [he] at h0
  refine va_iast hexec hb hK hP hD hS q0 t0 h0 ht hin hdg (fun H1 locs1 h1 h2 h3 => ?_)
  rw [zw_set hD hq, ← hcu] at h1 h2
  exact kk H1 locs1 h1 h2 h3
theorem zw_aldq (hexec : p.tables.exec = Jvm.exec) (hb : c.code = cc) (hK : va_K E.1 E.2.1 E.2.2 s) (hP : va_P E.1 E.2.1 (zw_l ad R cu) H) {r : zw_R} (hr : r ∈ R) (t0 : Nat) {cA : ClassId} {C : String} {n : Nat} {f : Nat → Option Nat} (he : cu r = .inl (cA, n, .inr (.inr (.inr (.inr f))))) (ht : E.2.2[t0]? = some (cA, .object C)) {i : Int32} (hin : vp_in i n) {v : Value} (hv : va_rf (f i.toNatClampNeg) = v) (hdg : decode cc pc = .ok (.aaload, 1))
    (kk : W p l e RM s m args below meth c H locs cells slots Q (F0 m (pc + 1) ls (v :: rest))) : W p l e RM s m args below meth c H locs cells slots Q (F0 m pc ls (.int i :: .ref (ad r) :: rest)) := by
  obtain ⟨q0, -, h0⟩ := zw_at (ad := ad) (cu := cu) hr
  rw [he] at h0
  subst hv
  exact va_aldq hexec hb hK hP q0 t0 h0 ht hin hdg kk
/-- behind a call of a method that makes nothing -/
theorem zw_call {ans : Option Value} {cu' : zw_R → va_E} {st0 : List Value} {a : Array Value} {st1 : List Value} (h1 : ans.toList ++ rest = st1) (hr : va_Run p l e RM s m args below meth c H locs cells slots 0 0 (F0 m pc ls st0) rest (zw_Q ans (zw_B E (va_A (zw_l ad R cu) H.size) ad R cu') (va_A (zw_l ad R cu) H.size) a) (va_A (zw_l ad R cu) H.size)) (hD : va_D A (zw_l ad R cu)) (hS : va_S A H0 H locs) (hA : ∀ q, H0.size ≤ q → A q)
    (kk : ∀ (H1 : Heap) (locs1 : List Loc), va_P E.1 E.2.1 (zw_l ad R cu') H1 → va_D A (zw_l ad R cu') → va_S A H0 H1 locs1 → W p l e RM s m args below meth c H1 locs1 cells slots Q (F0 m (pc + 3) ls st1)) : W p l e RM s m args below meth c H locs cells slots Q (F0 m pc ls st0) := by
  subst h1
  intro T hT X
  have hF := zw_free hD hS hA
  obtain ⟨v, st₀, t, T', L, h0, X', hL, e1, e2, ⟨hv, ⟨bP, bK, bD⟩, hz, hk⟩, st⟩ := hr T hT X
  cases hv
  rw [h0] at hz hk
  obtain ⟨t2, a1, b1⟩ := kk T'.heap (locs ++ L) (by rw [e1]; exact bP) (bD.weaken (fun _ _ _ h => hF _ h))
    ⟨Nat.le_trans hS.1 (by rw [e1]; exact hz), fun q h1 h2 => by rw [e1, hk q (Nat.lt_of_lt_of_le h1 hS.1) (fun z => h2 (hF q z))]; exact hS.2.1 q h1 h2, fun q hq => by
      rcases List.mem_append.mp hq with h | h
      · exact hS.2.2 q h
      · exact hF _ (hL q h)⟩ T' rfl X'
  exact ⟨t2, st t2 a1, b1⟩
variable {y : MethodName} {bytes : ByteArray} {maxL nL n index : Nat} {ret : Option FieldType} {ws Ts : List Cond} {rm : Room} {own C host : String} {As : List Value} {ans : Option Value} {cu' : zw_R → va_E} {st0 st1 : List Value}
theorem zw_cS (S : CallFix p m c cc nL s args Ts own) (hM : zw_M l y ws rm E As ad R cu ans cu') (cw : CallB RM s args own index y bytes maxL ret ws rm 0 0 n ∧ (Cond.static y).before args s = true) (hK : va_K E.1 E.2.1 E.2.2 s) (hP : va_P E.1 E.2.1 (zw_l ad R cu) H) (hD : va_D A (zw_l ad R cu)) (hS : va_S A H0 H locs) (hA : ∀ q, H0.size ≤ q → A q) (hN : zw_N s)
    (hn : As.length = n) (hsize : ls.size = nL) (hstack : st0 = As.reverse ++ rest) (hW : (rest.map fun v => v.category).sum ≤ 8) (h1 : ans.toList ++ rest = st1) (hdg : decode cc pc = .ok (.invokestatic index, 3)) (hf : cells ≤ RM.cells ∧ slots ≤ RM.slots)
    (kk : ∀ (H1 : Heap) (locs1 : List Loc), va_P E.1 E.2.1 (zw_l ad R cu') H1 → va_D A (zw_l ad R cu') → va_S A H0 H1 locs1 → W p l e RM s m args below meth c H1 locs1 cells slots Q (F0 m (pc + 3) ls st1)) : W p l e RM s m args below meth c H locs cells slots Q (F0 m pc ls st0) :=
  zw_call h1 (va_runS (As := As) (rest := rest) (g := F0 m pc ls st0) S (hM H.size) cw ⟨zw_blind, fun U hU hW => ⟨rfl, by rw [hU], by rw [hU]; exact hP, va_K.moved hW.alike hK, hD.weaken (fun _ _ _ _ => trivial), zw_N.warm hW hN⟩⟩ rfl hn hsize hstack (lv_room hW) hdg hf) hD hS hA kk
theorem zw_cV (S : CallFix p m c cc nL s args Ts own) {r : zw_R} (hM : zw_M l y ws rm E (.ref (ad r) :: As) ad R cu ans cu') (cw : CallW RM s args own C index y bytes maxL ret ws rm 0 0 n) (hr : r ∈ R) {ci : Nat} {fs : List Value} (he : cu r = .inr (ci, fs)) {q : vw_C} (hc : E.2.1[ci]? = some q) (hq : q.1 = C) (hK : va_K E.1 E.2.1 E.2.2 s) (hP : va_P E.1 E.2.1 (zw_l ad R cu) H) (hD : va_D A (zw_l ad R cu)) (hS : va_S A H0 H locs) (hA : ∀ q, H0.size ≤ q → A q) (hN : zw_N s)
    (hn : As.length = n) (hsize : ls.size = nL) (hstack : st0 = As.reverse ++ .ref (ad r) :: rest) (hW : (rest.map fun v => v.category).sum ≤ 8) (h1 : ans.toList ++ rest = st1) (hdg : decode cc pc = .ok (.invokevirtual index, 3)) (hf : cells ≤ RM.cells ∧ slots ≤ RM.slots)
    (kk : ∀ (H1 : Heap) (locs1 : List Loc), va_P E.1 E.2.1 (zw_l ad R cu') H1 → va_D A (zw_l ad R cu') → va_S A H0 H1 locs1 → W p l e RM s m args below meth c H1 locs1 cells slots Q (F0 m (pc + 3) ls st1)) : W p l e RM s m args below meth c H locs cells slots Q (F0 m pc ls st0) := by
  obtain ⟨q0, -, h0⟩ := zw_at (ad := ad) (cu := cu) hr
  rw [he] at h0
  subst hq
  exact zw_call h1 (va_runV (As := As) (rest := rest) (g := F0 m pc ls st0) S (hM H.size) cw ⟨zw_blind, va_recv hK hP hc h0, fun U hU hW => ⟨rfl, by rw [hU], by rw [hU]; exact hP, va_K.moved hW.alike hK, hD.weaken (fun _ _ _ _ => trivial), zw_N.warm hW hN⟩⟩ rfl hn hsize hstack (lv_room hW) hdg hf) hD hS hA kk
theorem zw_cVN (S : CallFix p m c cc nL s args Ts own) {r : zw_R} (hM : zw_M l y ws rm E (.ref (ad r) :: As) ad R cu ans cu') (cw : va_CN RM s args own index y host bytes maxL ret ws rm 0 0 n ∧ (Cond.instanceMethod y).before args s = true ∧ (Cond.selects C y y).before args s = true) (hr : r ∈ R) {ci : Nat} {fs : List Value} (he : cu r = .inr (ci, fs)) {q : vw_C} (hc : E.2.1[ci]? = some q) (hq : q.1 = C) (hK : va_K E.1 E.2.1 E.2.2 s) (hP : va_P E.1 E.2.1 (zw_l ad R cu) H) (hD : va_D A (zw_l ad R cu)) (hS : va_S A H0 H locs) (hA : ∀ q, H0.size ≤ q → A q) (hN : zw_N s)
    (hn : As.length = n) (hsize : ls.size = nL) (hstack : st0 = As.reverse ++ .ref (ad r) :: rest) (hW : (rest.map fun v => v.category).sum ≤ 8) (h1 : ans.toList ++ rest = st1) (hdg : decode cc pc = .ok (.invokevirtual index, 3)) (hf : cells ≤ RM.cells ∧ slots ≤ RM.slots)
    (kk : ∀ (H1 : Heap) (locs1 : List Loc), va_P E.1 E.2.1 (zw_l ad R cu') H1 → va_D A (zw_l ad R cu') → va_S A H0 H1 locs1 → W p l e RM s m args below meth c H1 locs1 cells slots Q (F0 m (pc + 3) ls st1)) : W p l e RM s m args below meth c H locs cells slots Q (F0 m pc ls st0) := by
  obtain ⟨q0, -, h0⟩ := zw_at (ad := ad) (cu := cu) hr
  rw [he] at h0
  subst hq
  exact zw_call h1 (va_runVN (As := As) (rest := rest) (g := F0 m pc ls st0) S (hM H.size) cw ⟨zw_blind, va_recv hK hP hc h0, fun U hU hW => ⟨rfl, by rw [hU], by rw [hU]; exact hP, va_K.moved hW.alike hK, hD.weaken (fun _ _ _ _ => trivial), zw_N.warm hW hN⟩⟩ rfl hn hsize hstack (lv_room hW) hdg hf) hD hS hA kk
end ZW
