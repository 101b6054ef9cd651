/-! MY OWN ROWS, second part: a contract's start and end, what throws, more of arrays. -/
section JE
variable {p : Program} {l : Launch} {e : Env} {R : Room} {s : State} {m : MethodId} {args : Array Value} {below : List Frame} {meth : Method} {c : Code} {H : Heap} {locs : List Loc} {cells slots : Nat} {Q : State → Prop}
variable {cc : ByteArray} {pc : Nat} {ls : Array Slot} {rest st : List Value} {D : va_G} {cy : Nat → ClassId} {A : Nat → Prop} {H0 : Heap} {w : va_W} {Ts : List Cond} {nL : Nat} {own : String}
/-- a contract's start: its walk from the entry, over any record A of what is free -/
theorem j_of {y : MethodName} {maxL : Nat} {ret : Option FieldType} {rm : Room} {As : List Value} {mc ms : Nat} {post : Option Value → va_W → Prop} (hy : plainName y.cls = true) (hown : y.cls = own) (hlen : (lg_sl As).length ≤ maxL)
    (body : ∀ (p : Program) (e : Env) (s : State) (m : MethodId) (args : Array Value) (below : List Frame) (meth : Method) (c : Code) (A : Nat → Prop) (ls : Array Slot) (Q : State → Prop), MQ below (jQ D cy A post) args s mc ms A = Q → CallFix p m c cc maxL s args (jws y cc maxL ret) own → (meth.sig.returnType = ret ∧ meth.locks = false ∧ meth.name = y.name) →
      jK D cy s → (∀ q, s.heap.size ≤ q → A q) → ∀ (H : Heap) (locs : List Loc), jW D A s.heap w H locs → lv_has ls maxL (lv_args 0 As) →
      W p l e rm s m args below meth c H locs 0 0 Q (F0 m 0 ls [])) : jM l y (jws y cc maxL ret) rm D cy w As mc ms post := by
  intro sz
  refine Met.ofW (cc := cc) (maxL := maxL) (ret := ret) hy rfl ?_
  intro p e s m args below meth c s₁ B hml hv
  obtain ⟨rfl, hsz, hP, hK, hD0⟩ := hv
  have hD := hD0.self (sz := s.heap.size)
  subst hsz
  have hl := lv_entry As (n := maxL) hlen
  rw [lg_entry_eq]
  exact body p e s m _ below meth c (va_A w s.heap.size) _ _ rfl ⟨B.exec, B.bytes, hml, by rw [← hown]; exact findClass_of_methodNamed B.named, atoms_spec (ws := jws y cc maxL ret) B.pre⟩ ⟨B.returns, B.notSynchronized, (name_of_methodNamed B.named B.method).1⟩ hK (fun q h => Or.inr h) _ _ ⟨hP, hD, va_S.rf⟩ hl
theorem jQ_mk {post : Option Value → va_W → Prop} {v : Option Value} {u : va_W} (hK : jK D cy s) (hW : jW D A s.heap u H locs) (hp : post v u) : ∀ t : State, t.heap = H → s.WarmedH t.vm → jQ D cy A post args s (.returned v) t := fun t ht hw =>
  ⟨⟨v, u, rfl, hp, by rw [ht]; exact hW.1, va_K.moved hw.alike hK.1, hW.2.1⟩, hW.2.2.F ht⟩
abbrev jRt (meth : Method) (ret : Option FieldType) (nm : String) : Prop := meth.sig.returnType = ret ∧ meth.locks = false ∧ meth.name = nm
theorem j_iret {ty : FieldType} {nm : String} {mc ms : Nat} {post : Option Value → va_W → Prop} {v : Int32} {u : va_W} (S : CallFix p m c cc nL s args Ts own) (hr : jRt meth (some ty) nm) (hn : narrow ty (.int v) = .int v) (hK : jK D cy s) (hW : jW D A s.heap u H locs) (hdg : decode cc pc = .ok (.ireturn, 1)) (hc : cells ≤ mc ∧ slots ≤ ms) (hp : post (some (.int v)) u) :
    W p l e R s m args below meth c H locs cells slots (MQ below (jQ D cy A post) args s mc ms A) (F0 m pc ls [.int v]) :=
  W.widen hc.1 hc.2 (W.zret S.1 S.2.1 hr.1 hn (jQ_mk hK hW hp) hW.2.2.2.2 hdg hr.2.1)
theorem j_lret {nm : String} {mc ms : Nat} {post : Option Value → va_W → Prop} {v : Int64} {u : va_W} (S : CallFix p m c cc nL s args Ts own) (hr : jRt meth (some .long) nm) (hK : jK D cy s) (hW : jW D A s.heap u H locs) (hdg : decode cc pc = .ok (.lreturn, 1)) (hc : cells ≤ mc ∧ slots ≤ ms) (hp : post (some (.long v)) u) :
    W p l e R s m args below meth c H locs cells slots (MQ below (jQ D cy A post) args s mc ms A) (F0 m pc ls [.long v]) :=
  W.widen hc.1 hc.2 (W.lret S.1 S.2.1 hr.1 (jQ_mk hK hW hp) hW.2.2.2.2 hdg hr.2.1)
theorem j_fret {nm : String} {mc ms : Nat} {post : Option Value → va_W → Prop} {v : UInt32} {u : va_W} (S : CallFix p m c cc nL s args Ts own) (hr : jRt meth (some .float) nm) (hK : jK D cy s) (hW : jW D A s.heap u H locs) (hdg : decode cc pc = .ok (.freturn, 1)) (hc : cells ≤ mc ∧ slots ≤ ms) (hp : post (some (.float v)) u) :
    W p l e R s m args below meth c H locs cells slots (MQ below (jQ D cy A post) args s mc ms A) (F0 m pc ls [.float v]) :=
  W.widen hc.1 hc.2 (W.fret S.1 S.2.1 hr.1 (jQ_mk hK hW hp) hW.2.2.2.2 hdg hr.2.1)
theorem j_dret {nm : String} {mc ms : Nat} {post : Option Value → va_W → Prop} {v : UInt64} {u : va_W} (S : CallFix p m c cc nL s args Ts own) (hr : jRt meth (some .double) nm) (hK : jK D cy s) (hW : jW D A s.heap u H locs) (hdg : decode cc pc = .ok (.dreturn, 1)) (hc : cells ≤ mc ∧ slots ≤ ms) (hp : post (some (.double v)) u) :
    W p l e R s m args below meth c H locs cells slots (MQ below (jQ D cy A post) args s mc ms A) (F0 m pc ls [.double v]) :=
  W.widen hc.1 hc.2 (W.dret S.1 S.2.1 hr.1 (jQ_mk hK hW hp) hW.2.2.2.2 hdg hr.2.1)
theorem j_vret {nm : String} {mc ms : Nat} {post : Option Value → va_W → Prop} {u : va_W} (S : CallFix p m c cc nL s args Ts own) (hr : jRt meth none nm) (hK : jK D cy s) (hW : jW D A s.heap u H locs) (hdg : decode cc pc = .ok (.return_, 1)) (hc : cells ≤ mc ∧ slots ≤ ms) (hp : post none u) :
    W p l e R s m args below meth c H locs cells slots (MQ below (jQ D cy A post) args s mc ms A) (F0 m pc ls []) :=
  W.widen hc.1 hc.2 (W.vret S.1 S.2.1 hr.1 (jQ_mk hK hW hp) hW.2.2.2.2 hdg hr.2.1)
theorem j_aret {nm C : String} {mc ms : Nat} {post : Option Value → va_W → Prop} {v : Value} {u : va_W} (S : CallFix p m c cc nL s args Ts own) (hr : jRt meth (some (.object C)) nm) (hv : v = .null ∨ ∃ a, v = .ref a) (hK : jK D cy s) (hW : jW D A s.heap u H locs) (hdg : decode cc pc = .ok (.areturn, 1)) (hc : cells ≤ mc ∧ slots ≤ ms) (hp : post (some v) u) :
    W p l e R s m args below meth c H locs cells slots (MQ below (jQ D cy A post) args s mc ms A) (F0 m pc ls [v]) :=
  W.widen hc.1 hc.2 (W.aret S.1 S.2.1 hr.1 (Or.inl ⟨_, rfl⟩) hv (jQ_mk hK hW hp) hW.2.2.2.2 hdg hr.2.1)
-- more of arrays
theorem j_zast (S : CallFix p m c cc nL s args Ts own) (hK : jK D cy s) (hW : jW D A H0 w H locs) {q0 a : Nat} {n : Nat} {f : Nat → Int32} (ha : w[q0]? = some (a, .inl (cy 3, n, .inl f))) {i x : Int32} {j : Nat} (hi : vp_in i n) (hj : i.toNatClampNeg = j) (hx : vp_nar .boolean x = x) (hdg : decode cc pc = .ok (.bastore, 1))
    (kk : ∀ (H1 : Heap) (locs1 : List Loc) (w1 : va_W), jU w w1 [q0] → w1[q0]? = some (a, .inl (cy 3, n, .inl (upd f j x))) → jW D A H0 w1 H1 locs1 → W p l e R s m args below meth c H1 locs1 cells slots Q (F0 m (pc + 1) ls rest)) : W p l e R s m args below meth c H locs cells slots Q (F0 m pc ls (.int x :: .int i :: .ref a :: rest)) := by
  subst hj
  refine va_zast S.1 S.2.1 hK.1 hW.1 hW.2.1 hW.2.2 q0 3 ha rfl hi hdg (fun H1 locs1 h1 h2 h3 => ?_)
  rw [hx] at h1 h2
  exact kk H1 locs1 _ jU.set (jset ha) ⟨h1, h2, h3⟩
theorem j_cast (S : CallFix p m c cc nL s args Ts own) (hK : jK D cy s) (hW : jW D A H0 w H locs) {q0 a : Nat} {n : Nat} {f : Nat → Int32} (ha : w[q0]? = some (a, .inl (cy 2, n, .inl f))) {i x : Int32} {j : Nat} (hi : vp_in i n) (hj : i.toNatClampNeg = j) (hx : vp_nar .char x = x) (hdg : decode cc pc = .ok (.castore, 1))
    (kk : ∀ (H1 : Heap) (locs1 : List Loc) (w1 : va_W), jU w w1 [q0] → w1[q0]? = some (a, .inl (cy 2, n, .inl (upd f j x))) → jW D A H0 w1 H1 locs1 → W p l e R s m args below meth c H1 locs1 cells slots Q (F0 m (pc + 1) ls rest)) : W p l e R s m args below meth c H locs cells slots Q (F0 m pc ls (.int x :: .int i :: .ref a :: rest)) := by
  subst hj
  refine va_cast S.1 S.2.1 hK.1 hW.1 hW.2.1 hW.2.2 q0 2 ha rfl hi hdg (fun H1 locs1 h1 h2 h3 => ?_)
  rw [hx] at h1 h2
  exact kk H1 locs1 _ jU.set (jset ha) ⟨h1, h2, h3⟩
/-- a new object, its fields as they are at first -/
theorem j_new {C : String} {T : u_T} {N ci index : Nat} {fs : List Value} (S : CallFix p m c cc nL s args Ts own) (hin : ∀ w ∈ u_ws C T N, w ∈ Ts) (ty : Nat → FieldType) (hty : ∀ k, k < N → parseFieldDescriptor (T k).2.2.1 = some (ty k)) (hcl : Cond.classLink own index C ∈ Ts) (hinst : Cond.instantiable C N ∈ Ts) (hini : Cond.initialized C ∈ Ts)
    (hK : jK D cy s) (hA : ∀ q, H0.size ≤ q → A q) (hW : jW D A H0 w H locs) (hc : vwCl[ci]? = some (C, T, N)) (hfs : ∀ j, j < N → fs[j]? = some (defaultValue (ty j))) (hcells : cells + 1 ≤ R.cells) (hslots : slots + N ≤ R.slots) (hdg : decode cc pc = .ok (.new index, 3))
    (kk : ∀ (q : Nat) (H1 : Heap), jW D A H0 (w ++ [(q, .inr (ci, fs))]) H1 locs → W p l e R s m args below meth c H1 locs (cells + 1) (slots + N) Q (F0 m (pc + 3) ls (.ref q :: rest))) : W p l e R s m args below meth c H locs cells slots Q (F0 m pc ls rest) := by
  refine va_new S.1 S.2.1 S.2.2.2.2 hin ty hty S.2.2.2.1 (S.2.2.2.2 _ hcl) (S.2.2.2.2 _ hinst) (S.2.2.2.2 _ hini) hK.1 hW.1 hW.2.1 hW.2.2 hA hc (fun j hj => ?_) hcells hslots hdg (fun q H1 h1 h2 h3 => kk q H1 ⟨h1, h2, h3⟩)
  show defaultValue (ty j) = fs.getD j .null
  rw [List.getD_eq_getElem?_getD, hfs j hj]; rfl
-- what throws
/-- the strings of Countfall's exceptions (constant pool place, text) -/
def jTexts : List (Nat × String) := [(83, "there are 10 variables"), (313, "no such variable"), (103, "a weight is not from 0 to 9"), (321, "a variable is not there"), (323, "no variable at all"), (330, "20 constraints were told"), (325, "neither 0 nor 1"), (133, "the numbers are not from 0 to 10, or the least is greater"), (351, "no such constraint"), (148, "the constraint was dropped"), (168, "the evidence is not from -1 to 1"), (355, "the weight of all models together is 0"), (332, "the variable has evidence"), (236, "the rank is not from 0 to 20"), (240, "there are not so many models"), (256, "the number is not from 0 to under the weight of all models"), (258, "there are no models"), (316, "no such place"), (353, "no such slot"), (285, "no such way to join"), (338, "the slot keeps nothing"), (344, "not as many variables as there are now"), (347, "unlike numbers of variables")]
/-- what a throw asks of the state: two statics of Throwable, the texts -/
def jX (A : Nat → Prop) (U : State) (H : Heap) : Prop := vx_Zq Bundle.tN "UNASSIGNED_STACK" Bundle.steD A U H ∧ vx_Zq Bundle.tN "SUPPRESSED_SENTINEL" Bundle.listD A U H
/-- the exceptions that Countfall throws -/
def jExc : List String := ["java/lang/IllegalStateException", "java/lang/IndexOutOfBoundsException", "java/lang/IllegalArgumentException", "java/util/NoSuchElementException", "java/lang/UnsupportedOperationException"]
def jSup : List String := ["java/lang/RuntimeException", "java/lang/Exception", "java/lang/Throwable"]
def jXS (L : List (Nat × String)) (U : State) : Prop := (∀ q ∈ L, ∃ a, vk_R RX11 q.1 q.2 a U) ∧ (∀ X ∈ jExc, va_Nw (.castable X X) U) ∧ ∀ Y ∈ jSup, va_Nw (.declares (Bundle.initS Y)) U
theorem jX.moved {u U : State} (hvm : u.vm.Alike U.vm) (h : jX A u H) : jX A U H := ⟨h.1.moved hvm, h.2.moved hvm⟩
theorem jX.kept {H1 : Heap} {U : State} (h : jX A U H) (hq : ∀ a : Nat, a < H.size → ¬ A a → H1[a]? = H[a]?) : jX A U H1 := ⟨h.1.kept hq, h.2.kept hq⟩
theorem jX.narrow {B : Nat → Prop} {U : State} (h : jX A U H) (hAB : ∀ q, B q → A q) : jX B U H := ⟨h.1.narrow hAB, h.2.narrow hAB⟩
theorem jXS.warm {L : List (Nat × String)} {U : State} (hW : s.WarmedH U.vm) (h : jXS L s) : jXS L U := ⟨fun q hq => (h.1 q hq).imp fun _ h => h.warm hW, fun X hX => va_Nw.warmC hW (h.2.1 X hX), fun X hX => va_Nw.warmD hW (h.2.2 X hX)⟩
theorem jXS.same {L : List (Nat × String)} {u U : State} (hv : U.vm = u.vm) (h : jXS L u) : jXS L U := ⟨fun q hq => (h.1 q hq).imp fun _ h => h.same hv, fun X hX => va_Nw.same rfl hv.symm (h.2.1 X hX), fun X hX => va_Nw.same rfl hv.symm (h.2.2 X hX)⟩
def jPreX (L : List (Nat × String)) (D : va_G) (cy : Nat → ClassId) (w : va_W) (sz : Nat) (U : State) : Prop := jPre D cy w sz U ∧ jX (va_A w sz) U U.heap ∧ jXS L U
theorem jPreX_blind {L : List (Nat × String)} {sz : Nat} {As : List Value} : FrameBlind (va_Pc As (jPreX L D cy w sz)) := fun a U g mk q => by
  obtain ⟨q0, q1, q2, q3⟩ := q
  exact ⟨q0, (jPre_blind a U g mk ⟨q0, q1⟩).2, jX.moved (u := U) (U := U.calling g mk a) (Vm.Alike.refl U.vm) q2, jXS.same rfl q3⟩
/-- what a thrown exception leaves: its class, the world behind it -/
def jXC (D : va_G) (cy : Nat → ClassId) (A : Nat → Prop) (postx : String → va_W → Prop) : String → State → State → Prop := fun E st t => ∃ u : va_W, postx E u ∧ jAt D cy A u t ∧ va_F A st t
/-- a method that returns or throws -/
def jMx (L : List (Nat × String)) (l : Launch) (y : MethodName) (ws : List Cond) (rm : Room) (D : va_G) (cy : Nat → ClassId) (w : va_W) (As : List Value) (mc ms : Nat) (post : Option Value → va_W → Prop) (postx : String → va_W → Prop) : Prop :=
  ∀ sz : Nat, vx_Met l y ws rm (va_Pc As (jPreX L D cy w sz)) (jQ D cy (va_A w sz) post) (jXC D cy (va_A w sz) postx) mc ms (va_A w sz)
theorem jx_of {L : List (Nat × String)} {y : MethodName} {maxL : Nat} {ret : Option FieldType} {rm : Room} {As : List Value} {mc ms : Nat} {post : Option Value → va_W → Prop} {postx : String → va_W → Prop} (hy : plainName y.cls = true) (hown : y.cls = own) (hlen : (lg_sl As).length ≤ maxL)
    (body : ∀ (p : Program) (e : Env) (s : State) (m : MethodId) (args : Array Value) (below : List Frame) (meth : Method) (c : Code) (A : Nat → Prop) (ls : Array Slot) (Q : State → Prop), vx_MQ below (jQ D cy A post) (jXC D cy A postx) args s mc ms A = Q → CallFix p m c cc maxL s args (jws y cc maxL ret) own → (meth.sig.returnType = ret ∧ meth.locks = false ∧ meth.name = y.name) →
      jK D cy s → (∀ q, s.heap.size ≤ q → A q) → ∀ (H : Heap) (locs : List Loc), jW D A s.heap w H locs → lv_has ls maxL (lv_args 0 As) → (∀ x ∈ c.exceptionTable.toList, False) → (jX A s s.heap ∧ jXS L s) →
      W p l e rm s m args below meth c H locs 0 0 Q (F0 m 0 ls [])) : jMx L l y (jws y cc maxL ret) rm D cy w As mc ms post postx := by
  intro sz
  refine vx_ofW (cc := cc) (maxL := maxL) (ret := ret) hy rfl ?_
  intro p e s m args below meth c s₁ B hml htab hv
  obtain ⟨rfl, ⟨hsz, hP, hK, hD0⟩, hx⟩ := hv
  have hD := hD0.self (sz := s.heap.size)
  subst hsz
  have hl := lv_entry As (n := maxL) hlen
  rw [lg_entry_eq]
  exact body p e s m _ below meth c (va_A w s.heap.size) _ _ rfl ⟨B.exec, B.bytes, hml, by rw [← hown]; exact findClass_of_methodNamed B.named, atoms_spec (ws := jws y cc maxL ret) B.pre⟩ ⟨B.returns, B.notSynchronized, (name_of_methodNamed B.named B.method).1⟩ hK (fun q h => Or.inr h) _ _ ⟨hP, hD, va_S.rf⟩ hl htab hx
/-- a walk goes on behind a call that returned, or goes out with what it threw -/
theorem jx_run {mc ms MC MS : Nat} {a : Array Value} {post postO : Option Value → va_W → Prop} {postx postxO : String → va_W → Prop} (hA : ∀ q, s.heap.size ≤ q → A q) (hK : jK D cy s) (hW : jW D A s.heap w H locs)
    (hr : vx_Run p l e R s m args below meth c H locs cells slots mc ms (F0 m pc ls st) rest (jQ D cy (va_A w H.size) post a) (jXC D cy (va_A w H.size) postx) (va_A w H.size))
    (htab : ∀ x ∈ c.exceptionTable.toList, False) (hlk : meth.locks = false) (hmc : cells + mc ≤ MC ∧ slots + ms ≤ MS)
    (kx : ∀ (E : String) (u : va_W), postx E u → postxO E u)
    (kk : ∀ (v : Option Value) (u : va_W) (H1 : Heap) (locs1 : List Loc), post v u → jW D A s.heap u H1 locs1 → W p l e R s m args below meth c H1 locs1 (cells + mc) (slots + ms) (vx_MQ below (jQ D cy A postO) (jXC D cy A postxO) args s MC MS A) (F0 m (pc + 3) ls (v.toList ++ rest))) :
    W p l e R s m args below meth c H locs cells slots (vx_MQ below (jQ D cy A postO) (jXC D cy A postxO) args s MC MS A) (F0 m pc ls st) := by
  intro T hT X
  have hf := hW.free hA
  have hS := hW.2.2
  rcases hr T hT X with ⟨v, st₀, t, T', L, h0, X', hL, e1, e2, ⟨⟨v', u, hv, hp, hb⟩, hF⟩, st⟩ | ⟨q, st₀, t, T', L, E, ce, h0, X', hL, e1, e2, ⟨u, hp, hb, hF⟩, hce, hcv, hcl, st⟩
  · cases hv
    obtain ⟨k1, k2, k3⟩ := vx_keep h0 e1 hS (fun q _ h => hf q h) hf hL hF
    obtain ⟨t2, a1, b1⟩ := kk v u T'.heap (locs ++ L) hp ⟨by rw [e1]; exact hb.1, hb.2.2.weaken (fun _ q _ h => hf q.1 h), k3⟩ T' rfl X'
    exact ⟨t2, st t2 a1, b1⟩
  · obtain ⟨k1, k2, k3⟩ := vx_keep h0 e1 hS (fun q _ h => hf q h) hf hL hF
    have ho : vx_W p l e R s m args below meth c T'.heap (locs ++ L) (cells + mc) (slots + ms) (vx_MQ below (jQ D cy A postO) (jXC D cy A postxO) args s MC MS A) (F0 m pc ls rest) q :=
      vx_out (fun x hx => (htab x hx).elim) hlk (by rw [e1]; exact hce) hcv hcl (fun t9 ht9 ha9 => ⟨u, kx E u hp, ⟨by rw [ht9, e1]; exact hb.1, va_K.moved ha9 hK.1, hb.2.2.weaken (fun _ q _ h => hf q.1 h)⟩, k3.F ht9⟩) k3.2.2 hmc.1 hmc.2
    obtain ⟨t2, a1, b1⟩ := ho T' rfl X'
    exact ⟨t2, st.trans a1, b1⟩
theorem jW.preX {L : List (Nat × String)} (hW : jW D A s.heap w H locs) (hA : ∀ q, s.heap.size ≤ q → A q) (hK : jK D cy s) (hx : jX A s s.heap ∧ jXS L s) {As : List Value} {U : State} (hU : U.heap = H) (hw : s.WarmedH U.vm) : va_Pc As (jPreX L D cy w H.size) As.toArray U :=
  ⟨rfl, (hW.pre (As := As) hK hU hw).2, by rw [hU]; exact ((hx.1.kept (fun a h1 h2 => hW.2.2.2.1 a h1 h2)).narrow (hW.free hA)).moved hw.alike, hx.2.warm hw⟩
theorem jx_callV {L : List (Nat × String)} {C : String} {index maxL mc ms MC MS n k b ci : Nat} {y : MethodName} {bytes : ByteArray} {ret : Option FieldType} {ws' : List Cond} {rm : Room} {As : List Value} {post postO : Option Value → va_W → Prop} {postx postxO : String → va_W → Prop} {q : vw_C} {fs : List Value} {rt : Option FieldType} {nm : String}
    (S : CallFix p m c cc nL s args Ts own) (hK : jK D cy s) (hA : ∀ q, s.heap.size ≤ q → A q) (hW : jW D A s.heap w H locs) (htab : ∀ x ∈ c.exceptionTable.toList, False) (hrt : jRt meth rt nm) (hx : jX A s s.heap ∧ jXS L s)
    (hM : jMx L l y (Cond.code y bytes maxL ret :: ws') rm D cy w (.ref b :: As) mc ms post postx) (hG : GoodIn Ts (wsV own index C y (Cond.code y bytes maxL ret :: ws'))) (hy : y.cls = C ∧ jk y n)
    (he : w[k]? = some (b, .inr (ci, fs))) (hc : vwCl[ci]? = some q) (hq : q.1 = C)
    (hR : (rm.cells = mc ∧ rm.slots = ms) ∧ rm.frames + 1 ≤ R.frames ∧ 8 + (maxL + 11) + rm.locals ≤ R.locals) (hn : As.length = n) (hl : ls.size = nL) (hst : st = As.reverse ++ .ref b :: rest) (hcat : (rest.map fun v => v.category).sum ≤ 8)
    (hdg : decode cc pc = .ok (.invokevirtual index, 3)) (hf : cells + mc ≤ R.cells ∧ slots + ms ≤ R.slots) (hmc : cells + mc ≤ MC ∧ slots + ms ≤ MS) (kx : ∀ (E : String) (u : va_W), postx E u → postxO E u)
    (kk : ∀ (v : Option Value) (u : va_W) (H1 : Heap) (locs1 : List Loc), post v u → jW D A s.heap u H1 locs1 → W p l e R s m args below meth c H1 locs1 (cells + mc) (slots + ms) (vx_MQ below (jQ D cy A postO) (jXC D cy A postxO) args s MC MS A) (F0 m (pc + 3) ls (v.toList ++ rest))) :
    W p l e R s m args below meth c H locs cells slots (vx_MQ below (jQ D cy A postO) (jXC D cy A postxO) args s MC MS A) (F0 m pc ls st) := by
  subst hst
  refine jx_run hA hK hW (vx_runV (C := C) (As := As) (rest := rest) S (hM H.size) (cwV n S.2.2.2.2 hG rfl hR.1.1 hR.1.2 hy hR.2) ⟨jPreX_blind, ?_, fun U hU hw => hW.preX hA hK hx hU hw⟩ rfl hn hl rfl (lv_room hcat) hdg hf) htab hrt.2.1 hmc kx kk
  obtain ⟨cell, h1, h2, h3⟩ := hW.recv hK hc he
  exact ⟨cell, h1, h2, by rw [← hq]; exact h3⟩
end JE
