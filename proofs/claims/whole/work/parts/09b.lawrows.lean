/-! ROWS FOR THE LAW: helpers that catch, their calls -/
section JLAW
variable {p : Program} {l : Launch} {e : Env} {R : Room} {s : State} {m : MethodId} {args : Array Value} {below : List Frame} {meth : Method} {c : Code} {H : Heap} {locs : List Loc} {cells slots : Nat} {Q : State → Prop}
variable {cc : ByteArray} {pc : Nat} {ls : Array Slot} {rest st : List Value} {D : va_G} {cy : Nat → ClassId} {A : Nat → Prop} {H0 : Heap} {w : va_W} {Ts : List Cond} {nL : Nat} {own : String}
/-- none of Countfall's exceptions is another one's kind -/
def jNC (U : State) : Prop := ∀ X ∈ jExc, ∀ Y ∈ jExc, X ≠ Y → va_Nc X Y U
theorem jNC.moved {u U : State} (hvm : u.vm.Alike U.vm) (h : jNC u) : jNC U := fun X hX Y hY hn => (h X hX Y hY hn).moved hvm
def jPreH (D : va_G) (cy : Nat → ClassId) (w : va_W) (sz : Nat) (U : State) : Prop := jPreX jTexts D cy w sz U ∧ jNC U
theorem jPreH_blind {sz : Nat} {As : List Value} : FrameBlind (va_Pc As (jPreH D cy w sz)) := fun a U g mk q => by
  obtain ⟨q0, q1, q2⟩ := q
  exact ⟨q0, (jPreX_blind a U g mk ⟨q0, q1⟩).2, jNC.moved (u := U) (U := U.calling g mk a) (Vm.Alike.refl U.vm) q2⟩
/-- a helper of the law: it catches, and returns -/
def jMh (l : Launch) (y : MethodName) (ws : List Cond) (rm : Room) (D : va_G) (cy : Nat → ClassId) (w : va_W) (As : List Value) (mc ms : Nat) (post : Option Value → va_W → Prop) : Prop :=
  ∀ sz : Nat, Met l y ws rm (va_Pc As (jPreH D cy w sz)) (jQ D cy (va_A w sz) post) mc ms (va_A w sz)
theorem j_ofH {y : MethodName} {maxL : Nat} {ret : Option FieldType} {hh : List (Nat × Nat × Nat × Nat)} {rm : Room} {As : List Value} {mc ms : Nat} {post : Option Value → va_W → Prop} (hy : plainName y.cls = true) (hown : y.cls = own) (hlen : (lg_sl As).length ≤ maxL)
    (body : ∀ (p : Program) (e : Env) (s : State) (m : MethodId) (args : Array Value) (below : List Frame) (meth : Method) (c : Code) (A : Nat → Prop) (ls : Array Slot) (Q : State → Prop), MQ below (jQ D cy A post) args s mc ms A = Q → CallFix p m c cc maxL s args (jwsW y cc maxL ret hh) own → (meth.sig.returnType = ret ∧ meth.locks = false ∧ meth.name = y.name) →
      jK D cy s → (∀ q, s.heap.size ≤ q → A q) → ∀ (H : Heap) (locs : List Loc), jW D A s.heap w H locs → lv_has ls maxL (lv_args 0 As) → c.exceptionTable.toList = tableOf hh → (jX A s s.heap ∧ jXS jTexts s) → jNC s →
      W p l e rm s m args below meth c H locs 0 0 Q (F0 m 0 ls [])) : jMh l y (jwsW y cc maxL ret hh) rm D cy w As mc ms post := by
  intro sz
  refine MetFree.of_bodyS (code := cc) (maxLocals := maxL) (ret := ret) hy ?_ ?_
  · intro args s m h hn
    obtain ⟨m9, meth, c, hn9, h1, h2, h3, h4, -, h5, h6, -⟩ := Cond.codeWith_spec (atoms_spec (ws := jwsW y cc maxL ret hh) h _ List.mem_cons_self)
    cases hn.symm.trans hn9
    exact ⟨meth, c, h1, h2, h3, h4, h5, h6⟩
  · intro p e s m args below meth c s₁ B hml hv _
    have hh0 : s₁.heap = s.heap := by rw [B.state]; rfl
    obtain ⟨rfl, ⟨⟨hsz, hP, hK, hD0⟩, hx⟩, hnc⟩ := hv
    have hD := hD0.self (sz := s.heap.size)
    subst hsz
    have hl := lv_entry As (n := maxL) hlen
    have hts := atoms_spec (ws := jwsW y cc maxL ret hh) B.pre
    have K := body p e s m _ below meth c (va_A w s.heap.size) _ _ rfl ⟨B.exec, B.bytes, hml, by rw [← hown]; exact findClass_of_methodNamed B.named, hts⟩ ⟨B.returns, B.notSynchronized, (name_of_methodNamed B.named B.method).1⟩ hK (fun q h => Or.inr h) _ _ ⟨hP, hD, va_S.rf⟩ hl (vx_table (x := y) B (hts _ List.mem_cons_self)) hx hnc
    rw [← lg_entry_eq] at K
    obtain ⟨t, a1, o, b1, b2, b3⟩ := K s₁ hh0 (Stand.of_body B)
    exact ⟨t, o, a1, b1, b2, b3⟩
/-- a call of what may throw, in a method that catches -/
theorem jx_callT {L : List (Nat × String)} {C : String} {index maxL mc ms n k b ci : Nat} {y : MethodName} {bytes : ByteArray} {ret : Option FieldType} {ws' : List Cond} {rm : Room} {As : List Value} {post : Option Value → va_W → Prop} {postx : String → va_W → Prop} {q : vw_C} {fs : List Value}
    (S : CallFix p m c cc nL s args Ts own) (hK : jK D cy s) (hA : ∀ q, s.heap.size ≤ q → A q) (hW : jW D A s.heap w H locs) (hx : jX A s s.heap ∧ jXS L s)
    (hM : jMx L l y (Cond.code y bytes maxL ret :: ws') rm D cy w (.ref b :: As) mc ms post postx) (hG : GoodIn Ts (wsV own index C y (Cond.code y bytes maxL ret :: ws'))) (hy : y.cls = C ∧ jk y n)
    (he : w[k]? = some (b, .inr (ci, fs))) (hc : vwCl[ci]? = some q) (hq : q.1 = C)
    (hR : (rm.cells = mc ∧ rm.slots = ms) ∧ rm.frames + 1 ≤ R.frames ∧ 8 + (maxL + 11) + rm.locals ≤ R.locals) (hn : As.length = n) (hl : ls.size = nL) (hst : st = As.reverse ++ .ref b :: rest) (hcat : (rest.map fun v => v.category).sum ≤ 8)
    (hdg : decode cc pc = .ok (.invokevirtual index, 3)) (hf : cells + mc ≤ R.cells ∧ slots + ms ≤ R.slots)
    (kx : ∀ (E : String) (ce : Cell) (q9 : Addr) (u : va_W) (H1 : Heap) (locs1 : List Loc), postx E u → jW D A s.heap u H1 locs1 → H1[q9]? = some ce → ce.vm = .none → s.vm.findClass E = some ce.cls → vx_W p l e R s m args below meth c H1 locs1 (cells + mc) (slots + ms) Q (F0 m pc ls rest) q9)
    (kk : ∀ (v : Option Value) (u : va_W) (H1 : Heap) (locs1 : List Loc), post v u → jW D A s.heap u H1 locs1 → W p l e R s m args below meth c H1 locs1 (cells + mc) (slots + ms) Q (F0 m (pc + 3) ls (v.toList ++ rest))) :
    W p l e R s m args below meth c H locs cells slots Q (F0 m pc ls st) := by
  subst hst
  have hr := vx_runV (l := l) (e := e) (R := R) (below := below) (meth := meth) (H := H) (locs := locs) (cells := cells) (slots := slots) (g := F0 m pc ls (As.reverse ++ .ref b :: rest)) (C := C) (As := As) (rest := rest) S (hM H.size) (cwV n S.2.2.2.2 hG rfl hR.1.1 hR.1.2 hy hR.2) ⟨jPreX_blind, by
    obtain ⟨cell, h1, h2, h3⟩ := hW.recv hK hc he
    exact ⟨cell, h1, h2, by rw [← hq]; exact h3⟩, fun U hU hw => hW.preX hA hK hx hU hw⟩ rfl hn hl rfl (lv_room hcat) hdg hf
  intro T hT X
  have hf := hW.free hA
  have hS := hW.2.2
  rcases hr T hT X with ⟨v, st₀, t, T', L, h0, X', hL, e1, e2, ⟨⟨v', u, hv, hp, hb⟩, hF⟩, st⟩ | ⟨q, st₀, t, T', L, E, ce, h0, X', hL, e1, e2, ⟨u, hp, hb, hF⟩, hce, hcv, hcl, st⟩
  · cases hv
    obtain ⟨k1, k2, k3⟩ := vx_keep h0 e1 hS (fun q _ h => hf q h) hf hL hF
    obtain ⟨t2, a1, b1⟩ := kk v u T'.heap (locs ++ L) hp ⟨by rw [e1]; exact hb.1, hb.2.2.weaken (fun _ q _ h => hf q.1 h), k3⟩ T' rfl X'
    exact ⟨t2, st t2 a1, b1⟩
  · obtain ⟨k1, k2, k3⟩ := vx_keep h0 e1 hS (fun q _ h => hf q h) hf hL hF
    obtain ⟨t2, a1, b1⟩ := kx E ce q u T'.heap (locs ++ L) hp ⟨by rw [e1]; exact hb.1, hb.2.2.weaken (fun _ q _ h => hf q.1 h), k3⟩ (by rw [e1]; exact hce) hcv hcl T' rfl X'
    exact ⟨t2, st.trans a1, b1⟩
/-- the law's call of a helper -/
theorem j_callH {index maxL mc ms n : Nat} {y : MethodName} {bytes : ByteArray} {ret : Option FieldType} {hh : List (Nat × Nat × Nat × Nat)} {ws' : List Cond} {rm : Room} {As : List Value} {post : Option Value → va_W → Prop}
    (S : CallFix p m c cc nL s args Ts own) (hK : jK D cy s) (hA : ∀ q, s.heap.size ≤ q → A q) (hW : jW D A s.heap w H locs) (hx : jX A s s.heap ∧ jXS jTexts s) (hnc : jNC s)
    (hM : jMh l y (Cond.codeWith y bytes maxL ret hh :: ws') rm D cy w As mc ms post) (hG : GoodIn Ts (va_wsS own index y (Cond.codeWith y bytes maxL ret hh :: ws'))) (hy : jk y n)
    (hR : (rm.cells = mc ∧ rm.slots = ms) ∧ rm.frames + 1 ≤ R.frames ∧ 8 + (maxL + 11) + rm.locals ≤ R.locals) (hn : As.length = n) (hl : ls.size = nL) (hst : st = As.reverse ++ rest) (hcat : (rest.map fun v => v.category).sum ≤ 8)
    (hdg : decode cc pc = .ok (.invokestatic index, 3)) (hf : cells + mc ≤ R.cells ∧ slots + ms ≤ R.slots)
    (kk : ∀ (v : Option Value) (u : va_W) (H1 : Heap) (locs1 : List Loc), post v u → jW D A s.heap u H1 locs1 → W p l e R s m args below meth c H1 locs1 (cells + mc) (slots + ms) Q (F0 m (pc + 3) ls (v.toList ++ rest))) :
    W p l e R s m args below meth c H locs cells slots Q (F0 m pc ls st) := by
  subst hst
  exact j_run (As := As) hA hW (vx_runSW (As := As) (rest := rest) S (hM H.size) (vx_cwSW n S.2.2.2.2 hG rfl hR.1.1 hR.1.2 hy hR.2) ⟨jPreH_blind, fun U hU hw => ⟨rfl, (hW.preX hA hK hx (As := As) hU hw).2, hnc.moved hw.alike⟩⟩ rfl hn hl rfl (lv_room hcat) hdg hf) kk
theorem j_dald (S : CallFix p m c cc nL s args Ts own) (hK : jK D cy s) (hW : jW D A H0 w H locs) {q0 a : Nat} {n : Nat} {f : Nat → UInt64} (ha : w[q0]? = some (a, .inl (cy 7, n, .inr (.inr (.inr (.inl f)))))) {i : Int32} {j : Nat} (hi : vp_in i n) (hj : i.toNatClampNeg = j) {x : UInt64} (hv : f j = x) (hdg : decode cc pc = .ok (.daload, 1))
    (kk : W p l e R s m args below meth c H locs cells slots Q (F0 m (pc + 1) ls (.double x :: rest))) : W p l e R s m args below meth c H locs cells slots Q (F0 m pc ls (.int i :: .ref a :: rest)) := by
  subst hj; subst hv
  exact va_dald S.1 S.2.1 hK.1 hW.1 q0 7 ha rfl hi hdg kk
theorem j_dast (S : CallFix p m c cc nL s args Ts own) (hK : jK D cy s) (hW : jW D A H0 w H locs) {q0 a : Nat} {n : Nat} {f : Nat → UInt64} (ha : w[q0]? = some (a, .inl (cy 7, n, .inr (.inr (.inr (.inl f)))))) {i : Int32} {x : UInt64} {j : Nat} (hi : vp_in i n) (hj : i.toNatClampNeg = j) (hdg : decode cc pc = .ok (.dastore, 1))
    (kk : ∀ (H1 : Heap) (locs1 : List Loc) (w1 : va_W), jU w w1 [q0] → w1[q0]? = some (a, .inl (cy 7, n, .inr (.inr (.inr (.inl (vf_upd f j x)))))) → jW D A H0 w1 H1 locs1 → W p l e R s m args below meth c H1 locs1 cells slots Q (F0 m (pc + 1) ls rest)) : W p l e R s m args below meth c H locs cells slots Q (F0 m pc ls (.double x :: .int i :: .ref a :: rest)) := by
  subst hj
  exact va_dast S.1 S.2.1 hK.1 hW.1 hW.2.1 hW.2.2 q0 7 ha rfl hi hdg (fun H1 locs1 h1 h2 h3 => kk H1 locs1 _ jU.set (jset ha) ⟨h1, h2, h3⟩)
/-- what the reference and the script see of it: nothing from 55 to 73 has changed -/
def jUc (w u : va_W) : Prop := ∃ K, jU w u K ∧ ∀ k ∈ K, k < 55 ∨ 74 ≤ k
theorem jUc.rf {w : va_W} : jUc w w := ⟨[], jU.rf, fun k h => absurd h List.not_mem_nil⟩
end JLAW
