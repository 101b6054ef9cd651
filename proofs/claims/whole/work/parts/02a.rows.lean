/-! MY OWN ROWS over the kit's: the whole world of a call is one list of cells; a contract speaks of ANY world that holds the cells it needs at their places ('w[k]? = some ..'), so no frame is cut or joined. -/
abbrev tyG (cy : Nat → ClassId) : List (ClassId × FieldType) := [(cy 0, .int), (cy 1, .long), (cy 2, .char), (cy 3, .boolean), (cy 4, .object "Countfall$Assignments"), (cy 5, .object "Countfall$Constraint"), (cy 6, .array .boolean), (cy 7, .double)]
/-- the tables' words that any caller may hand on -/
def lw_good : List Cond := lw_tbl.filter goodWord
/-- a method's words: its code, and all the tables -/
def jws (y : MethodName) (c : ByteArray) (n : Nat) (r : Option FieldType) : List Cond := Cond.code y c n r :: lw_good
def jwsW (y : MethodName) (c : ByteArray) (n : Nat) (r : Option FieldType) (hh : List (Nat × Nat × Nat × Nat)) : List Cond := Cond.codeWith y c n r hh :: lw_good
abbrev jR (d mc ms : Nat) : Room := { frames := d, cells := mc, slots := ms, locals := 40 * d }
theorem jg_s {w : Cond} (h : w ∈ k2_sels lw_privs) (g : goodWord w = true) : w ∈ lw_good := List.mem_filter.mpr ⟨List.mem_append_left _ h, g⟩
theorem jg_t {w : Cond} (h : w ∈ tables_1) (g : goodWord w = true) : w ∈ lw_good := List.mem_filter.mpr ⟨List.mem_append_right _ h, g⟩
theorem jg_1 {w : Cond} (h : w ∈ tables_1_1) (g : goodWord w = true) : w ∈ lw_good := jg_t (List.mem_append_left _ h) g
theorem jg_2 {w : Cond} (h : w ∈ tables_1_2) (g : goodWord w = true) : w ∈ lw_good := jg_t (List.mem_append_right _ (List.mem_append_left _ h)) g
theorem jg_3 {w : Cond} (h : w ∈ tables_1_3) (g : goodWord w = true) : w ∈ lw_good := jg_t (List.mem_append_right _ (List.mem_append_right _ (List.mem_append_left _ h))) g
theorem jg_4 {w : Cond} (h : w ∈ tables_1_4) (g : goodWord w = true) : w ∈ lw_good := jg_t (List.mem_append_right _ (List.mem_append_right _ (List.mem_append_right _ (List.mem_append_left _ h)))) g
theorem jg_5 {w : Cond} (h : w ∈ tables_1_5) (g : goodWord w = true) : w ∈ lw_good := jg_t (List.mem_append_right _ (List.mem_append_right _ (List.mem_append_right _ (List.mem_append_right _ (List.mem_append_left _ h))))) g
theorem jg_6 {w : Cond} (h : w ∈ tables_1_6) (g : goodWord w = true) : w ∈ lw_good := jg_t (List.mem_append_right _ (List.mem_append_right _ (List.mem_append_right _ (List.mem_append_right _ (List.mem_append_right _ h))))) g
theorem jg_all : ∀ w ∈ lw_good, goodWord w = true := fun _ h => (List.mem_filter.mp h).2
theorem jg_tbl : ∀ w ∈ lw_good, w ∈ lw_tbl := fun _ h => (List.mem_filter.mp h).1
theorem jgo {x : Cond} {ws : List Cond} (h : ∀ w ∈ ws, w ∈ lw_good) : GoodIn (x :: lw_good) ws := fun w hw => ⟨List.mem_cons_of_mem _ (h w hw), good_of_word (jg_all w (h w hw))⟩
theorem jg4 {y : MethodName} {c : ByteArray} {n : Nat} {r : Option FieldType} (h : Cond.code y c n r ∈ lw_good) : ∀ w ∈ jws y c n r, w ∈ lw_good := fun w hw => (List.mem_cons.mp hw).elim (fun e => by rw [e]; exact h) id
theorem jg4W {y : MethodName} {c : ByteArray} {n : Nat} {r : Option FieldType} {hh : List (Nat × Nat × Nat × Nat)} (h : Cond.codeWith y c n r hh ∈ lw_good) : ∀ w ∈ jwsW y c n r hh, w ∈ lw_good := fun w hw => (List.mem_cons.mp hw).elim (fun e => by rw [e]; exact h) id
theorem jgV {own C : String} {idx : Nat} {y : MethodName} {ws : List Cond} (h1 : Cond.methodLink own idx y ∈ lw_good) (h2 : Cond.instanceMethod y ∈ lw_good) (h3 : Cond.selects C y y ∈ lw_good) (h4 : Cond.initialized C ∈ lw_good) (h5 : ∀ w ∈ ws, w ∈ lw_good) : ∀ w ∈ wsV own idx C y ws, w ∈ lw_good := by
  intro w hw
  simp only [wsV, List.mem_append, List.mem_cons, List.not_mem_nil, or_false] at hw
  rcases hw with (h | h | h | h) | h
  · rw [h]; exact h1
  · rw [h]; exact h2
  · rw [h]; exact h3
  · rw [h]; exact h4
  · exact h5 w h
theorem jgS {own : String} {idx : Nat} {y : MethodName} {ws : List Cond} (h1 : Cond.methodLink own idx y ∈ lw_good) (h2 : Cond.static y ∈ lw_good) (h4 : Cond.initialized own ∈ lw_good) (h5 : ∀ w ∈ ws, w ∈ lw_good) : ∀ w ∈ wsS own idx y ws, w ∈ lw_good := by
  intro w hw
  simp only [wsS, List.mem_append, List.mem_cons, List.not_mem_nil, or_false] at hw
  rcases hw with (h | h | h) | h
  · rw [h]; exact h1
  · rw [h]; exact h2
  · rw [h]; exact h4
  · exact h5 w h
theorem jgSJ {own : String} {idx : Nat} {y : MethodName} {ws : List Cond} (h1 : Cond.methodLink own idx y ∈ lw_good) (h2 : Cond.static y ∈ lw_good) (h4 : Cond.initialized y.cls ∈ lw_good) (h5 : ∀ w ∈ ws, w ∈ lw_good) : ∀ w ∈ va_wsS own idx y ws, w ∈ lw_good := by
  intro w hw
  simp only [va_wsS, List.mem_append, List.mem_cons, List.not_mem_nil, or_false] at hw
  rcases hw with (h | h | h) | h
  · rw [h]; exact h1
  · rw [h]; exact h2
  · rw [h]; exact h4
  · exact h5 w h
/-- what u has kept of w: all but the places K -/
def jU (w u : va_W) (K : List Nat) : Prop := ∀ (j : Nat) (e : Nat × va_E), j ∉ K → w[j]? = some e → u[j]? = some e
theorem jU.rf {w : va_W} {K : List Nat} : jU w w K := fun _ _ _ h => h
theorem jU.tr {a b c : va_W} {K1 K2 K : List Nat} (h1 : jU a b K1) (h2 : jU b c K2) (k1 : ∀ x ∈ K1, x ∈ K) (k2 : ∀ x ∈ K2, x ∈ K) : jU a c K := fun j e hj h => h2 j e (fun q => hj (k2 j q)) (h1 j e (fun q => hj (k1 j q)) h)
theorem jU.then {a b c : va_W} {K1 K : List Nat} (h1 : jU a b K) (h2 : jU b c K1) (k1 : ∀ x ∈ K1, x ∈ K) : jU a c K := fun j e hj h => h2 j e (fun q => hj (k1 j q)) (h1 j e hj h)
theorem jU.mono {a b : va_W} {K1 K : List Nat} (h1 : jU a b K1) (k1 : ∀ x ∈ K1, x ∈ K) : jU a b K := fun j e hj h => h1 j e (fun q => hj (k1 j q)) h
theorem jU.get {w u : va_W} {K : List Nat} (h : jU w u K) {j : Nat} {e : Nat × va_E} (hj : w[j]? = some e) (hn : j ∉ K) : u[j]? = some e := h j e hn hj
theorem jU.set {w : va_W} {k : Nat} {e : Nat × va_E} : jU w (w.set k e) [k] := fun j x hj h => by
  have hj : j ≠ k := fun q => hj (by rw [q]; exact List.mem_singleton.mpr rfl)
  rw [List.getElem?_set_ne (Ne.symm hj)]
  exact h
theorem jU.push {w v : va_W} {K : List Nat} : jU w (w ++ v) K := fun j x _ h => by
  rw [List.getElem?_append_left (List.getElem?_eq_some_iff.mp h).1]
  exact h
theorem jset {w : va_W} {k : Nat} {e0 e : Nat × va_E} (h : w[k]? = some e0) : (w.set k e)[k]? = some e := by
  rw [List.getElem?_set_self (List.getElem?_eq_some_iff.mp h).1]
/-- two places with unlike cells are two -/
theorem jne {w : va_W} {i j : Nat} {x y : Nat × va_E} (hi : w[i]? = some x) (hj : w[j]? = some y) (h : x ≠ y) : i ≠ j := fun e => h (by rw [e] at hi; rw [hi] at hj; exact Option.some.inj hj)
theorem jne_oa {w : va_W} {i j a b : Nat} {x : ClassId × vp_A} {o : Nat × List Value} (hi : w[i]? = some (a, .inr o)) (hj : w[j]? = some (b, .inl x)) : i ≠ j := jne hi hj (fun h => by cases h)
theorem jne_ao {w : va_W} {i j a b : Nat} {x : ClassId × vp_A} {o : Nat × List Value} (hi : w[i]? = some (a, .inl x)) (hj : w[j]? = some (b, .inr o)) : i ≠ j := jne hi hj (fun h => by cases h)
theorem jne_oo {w : va_W} {i j a b : Nat} {c1 c2 : Nat} {f1 f2 : List Value} (hi : w[i]? = some (a, .inr (c1, f1))) (hj : w[j]? = some (b, .inr (c2, f2))) (h : c1 ≠ c2) : i ≠ j := jne hi hj (fun e => h (by cases e; rfl))
/-- the world of a walk: its cells, apart and in A, and what has become of the rest -/
def jW (D : va_G) (A : Nat → Prop) (H0 : Heap) (w : va_W) (H : Heap) (locs : List Loc) : Prop := va_P D vwCl w H ∧ va_D A w ∧ va_S A H0 H locs
theorem va_AOA.moved {ty : FieldType} {u U : State} (hvm : u.vm.Alike U.vm) (h : va_AOA ty u) : va_AOA ty U := by
  unfold va_AOA Cond.before at h ⊢
  simp only [Cond.holds, Cond.value, beq_iff_eq] at h ⊢
  obtain ⟨comp, hc, h⟩ := Option.bind_eq_some_iff.mp h
  obtain ⟨c, hi, h⟩ := Option.bind_eq_some_iff.mp h
  obtain ⟨k, hk, hb⟩ := Option.map_eq_some_iff.mp h
  obtain ⟨k', hk', he⟩ := hvm.2.2 _ _ hk
  have hi' : (U.vm.classes.findIdx? fun (x : Class) => match x.kind with | .array component _ => component == comp | _ => false) = some c := by
    have e1 := va_idx_bare U.vm comp
    have e2 := va_idx_bare u.vm comp
    have e0 : u.vm.bare = U.vm.bare := by first | exact hvm.bare_eq | exact hvm.bare_eq.symm
    rw [e0] at e2
    exact (e1.symm.trans e2).trans hi
  refine Option.bind_eq_some_iff.mpr ⟨comp, (hvm.findClass _ _).trans hc, Option.bind_eq_some_iff.mpr ⟨c, hi', Option.map_eq_some_iff.mpr ⟨k', hk', ?_⟩⟩⟩
  have hkind : k'.kind = k.kind := by rw [he]
  rw [hkind, hvm.findClass]
  exact hb
/-- what the tables say that no caller's words hand on: an abstract method's declaration, casts, nest links, arrays of references -/
def jEnv (U : State) : Prop := va_Nw (.declares ⟨"Countfall$Constraint", "isMetBy", "(I)Z"⟩) U ∧ (va_Nw (.castable RX3 RX4) U ∧ va_Nw (.castable RX8 RX4) U ∧ va_Nw (.castable RX1 RX4) U) ∧
  (va_Nw (.methodLinkNest RX11 33 yX5_init "Countfall") U ∧ va_Nw (.methodLinkNest RX11 40 yX9_init "Countfall") U ∧ va_Nw (.methodLinkNest RX11 47 yX0_init "Countfall") U ∧ va_Nw (.methodLinkNest RX11 57 yX10_init "Countfall") U ∧ va_Nw (.methodLinkNest RX11 64 yX2_init "Countfall") U) ∧
  (va_AO RX4 U ∧ va_AO RX0 U ∧ va_AOA .boolean U)
theorem jEnv.same {u U : State} (hv : u.vm = U.vm) (h : jEnv u) : jEnv U := by
  obtain ⟨h1, ⟨c1, c2, c3⟩, ⟨n1, n2, n3, n4, n5⟩, a1, a2, a3⟩ := h
  exact ⟨va_Nw.same rfl hv h1, ⟨va_Nw.same rfl hv c1, va_Nw.same rfl hv c2, va_Nw.same rfl hv c3⟩, ⟨va_Nw.same rfl hv n1, va_Nw.same rfl hv n2, va_Nw.same rfl hv n3, va_Nw.same rfl hv n4, va_Nw.same rfl hv n5⟩,
    a1.moved (by rw [hv]; exact Vm.Alike.refl _), a2.moved (by rw [hv]; exact Vm.Alike.refl _), va_AOA.moved (by rw [hv]; exact Vm.Alike.refl _) a3⟩
theorem jEnv.warm {s U : State} (hW : s.WarmedH U.vm) (h : jEnv s) : jEnv U := by
  obtain ⟨h1, ⟨c1, c2, c3⟩, ⟨n1, n2, n3, n4, n5⟩, a1, a2, a3⟩ := h
  exact ⟨va_Nw.warmD hW h1, ⟨va_Nw.warmC hW c1, va_Nw.warmC hW c2, va_Nw.warmC hW c3⟩, ⟨va_Nw.warmM hW n1, va_Nw.warmM hW n2, va_Nw.warmM hW n3, va_Nw.warmM hW n4, va_Nw.warmM hW n5⟩, a1.moved hW.alike, a2.moved hW.alike, va_AOA.moved hW.alike a3⟩
def jK (D : va_G) (cy : Nat → ClassId) (U : State) : Prop := va_K D vwCl (tyG cy) U ∧ jEnv U
def jPre (D : va_G) (cy : Nat → ClassId) (w : va_W) (sz : Nat) (U : State) : Prop := U.heap.size = sz ∧ va_P D vwCl w U.heap ∧ jK D cy U ∧ va_D (fun _ => True) w
def jAt (D : va_G) (cy : Nat → ClassId) (A : Nat → Prop) (u : va_W) (t : State) : Prop := va_P D vwCl u t.heap ∧ va_K D vwCl (tyG cy) t ∧ va_D A u
def jQ (D : va_G) (cy : Nat → ClassId) (A : Nat → Prop) (post : Option Value → va_W → Prop) : Array Value → State → Outcome → State → Prop := fun _ st oc t => (∃ (v : Option Value) (u : va_W), oc = .returned v ∧ post v u ∧ jAt D cy A u t) ∧ va_F A st t
/-- a method that returns: 'post answer world behind it' -/
def jM (l : Launch) (y : MethodName) (ws : List Cond) (rm : Room) (D : va_G) (cy : Nat → ClassId) (w : va_W) (As : List Value) (mc ms : Nat) (post : Option Value → va_W → Prop) : Prop :=
  ∀ sz : Nat, Met l y ws rm (va_Pc As (jPre D cy w sz)) (jQ D cy (va_A w sz) post) mc ms (va_A w sz)
theorem jPre_blind {D : va_G} {cy : Nat → ClassId} {w : va_W} {sz : Nat} {As : List Value} : FrameBlind (va_Pc As (jPre D cy w sz)) := fun a U g mk q => by
  obtain ⟨q0, q1, qP, qK, qD⟩ := q
  exact ⟨q0, q1, qP, ⟨va_K.moved (u := U) (U := U.calling g mk a) (Vm.Alike.refl U.vm) qK.1, qK.2.same rfl⟩, qD⟩
section JW
variable {p : Program} {l : Launch} {e : Env} {R : Room} {s : State} {m : MethodId} {args : Array Value} {below : List Frame} {meth : Method} {c : Code} {H : Heap} {locs : List Loc} {cells slots : Nat} {Q : State → Prop}
variable {cc : ByteArray} {pc : Nat} {ls : Array Slot} {rest st : List Value} {D : va_G} {cy : Nat → ClassId} {A : Nat → Prop} {H0 : Heap} {w : va_W} {Ts : List Cond} {nL : Nat} {own : String}
theorem jW.pre (hW : jW D A H0 w H locs) (hK : jK D cy s) {As : List Value} {U : State} (hU : U.heap = H) (hw : s.WarmedH U.vm) : va_Pc As (jPre D cy w H.size) As.toArray U :=
  ⟨rfl, by rw [hU], by rw [hU]; exact hW.1, ⟨va_K.moved hw.alike hK.1, hK.2.warm hw⟩, hW.2.1.weaken (fun _ _ _ _ => trivial)⟩
theorem jW.free (hW : jW D A H0 w H locs) (hA : ∀ q, H0.size ≤ q → A q) : ∀ q, va_A w H.size q → A q := by
  intro q hq
  rcases hq with ⟨k, e, h⟩ | h
  · exact hW.2.1.2 k _ h
  · exact hA q (Nat.le_trans hW.2.2.1 h)
theorem jW.recv (hW : jW D A H0 w H locs) (hK : jK D cy s) {k b ci : Nat} {q : vw_C} {fs : List Value} (hc : vwCl[ci]? = some q) (he : w[k]? = some (b, .inr (ci, fs))) : ∃ cell : Cell, H[b]? = some cell ∧ cell.vm.isStatics = false ∧ s.vm.findClass q.1 = some cell.cls := va_recv hK.1 hW.1 hc he
/-- a walk goes on behind a call that returned -/
theorem j_run {mc ms : Nat} {As : List Value} {a : Array Value} {post : Option Value → va_W → Prop} (hA : ∀ q, H0.size ≤ q → A q) (hW : jW D A H0 w H locs)
    (hr : va_Run p l e R s m args below meth c H locs cells slots mc ms (F0 m pc ls st) rest (jQ D cy (va_A w H.size) post a) (va_A w H.size))
    (kk : ∀ (v : Option Value) (u : va_W) (H1 : Heap) (locs1 : List Loc), post v u → jW D A H0 u H1 locs1 → W p l e R s m args below meth c H1 locs1 (cells + mc) (slots + ms) Q (F0 m (pc + 3) ls (v.toList ++ rest))) :
    W p l e R s m args below meth c H locs cells slots Q (F0 m pc ls st) := by
  intro T hT X
  obtain ⟨v, st₀, t, T', L, h0, X', hL, e1, e2, ⟨⟨v', u, hv, hp, hb⟩, hz, hk⟩, st⟩ := hr T hT X
  cases hv
  rw [h0] at hz hk
  have hf := hW.free hA
  have hS := hW.2.2
  obtain ⟨t2, a1, b1⟩ := kk v u T'.heap (locs ++ L) hp ⟨by rw [e1]; exact hb.1, hb.2.2.weaken (fun _ q _ h => hf q.1 h), Nat.le_trans hS.1 (by rw [e1]; exact hz), fun q h1 h2 => by
      rw [e1, hk q (Nat.lt_of_lt_of_le h1 hS.1) (fun z => h2 (hf q z))]; exact hS.2.1 q h1 h2, fun q hq => by
      rcases List.mem_append.mp hq with h | h
      · exact hS.2.2 q h
      · exact hf _ (hL q h)⟩ T' rfl X'
  exact ⟨t2, st t2 a1, b1⟩
abbrev jk (y : MethodName) (n : Nat) : Prop := y.cls ≠ "java/lang/invoke/MethodHandle" ∧ y.cls ≠ "java/lang/invoke/VarHandle" ∧ (parseMethodDescriptor y.desc).map (fun d => d.parameters.length) = some n
theorem j_callV {C : String} {index maxL mc ms n k b ci : Nat} {y : MethodName} {bytes : ByteArray} {ret : Option FieldType} {ws' : List Cond} {rm : Room} {As : List Value} {post : Option Value → va_W → Prop} {q : vw_C} {fs : List Value}
    (S : CallFix p m c cc nL s args Ts own) (hK : jK D cy s) (hA : ∀ q, H0.size ≤ q → A q) (hW : jW D A H0 w H locs)
    (hM : jM l y (Cond.code y bytes maxL ret :: ws') rm D cy w (.ref b :: As) mc ms post) (hG : GoodIn Ts (wsV own index C y (Cond.code y bytes maxL ret :: ws'))) (hy : y.cls = C ∧ jk y n)
    (he : w[k]? = some (b, .inr (ci, fs))) (hc : vwCl[ci]? = some q) (hq : q.1 = C)
    (hR : (rm.cells = mc ∧ rm.slots = ms) ∧ rm.frames + 1 ≤ R.frames ∧ 8 + (maxL + 11) + rm.locals ≤ R.locals) (hn : As.length = n) (hl : ls.size = nL) (hst : st = As.reverse ++ .ref b :: rest) (hcat : (rest.map fun v => v.category).sum ≤ 8)
    (hdg : decode cc pc = .ok (.invokevirtual index, 3)) (hf : cells + mc ≤ R.cells ∧ slots + ms ≤ R.slots)
    (kk : ∀ (v : Option Value) (u : va_W) (H1 : Heap) (locs1 : List Loc), post v u → jW D A H0 u H1 locs1 → W p l e R s m args below meth c H1 locs1 (cells + mc) (slots + ms) Q (F0 m (pc + 3) ls (v.toList ++ rest))) :
    W p l e R s m args below meth c H locs cells slots Q (F0 m pc ls st) := by
  subst hst
  refine j_run (As := .ref b :: As) hA hW (va_runV (C := C) (As := As) (rest := rest) S (hM H.size) (cwV n S.2.2.2.2 hG rfl hR.1.1 hR.1.2 hy hR.2) ⟨jPre_blind, ?_, fun U hU hw => hW.pre hK hU hw⟩ rfl hn hl rfl (lv_room hcat) hdg hf) kk
  obtain ⟨cell, h1, h2, h3⟩ := hW.recv hK hc he
  exact ⟨cell, h1, h2, by rw [← hq]; exact h3⟩
theorem j_callS {index maxL mc ms n : Nat} {y : MethodName} {bytes : ByteArray} {ret : Option FieldType} {ws' : List Cond} {rm : Room} {As : List Value} {post : Option Value → va_W → Prop}
    (S : CallFix p m c cc nL s args Ts own) (hK : jK D cy s) (hA : ∀ q, H0.size ≤ q → A q) (hW : jW D A H0 w H locs)
    (hM : jM l y (Cond.code y bytes maxL ret :: ws') rm D cy w As mc ms post) (hG : GoodIn Ts (wsS own index y (Cond.code y bytes maxL ret :: ws'))) (hy : y.cls = own ∧ jk y n)
    (hR : (rm.cells = mc ∧ rm.slots = ms) ∧ rm.frames + 1 ≤ R.frames ∧ 8 + (maxL + 11) + rm.locals ≤ R.locals) (hn : As.length = n) (hl : ls.size = nL) (hst : st = As.reverse ++ rest) (hcat : (rest.map fun v => v.category).sum ≤ 8)
    (hdg : decode cc pc = .ok (.invokestatic index, 3)) (hf : cells + mc ≤ R.cells ∧ slots + ms ≤ R.slots)
    (kk : ∀ (v : Option Value) (u : va_W) (H1 : Heap) (locs1 : List Loc), post v u → jW D A H0 u H1 locs1 → W p l e R s m args below meth c H1 locs1 (cells + mc) (slots + ms) Q (F0 m (pc + 3) ls (v.toList ++ rest))) :
    W p l e R s m args below meth c H locs cells slots Q (F0 m pc ls st) := by
  subst hst
  exact j_run (As := As) hA hW (va_runS (As := As) (rest := rest) S (hM H.size) (cwS n S.2.2.2.2 hG rfl hR.1.1 hR.1.2 hy hR.2) ⟨jPre_blind, fun U hU hw => hW.pre hK hU hw⟩ rfl hn hl rfl (lv_room hcat) hdg hf) kk
/-- a static method of another class (the JDK's) -/
theorem j_callJ {index maxL mc ms n : Nat} {y : MethodName} {bytes : ByteArray} {ret : Option FieldType} {ws' : List Cond} {rm : Room} {As : List Value} {post : Option Value → va_W → Prop}
    (S : CallFix p m c cc nL s args Ts own) (hK : jK D cy s) (hA : ∀ q, H0.size ≤ q → A q) (hW : jW D A H0 w H locs)
    (hM : jM l y (Cond.code y bytes maxL ret :: ws') rm D cy w As mc ms post) (hG : GoodIn Ts (va_wsS own index y (Cond.code y bytes maxL ret :: ws'))) (hy : jk y n)
    (hR : (rm.cells = mc ∧ rm.slots = ms) ∧ rm.frames + 1 ≤ R.frames ∧ 8 + (maxL + 11) + rm.locals ≤ R.locals) (hn : As.length = n) (hl : ls.size = nL) (hst : st = As.reverse ++ rest) (hcat : (rest.map fun v => v.category).sum ≤ 8)
    (hdg : decode cc pc = .ok (.invokestatic index, 3)) (hf : cells + mc ≤ R.cells ∧ slots + ms ≤ R.slots)
    (kk : ∀ (v : Option Value) (u : va_W) (H1 : Heap) (locs1 : List Loc), post v u → jW D A H0 u H1 locs1 → W p l e R s m args below meth c H1 locs1 (cells + mc) (slots + ms) Q (F0 m (pc + 3) ls (v.toList ++ rest))) :
    W p l e R s m args below meth c H locs cells slots Q (F0 m pc ls st) := by
  subst hst
  have ok : ∀ w ∈ va_wsS own index y (Cond.code y bytes maxL ret :: ws'), w.before args s = true := fun w h => S.2.2.2.2 w (hG w h).1
  refine j_run (As := As) hA hW (va_runS (As := As) (rest := rest) S (hM H.size) ⟨callB_of n S.2.2.2.2 (fun w h => hG w (by unfold va_wsS; exact List.mem_append_right _ h)) rfl hR.1.1 hR.1.2 (ok _ (by simp [va_wsS])) (ok _ (by simp [va_wsS])) hy hR.2, ok _ (by simp [va_wsS])⟩ ⟨jPre_blind, fun U hU hw => hW.pre hK hU hw⟩ rfl hn hl rfl (lv_room hcat) hdg hf) kk
/-- a constructor, on a cell of the world -/
theorem j_callI {index maxL mc ms n b : Nat} {y : MethodName} {bytes : ByteArray} {ws' : List Cond} {rm : Room} {As : List Value} {post : Option Value → va_W → Prop} {x0 : Cond}
    (S : CallFix p m c cc nL s args (x0 :: lw_good) own) (hK : jK D cy s) (hA : ∀ q, H0.size ≤ q → A q) (hW : jW D A H0 w H locs)
    (hM : jM l y (Cond.code y bytes maxL none :: ws') rm D cy w (.ref b :: As) mc ms post) (hG : Cond.methodLink own index y ∈ lw_good ∧ Cond.instanceMethod y ∈ lw_good ∧ Cond.initialized y.cls ∈ lw_good ∧ (∀ w ∈ Cond.code y bytes maxL none :: ws', w ∈ lw_good)) (hy : y.name = "<init>" ∧ jk y n)
    (hR : (rm.cells = mc ∧ rm.slots = ms) ∧ rm.frames + 1 ≤ R.frames ∧ 8 + (maxL + 11) + rm.locals ≤ R.locals) (hn : As.length = n) (hl : ls.size = nL) (hst : st = As.reverse ++ .ref b :: rest) (hcat : (rest.map fun v => v.category).sum ≤ 8)
    (hdg : decode cc pc = .ok (.invokespecial index, 3)) (hf : cells + mc ≤ R.cells ∧ slots + ms ≤ R.slots)
    (kk : ∀ (v : Option Value) (u : va_W) (H1 : Heap) (locs1 : List Loc), post v u → jW D A H0 u H1 locs1 → W p l e R s m args below meth c H1 locs1 (cells + mc) (slots + ms) Q (F0 m (pc + 3) ls (v.toList ++ rest))) :
    W p l e R s m args below meth c H locs cells slots Q (F0 m pc ls st) := by
  subst hst
  have ok : ∀ w ∈ lw_good, w.before args s = true := fun w h => S.2.2.2.2 w (List.mem_cons_of_mem _ h)
  refine j_run (As := .ref b :: As) hA hW (va_runI (As := As) (rest := rest) S (hM H.size) (cwI n S.2.2.2.2 (jgo hG.2.2.2) rfl hR.1.1 hR.1.2 (ok _ hG.2.2.1) (ok _ hG.1) (ok _ hG.2.1) hy.1 hy.2 hR.2) ⟨jPre_blind, fun U hU hw => hW.pre hK hU hw⟩ rfl hn hl rfl (lv_room hcat) hdg hf) kk
-- fields and arrays
theorem j_get {ref C : String} {T : u_T} {N ci index : Nat} (S : CallFix p m c cc nL s args Ts own) (hin : ∀ w ∈ u_ws C T N, w ∈ Ts) (hK : jK D cy s) (hW : jW D A H0 w H locs) {q0 a : Nat} {fs : List Value} (he : w[q0]? = some (a, .inr (ci, fs))) (hc : vwCl[ci]? = some (C, T, N)) (k : Nat) (hk : k < N)
    (hlink : Cond.fieldLink own index ref (T k).2.1 (T k).2.2.1 ∈ Ts) (hsame : ∀ x, s.fieldFound? (T k).1 (T k).2.1 (T k).2.2.1 = some x → s.fieldFound? ref (T k).2.1 (T k).2.2.1 = some x) {v : Value} (hv : fs[k]? = some v) (hdg : decode cc pc = .ok (.getfield index, 3))
    (kk : W p l e R s m args below meth c H locs cells slots Q (F0 m (pc + 3) ls (v :: rest))) : W p l e R s m args below meth c H locs cells slots Q (F0 m pc ls (.ref a :: rest)) :=
  va_get S.1 S.2.1 S.2.2.2.2 hin S.2.2.2.1 hK.1 hW.1 q0 he hc k hk (S.2.2.2.2 _ hlink) hsame hv hdg kk
theorem j_put {ref C : String} {T : u_T} {N ci index : Nat} (S : CallFix p m c cc nL s args Ts own) (hin : ∀ w ∈ u_ws C T N, w ∈ Ts) (ty0 : Nat → FieldType) (hty : ∀ k, k < N → parseFieldDescriptor (T k).2.2.1 = some (ty0 k)) (hnm : ∀ a, a < N → ∀ b, b < N → a ≠ b → (T a).2.1 ≠ (T b).2.1)
    (hK : jK D cy s) (hW : jW D A H0 w H locs) {q0 a : Nat} {fs : List Value} (he : w[q0]? = some (a, .inr (ci, fs))) (hc : vwCl[ci]? = some (C, T, N)) (k : Nat) (hk : k < N)
    (hlink : Cond.fieldLink own index ref (T k).2.1 (T k).2.2.1 ∈ Ts) (hsame : ∀ x, s.fieldFound? (T k).1 (T k).2.1 (T k).2.2.1 = some x → s.fieldFound? ref (T k).2.1 (T k).2.2.1 = some x) (hfin : (T k).2.2.2 = false) {ty : FieldType} {v : Value} (hd : parseFieldDescriptor (T k).2.2.1 = some ty) (hn : narrow ty v = v) (hfit : fits ty v = true) (hl : k < fs.length)
    (hdg : decode cc pc = .ok (.putfield index, 3)) (kk : ∀ (H1 : Heap) (locs1 : List Loc) (w1 : va_W), jU w w1 [q0] → w1[q0]? = some (a, .inr (ci, fs.set k v)) → jW D A H0 w1 H1 locs1 → W p l e R s m args below meth c H1 locs1 cells slots Q (F0 m (pc + 3) ls rest)) : W p l e R s m args below meth c H locs cells slots Q (F0 m pc ls (v :: .ref a :: rest)) :=
  va_put S.1 S.2.1 S.2.2.2.2 hin ty0 hty hnm S.2.2.2.1 hK.1 hW.1 hW.2.1 hW.2.2 q0 he hc k hk (S.2.2.2.2 _ hlink) hsame hfin hd hn hfit hl hdg (fun H1 locs1 h1 h2 h3 => kk H1 locs1 _ jU.set (jset he) ⟨h1, h2, h3⟩)
theorem j_putF {ref C : String} {T : u_T} {N ci index : Nat} (S : CallFix p m c cc nL s args Ts own) (hin : ∀ w ∈ u_ws C T N, w ∈ Ts) (ty0 : Nat → FieldType) (hty : ∀ k, k < N → parseFieldDescriptor (T k).2.2.1 = some (ty0 k)) (hnm : ∀ a, a < N → ∀ b, b < N → a ≠ b → (T a).2.1 ≠ (T b).2.1)
    (hK : jK D cy s) (hW : jW D A H0 w H locs) {q0 a : Nat} {fs : List Value} (he : w[q0]? = some (a, .inr (ci, fs))) (hc : vwCl[ci]? = some (C, T, N)) (k : Nat) (hk : k < N)
    (hlink : Cond.fieldLink own index ref (T k).2.1 (T k).2.2.1 ∈ Ts) (hsame : ∀ x, s.fieldFound? (T k).1 (T k).2.1 (T k).2.2.1 = some x → s.fieldFound? ref (T k).2.1 (T k).2.2.1 = some x) (hfin : (T k).2.2.2 = true) (hin2 : meth.name = "<init>") (hdecl : (T k).1 = own) {ty : FieldType} {v : Value} (hd : parseFieldDescriptor (T k).2.2.1 = some ty) (hn : narrow ty v = v) (hfit : fits ty v = true) (hl : k < fs.length)
    (hdg : decode cc pc = .ok (.putfield index, 3)) (kk : ∀ (H1 : Heap) (locs1 : List Loc) (w1 : va_W), jU w w1 [q0] → w1[q0]? = some (a, .inr (ci, fs.set k v)) → jW D A H0 w1 H1 locs1 → W p l e R s m args below meth c H1 locs1 cells slots Q (F0 m (pc + 3) ls rest)) : W p l e R s m args below meth c H locs cells slots Q (F0 m pc ls (v :: .ref a :: rest)) :=
  va_putF S.1 S.2.1 S.2.2.2.2 hin ty0 hty hnm S.2.2.2.1 hK.1 hW.1 hW.2.1 hW.2.2 q0 he hc k hk (S.2.2.2.2 _ hlink) hsame hfin hin2 hdecl hd hn hfit hl hdg (fun H1 locs1 h1 h2 h3 => kk H1 locs1 _ jU.set (jset he) ⟨h1, h2, h3⟩)
theorem j_alen (S : CallFix p m c cc nL s args Ts own) (hK : jK D cy s) (hW : jW D A H0 w H locs) {q0 a t0 : Nat} {cA : ClassId} {x : vp_A} (ha : w[q0]? = some (a, .inl (cA, x))) {ty : FieldType} (ht : (tyG cy)[t0]? = some (cA, ty)) (hdg : decode cc pc = .ok (.arraylength, 1))
    (kk : W p l e R s m args below meth c H locs cells slots Q (F0 m (pc + 1) ls (.int (nI x.1) :: rest))) : W p l e R s m args below meth c H locs cells slots Q (F0 m pc ls (.ref a :: rest)) :=
  va_alen S.1 S.2.1 hK.1 hW.1 q0 t0 ha ht rfl hdg kk
theorem j_iald (S : CallFix p m c cc nL s args Ts own) (hK : jK D cy s) (hW : jW D A H0 w H locs) {q0 a : Nat} {n : Nat} {f : Nat → Int32} (ha : w[q0]? = some (a, .inl (cy 0, n, .inl f))) {i : Int32} {j : Nat} (hi : vp_in i n) (hj : i.toNatClampNeg = j) {x : Int32} (hv : f j = x) (hdg : decode cc pc = .ok (.iaload, 1))
    (kk : W p l e R s m args below meth c H locs cells slots Q (F0 m (pc + 1) ls (.int x :: rest))) : W p l e R s m args below meth c H locs cells slots Q (F0 m pc ls (.int i :: .ref a :: rest)) := by
  subst hj; subst hv
  exact va_iald S.1 S.2.1 hK.1 hW.1 q0 0 ha rfl hi hdg kk
theorem j_lald (S : CallFix p m c cc nL s args Ts own) (hK : jK D cy s) (hW : jW D A H0 w H locs) {q0 a : Nat} {n : Nat} {f : Nat → Int64} (ha : w[q0]? = some (a, .inl (cy 1, n, .inr (.inl f)))) {i : Int32} {j : Nat} (hi : vp_in i n) (hj : i.toNatClampNeg = j) {x : Int64} (hv : f j = x) (hdg : decode cc pc = .ok (.laload, 1))
    (kk : W p l e R s m args below meth c H locs cells slots Q (F0 m (pc + 1) ls (.long x :: rest))) : W p l e R s m args below meth c H locs cells slots Q (F0 m pc ls (.int i :: .ref a :: rest)) := by
  subst hj; subst hv
  exact va_lald S.1 S.2.1 hK.1 hW.1 q0 1 ha rfl hi hdg kk
theorem j_cald (S : CallFix p m c cc nL s args Ts own) (hK : jK D cy s) (hW : jW D A H0 w H locs) {q0 a : Nat} {n : Nat} {f : Nat → Int32} (ha : w[q0]? = some (a, .inl (cy 2, n, .inl f))) {i : Int32} {j : Nat} (hi : vp_in i n) (hj : i.toNatClampNeg = j) {x : Int32} (hv : f j = x) (hdg : decode cc pc = .ok (.caload, 1))
    (kk : W p l e R s m args below meth c H locs cells slots Q (F0 m (pc + 1) ls (.int x :: rest))) : W p l e R s m args below meth c H locs cells slots Q (F0 m pc ls (.int i :: .ref a :: rest)) := by
  subst hj; subst hv
  exact va_cald S.1 S.2.1 hK.1 hW.1 q0 2 ha rfl hi hdg kk
theorem j_zald (S : CallFix p m c cc nL s args Ts own) (hK : jK D cy s) (hW : jW D A H0 w H locs) {q0 a : Nat} {n : Nat} {f : Nat → Int32} (ha : w[q0]? = some (a, .inl (cy 3, n, .inl f))) {i : Int32} {j : Nat} (hi : vp_in i n) (hj : i.toNatClampNeg = j) {x : Int32} (hv : f j = x) (hdg : decode cc pc = .ok (.baload, 1))
    (kk : W p l e R s m args below meth c H locs cells slots Q (F0 m (pc + 1) ls (.int x :: rest))) : W p l e R s m args below meth c H locs cells slots Q (F0 m pc ls (.int i :: .ref a :: rest)) := by
  subst hj; subst hv
  exact va_zald S.1 S.2.1 hK.1 hW.1 q0 3 ha rfl hi hdg kk
theorem j_aald (S : CallFix p m c cc nL s args Ts own) (hK : jK D cy s) (hW : jW D A H0 w H locs) {q0 a t0 : Nat} {n : Nat} {cA : ClassId} {C : String} {f : Nat → Option Nat} (ha : w[q0]? = some (a, .inl (cA, n, .inr (.inr (.inr (.inr f)))))) (ht : (tyG cy)[t0]? = some (cA, .object C)) {i : Int32} {j : Nat} (hi : vp_in i n) (hj : i.toNatClampNeg = j) {x : Value} (hv : va_rf (f j) = x) (hdg : decode cc pc = .ok (.aaload, 1))
    (kk : W p l e R s m args below meth c H locs cells slots Q (F0 m (pc + 1) ls (x :: rest))) : W p l e R s m args below meth c H locs cells slots Q (F0 m pc ls (.int i :: .ref a :: rest)) := by
  subst hj; subst hv
  exact va_aldq S.1 S.2.1 hK.1 hW.1 q0 t0 ha ht hi hdg kk
theorem j_iast (S : CallFix p m c cc nL s args Ts own) (hK : jK D cy s) (hW : jW D A H0 w H locs) {q0 a : Nat} {n : Nat} {f : Nat → Int32} (ha : w[q0]? = some (a, .inl (cy 0, n, .inl f))) {i x : Int32} {j : Nat} (hi : vp_in i n) (hj : i.toNatClampNeg = j) (hdg : decode cc pc = .ok (.iastore, 1))
    (kk : ∀ (H1 : Heap) (locs1 : List Loc) (w1 : va_W), jU w w1 [q0] → w1[q0]? = some (a, .inl (cy 0, n, .inl (upd f j x))) → jW D A H0 w1 H1 locs1 → W p l e R s m args below meth c H1 locs1 cells slots Q (F0 m (pc + 1) ls rest)) : W p l e R s m args below meth c H locs cells slots Q (F0 m pc ls (.int x :: .int i :: .ref a :: rest)) := by
  subst hj
  exact va_iast S.1 S.2.1 hK.1 hW.1 hW.2.1 hW.2.2 q0 0 ha rfl hi hdg (fun H1 locs1 h1 h2 h3 => kk H1 locs1 _ jU.set (jset ha) ⟨h1, h2, h3⟩)
theorem j_last (S : CallFix p m c cc nL s args Ts own) (hK : jK D cy s) (hW : jW D A H0 w H locs) {q0 a : Nat} {n : Nat} {f : Nat → Int64} (ha : w[q0]? = some (a, .inl (cy 1, n, .inr (.inl f)))) {i : Int32} {x : Int64} {j : Nat} (hi : vp_in i n) (hj : i.toNatClampNeg = j) (hdg : decode cc pc = .ok (.lastore, 1))
    (kk : ∀ (H1 : Heap) (locs1 : List Loc) (w1 : va_W), jU w w1 [q0] → w1[q0]? = some (a, .inl (cy 1, n, .inr (.inl (vp_updL f j x)))) → jW D A H0 w1 H1 locs1 → W p l e R s m args below meth c H1 locs1 cells slots Q (F0 m (pc + 1) ls rest)) : W p l e R s m args below meth c H locs cells slots Q (F0 m pc ls (.long x :: .int i :: .ref a :: rest)) := by
  subst hj
  exact va_last S.1 S.2.1 hK.1 hW.1 hW.2.1 hW.2.2 q0 1 ha rfl hi hdg (fun H1 locs1 h1 h2 h3 => kk H1 locs1 _ jU.set (jset ha) ⟨h1, h2, h3⟩)
end JW
