/-! ROWS FOR WHAT MAKES: the world's length beside it -/
section JNEW
variable {p : Program} {l : Launch} {e : Env} {R : Room} {s : State} {m : MethodId} {args : Array Value} {below : List Frame} {meth : Method} {c : Code} {H : Heap} {locs : List Loc} {cells slots : Nat} {Q : State → Prop}
variable {cc : ByteArray} {pc : Nat} {ls : Array Slot} {rest st : List Value} {D : va_G} {cy : Nat → ClassId} {A : Nat → Prop} {H0 : Heap} {w : va_W} {Ts : List Cond} {nL : Nat} {own : String}
theorem jpush {w : va_W} {n : Nat} {x : Nat × va_E} (h : w.length = n) : (w ++ [x])[n]? = some x ∧ (w ++ [x]).length = n + 1 := by
  subst h
  exact ⟨by rw [List.getElem?_append_right (Nat.le_refl _), Nat.sub_self]; rfl, List.length_append⟩
/-- an array's class is the one of its name -/
theorem jcy {tys : List (ClassId × FieldType)} {cA cB : ClassId} {ty : FieldType} {k : Nat} (hK : va_K D vwCl tys s) (h1 : tys[k]? = some (cB, ty)) (hK2 : va_K D vwCl (tys ++ [(cA, ty)]) s) : cA = cB := by
  have a := (hK.2 k _ h1).2
  have b := (hK2.2 tys.length (cA, ty) (by rw [List.getElem?_append_right (Nat.le_refl _), Nat.sub_self]; rfl)).2
  have key : ∀ (cX : ClassId), va_RA s cX ty → s.vm.findClass ("[" ++ ty.toString) = some cX := by
    intro cX hx
    unfold va_RA at hx
    split at hx
    · obtain ⟨kA, comp, -, -, -, h4⟩ := hx
      exact h4
    · exact hx
  exact Option.some.inj ((key _ b).symm.trans (key _ a))
theorem j_newL {C : String} {T : u_T} {N ci index n0 : Nat} {fs : List Value} (S : CallFix p m c cc nL s args Ts own) (hin : ∀ w ∈ u_ws C T N, w ∈ Ts) (ty : Nat → FieldType) (hty : ∀ k, k < N → parseFieldDescriptor (T k).2.2.1 = some (ty k)) (hcl : Cond.classLink own index C ∈ Ts) (hinst : Cond.instantiable C N ∈ Ts) (hini : Cond.initialized C ∈ Ts)
    (hK : jK D cy s) (hA : ∀ q, H0.size ≤ q → A q) (hW : jW D A H0 w H locs) (hlen : w.length = n0) (hc : vwCl[ci]? = some (C, T, N)) (hfs : ∀ j, j < N → fs[j]? = some (defaultValue (ty j))) (hcells : cells + 1 ≤ R.cells) (hslots : slots + N ≤ R.slots) (hdg : decode cc pc = .ok (.new index, 3))
    (kk : ∀ (q : Nat) (H1 : Heap) (w1 : va_W), jU w w1 [] → w1[n0]? = some (q, .inr (ci, fs)) → w1.length = n0 + 1 → jW D A H0 w1 H1 locs → W p l e R s m args below meth c H1 locs (cells + 1) (slots + N) Q (F0 m (pc + 3) ls (.ref q :: rest))) : W p l e R s m args below meth c H locs cells slots Q (F0 m pc ls rest) :=
  j_new S hin ty hty hcl hinst hini hK hA hW hc hfs hcells hslots hdg (fun q H1 h => kk q H1 _ jU.push (jpush hlen).1 (jpush hlen).2 h)
theorem j_newaL {n0 t0 N' : Nat} {atype : ArrayType} {ty : FieldType} {a0 : vp_A} {x : Int32} (S : CallFix p m c cc nL s args Ts own) (harr : Cond.arrayClass (newarray.typeOf atype) ∈ Ts) (hty : newarray.typeOf atype = ty)
    (hK : jK D cy s) (hA : ∀ q, H0.size ≤ q → A q) (hW : jW D A H0 w H locs) (hlen : w.length = n0) (ht : (tyG cy)[t0]? = some (cy t0, ty)) (ha : ∀ cA : ClassId, vp_cell cA a0 = arrV cA N' (fun _ => defaultValue ty)) (hn : ¬ x < 0) (hN : x.toNatClampNeg = N') (hb : N' * componentBytes ty ≤ 536870912) (hcells : cells + 1 ≤ R.cells) (hslots : slots + N' ≤ R.slots) (hdg : decode cc pc = .ok (.newarray atype, 2))
    (kk : ∀ (q : Nat) (H1 : Heap) (w1 : va_W), jU w w1 [] → w1[n0]? = some (q, .inl (cy t0, a0)) → w1.length = n0 + 1 → jW D A H0 w1 H1 locs → W p l e R s m args below meth c H1 locs (cells + 1) (slots + N') Q (F0 m (pc + 2) ls (.ref q :: rest))) : W p l e R s m args below meth c H locs cells slots Q (F0 m pc ls (.int x :: rest)) := by
  refine va_newa S.1 S.2.1 (S.2.2.2.2 _ harr) hty hK.1 hW.1 hW.2.1 hW.2.2 hA ha hn hN hb hcells hslots hdg (fun q cA H1 hK2 hP hD hS => ?_)
  have e := jcy hK.1 ht hK2
  subst e
  exact kk q H1 _ jU.push (jpush hlen).1 (jpush hlen).2 ⟨hP, hD, hS⟩
theorem j_newqL {n0 t0 N' index : Nat} {C : String} {x : Int32} (S : CallFix p m c cc nL s args Ts own) (hcl : Cond.classLink own index C ∈ Ts) (hover : va_AO C s)
    (hK : jK D cy s) (hA : ∀ q, H0.size ≤ q → A q) (hW : jW D A H0 w H locs) (hlen : w.length = n0) (ht : (tyG cy)[t0]? = some (cy t0, .object C)) (hn : ¬ x < 0) (hN : x.toNatClampNeg = N') (hb : N' * 4 ≤ 536870912) (hcells : cells + 1 ≤ R.cells) (hslots : slots + N' ≤ R.slots) (hdg : decode cc pc = .ok (.anewarray index, 3))
    (kk : ∀ (q : Nat) (H1 : Heap) (w1 : va_W), jU w w1 [] → w1[n0]? = some (q, .inl (cy t0, N', .inr (.inr (.inr (.inr (fun _ => none)))))) → w1.length = n0 + 1 → jW D A H0 w1 H1 locs → W p l e R s m args below meth c H1 locs (cells + 1) (slots + N') Q (F0 m (pc + 3) ls (.ref q :: rest))) : W p l e R s m args below meth c H locs cells slots Q (F0 m pc ls (.int x :: rest)) := by
  refine va_newq S.1 S.2.1 S.2.2.2.1 (S.2.2.2.2 _ hcl) hover hK.1 hW.1 hW.2.1 hW.2.2 hA hn hN hb hcells hslots hdg (fun q cA H1 hK2 hP hD hS => ?_)
  have e := jcy hK.1 ht hK2
  subst e
  exact kk q H1 _ jU.push (jpush hlen).1 (jpush hlen).2 ⟨hP, hD, hS⟩
theorem j_putL {ref C : String} {T : u_T} {N ci index n0 : Nat} (S : CallFix p m c cc nL s args Ts own) (hin : ∀ w ∈ u_ws C T N, w ∈ Ts) (ty0 : Nat → FieldType) (hty : ∀ k, k < N → parseFieldDescriptor (T k).2.2.1 = some (ty0 k)) (hnm : ∀ a, a < N → ∀ b, b < N → a ≠ b → (T a).2.1 ≠ (T b).2.1)
    (hK : jK D cy s) (hW : jW D A H0 w H locs) (hlen : w.length = n0) {q0 a : Nat} {fs : List Value} (he : w[q0]? = some (a, .inr (ci, fs))) (hc : vwCl[ci]? = some (C, T, N)) (k : Nat) (hk : k < N)
    (hlink : Cond.fieldLink own index ref (T k).2.1 (T k).2.2.1 ∈ Ts) (hsame : ∀ x, s.fieldFound? (T k).1 (T k).2.1 (T k).2.2.1 = some x → s.fieldFound? ref (T k).2.1 (T k).2.2.1 = some x) (hfin : (T k).2.2.2 = false) {ty : FieldType} {v : Value} (hd : parseFieldDescriptor (T k).2.2.1 = some ty) (hn : narrow ty v = v) (hfit : fits ty v = true) (hl : k < fs.length)
    (hdg : decode cc pc = .ok (.putfield index, 3)) (kk : ∀ (H1 : Heap) (locs1 : List Loc) (w1 : va_W), jU w w1 [q0] → w1[q0]? = some (a, .inr (ci, fs.set k v)) → w1.length = n0 → jW D A H0 w1 H1 locs1 → W p l e R s m args below meth c H1 locs1 cells slots Q (F0 m (pc + 3) ls rest)) : W p l e R s m args below meth c H locs cells slots Q (F0 m pc ls (v :: .ref a :: rest)) :=
  va_put S.1 S.2.1 S.2.2.2.2 hin ty0 hty hnm S.2.2.2.1 hK.1 hW.1 hW.2.1 hW.2.2 q0 he hc k hk (S.2.2.2.2 _ hlink) hsame hfin hd hn hfit hl hdg (fun H1 locs1 h1 h2 h3 => kk H1 locs1 _ jU.set (jset he) (by rw [List.length_set]; exact hlen) ⟨h1, h2, h3⟩)
theorem j_putFL {ref C : String} {T : u_T} {N ci index n0 : Nat} (S : CallFix p m c cc nL s args Ts own) (hin : ∀ w ∈ u_ws C T N, w ∈ Ts) (ty0 : Nat → FieldType) (hty : ∀ k, k < N → parseFieldDescriptor (T k).2.2.1 = some (ty0 k)) (hnm : ∀ a, a < N → ∀ b, b < N → a ≠ b → (T a).2.1 ≠ (T b).2.1)
    (hK : jK D cy s) (hW : jW D A H0 w H locs) (hlen : w.length = n0) {q0 a : Nat} {fs : List Value} (he : w[q0]? = some (a, .inr (ci, fs))) (hc : vwCl[ci]? = some (C, T, N)) (k : Nat) (hk : k < N)
    (hlink : Cond.fieldLink own index ref (T k).2.1 (T k).2.2.1 ∈ Ts) (hsame : ∀ x, s.fieldFound? (T k).1 (T k).2.1 (T k).2.2.1 = some x → s.fieldFound? ref (T k).2.1 (T k).2.2.1 = some x) (hfin : (T k).2.2.2 = true) (hin2 : meth.name = "<init>") (hdecl : (T k).1 = own) {ty : FieldType} {v : Value} (hd : parseFieldDescriptor (T k).2.2.1 = some ty) (hn : narrow ty v = v) (hfit : fits ty v = true) (hl : k < fs.length)
    (hdg : decode cc pc = .ok (.putfield index, 3)) (kk : ∀ (H1 : Heap) (locs1 : List Loc) (w1 : va_W), jU w w1 [q0] → w1[q0]? = some (a, .inr (ci, fs.set k v)) → w1.length = n0 → jW D A H0 w1 H1 locs1 → W p l e R s m args below meth c H1 locs1 cells slots Q (F0 m (pc + 3) ls rest)) : W p l e R s m args below meth c H locs cells slots Q (F0 m pc ls (v :: .ref a :: rest)) :=
  va_putF S.1 S.2.1 S.2.2.2.2 hin ty0 hty hnm S.2.2.2.1 hK.1 hW.1 hW.2.1 hW.2.2 q0 he hc k hk (S.2.2.2.2 _ hlink) hsame hfin hin2 hdecl hd hn hfit hl hdg (fun H1 locs1 h1 h2 h3 => kk H1 locs1 _ jU.set (jset he) (by rw [List.length_set]; exact hlen) ⟨h1, h2, h3⟩)
theorem j_aast {q0 t0 qk ci a n v j : Nat} {r : vw_C} {vs : List Value} {f : Nat → Option Nat} {i : Int32} (S : CallFix p m c cc nL s args Ts own) (hK : jK D cy s) (hW : jW D A H0 w H locs) (ha : w[q0]? = some (a, .inl (cy t0, n, .inr (.inr (.inr (.inr f)))))) (ht : (tyG cy)[t0]? = some (cy t0, .object r.1)) (hv : w[qk]? = some (v, .inr (ci, vs))) (hc : vwCl[ci]? = some r) (hi : vp_in i n) (hj : i.toNatClampNeg = j) (hdg : decode cc pc = .ok (.aastore, 1))
    (kk : ∀ (H1 : Heap) (locs1 : List Loc) (w1 : va_W), jU w w1 [q0] → w1[q0]? = some (a, .inl (cy t0, n, .inr (.inr (.inr (.inr (va_up f j (some v))))))) → w1.length = w.length → jW D A H0 w1 H1 locs1 → W p l e R s m args below meth c H1 locs1 cells slots Q (F0 m (pc + 1) ls rest)) : W p l e R s m args below meth c H locs cells slots Q (F0 m pc ls (.ref v :: .int i :: .ref a :: rest)) := by
  subst hj
  exact va_astq S.1 S.2.1 hK.1 hW.1 hW.2.1 hW.2.2 q0 t0 qk ci ha ht hv hc hi hdg (fun H1 locs1 h1 h2 h3 => kk H1 locs1 _ jU.set (jset ha) List.length_set ⟨h1, h2, h3⟩)
end JNEW
/-! ROWS FOR WHAT THROWS, and for private constructors of nest mates -/
section JTHR
variable {p : Program} {l : Launch} {e : Env} {R : Room} {s : State} {m : MethodId} {args : Array Value} {below : List Frame} {meth : Method} {c : Code} {H : Heap} {locs : List Loc} {cells slots : Nat} {Q : State → Prop}
variable {cc : ByteArray} {pc : Nat} {ls : Array Slot} {rest st : List Value} {D : va_G} {cy : Nat → ClassId} {A : Nat → Prop} {H0 : Heap} {w : va_W} {Ts : List Cond} {nL : Nat} {own : String}
theorem jx_gone {postxO : String → va_W → Prop} {cls : String} (hK : jK D cy s) (hW : jW D A s.heap w H locs) (hp : postxO cls w) : ∀ t : State, s.vm.Alike t.vm → H.size ≤ t.heap.size → (∀ q : Nat, q < H.size → t.heap[q]? = H[q]?) → jXC D cy A postxO cls s t :=
  fun t ha hz hq => ⟨w, hp, ⟨hW.1.kept (fun k x hx => hq x.1 ((hW.1 k x hx).lt)), va_K.moved ha hK.1, hW.2.1⟩, Nat.le_trans hW.2.2.1 hz, fun q h1 h2 => (hq q (Nat.lt_of_lt_of_le h1 hW.2.2.1)).trans (hW.2.2.2.1 q h1 h2)⟩
theorem jx_hat {X : String} {x0 : Cond} {ic : Nat} {names : List String} (S : CallFix p m c cc nL s args (x0 :: lw_good) own) (hcs : va_Nw (.castable X X) s) (hds : ∀ Y ∈ jSup, va_Nw (.declares (Bundle.initS Y)) s) (h1 : ∀ w ∈ (vx_atS own ic X names).filter goodWord, w ∈ lw_good) (h2 : ∀ w ∈ (vx_atS own ic X names).filter (fun w => !goodWord w), w ∈ Cond.castable X X :: jSup.map (fun Y => Cond.declares (Bundle.initS Y))) : ∀ w ∈ vx_atS own ic X names, w.before args s = true :=
  vx_hat (fun w hw => S.2.2.2.2 w (List.mem_cons_of_mem _ (h1 w hw))) h2 (vx_c (va_Nw.use rfl hcs) (fun w hw => by
    obtain ⟨Y, hY, e⟩ := List.mem_map.mp hw
    rw [← e]
    exact va_Nw.use rfl (hds Y hY)))
theorem jx_throw {L : List (Nat × String)} {cls text : String} {names : List String} {ik is ic MC MS sa : Nat} {postO : Option Value → va_W → Prop} {postxO : String → va_W → Prop} {x0 : Cond}
    (S : CallFix p m c cc nL s args (x0 :: lw_good) own) (htr : l.stackTraces = false) (hfit : Bundle.fit cls = true) (hnames : ∀ n ∈ names, Bundle.fit n = true) (hk : Cond.classLink own ik cls ∈ lw_good) (hini : Cond.initialized cls ∈ lw_good)
    (hg1 : ∀ w ∈ (vx_atS own ic cls names).filter goodWord, w ∈ lw_good) (hg2 : ∀ w ∈ (vx_atS own ic cls names).filter (fun w => !goodWord w), w ∈ Cond.castable cls cls :: jSup.map (fun Y => Cond.declares (Bundle.initS Y))) (hgood : ∀ w ∈ Cond.classLink own ik cls :: Cond.initialized cls :: vx_atS own ic cls names, vx_ot w = true) (hex : cls ∈ jExc)
    (hstr : vk_R own is text sa s) (hx : jX A s s.heap ∧ jXS L s) (hK : jK D cy s) (hW : jW D A s.heap w H locs) (hl : ls.size = nL) (htab : ∀ x ∈ c.exceptionTable.toList, False) (hlk : meth.locks = false)
    (hR : names.length + 3 < R.frames ∧ (rest.map fun v => v.category).sum + (13 * (names.length + 1) + 43) ≤ R.locals ∧ cells + 1 ≤ R.cells ∧ slots + 6 ≤ R.slots) (hm : cells + 1 ≤ MC ∧ slots + 6 ≤ MS)
    (d0 : decode cc pc = .ok (.new ik, 3)) (d3 : decode cc (pc + 3) = .ok (.dup, 1)) (d4 : decode cc (pc + 4) = .ok (.ldc is, 2)) (d6 : decode cc (pc + 6) = .ok (.invokespecial ic, 3)) (d9 : decode cc (pc + 9) = .ok (.athrow, 1)) (hp : postxO cls w) :
    W p l e R s m args below meth c H locs cells slots (vx_MQ below (jQ D cy A postO) (jXC D cy A postxO) args s MC MS A) (F0 m pc ls rest) :=
  vx_throwS S.1 S.2.1 htr S.2.2.2.1 hfit hnames (S.2.2.2.2 _ (List.mem_cons_of_mem _ hk)) (S.2.2.2.2 _ (List.mem_cons_of_mem _ hini)) hstr (jx_hat S (hx.2.2.1 cls hex) hx.2.2.2 hg1 hg2) hgood hx.1.1 hx.1.2 hW.2.2 (hl.trans S.2.2.1.symm) d0 d3 d4 d6 d9 (fun x h => (htab x h).elim) hR.1 hR.2.1 hR.2.2.1 hR.2.2.2 hlk (jx_gone hK hW hp) hW.2.2.2.2 hm.1 hm.2
theorem jx_throwW {L : List (Nat × String)} {cls text : String} {names : List String} {ik is ic MC MS sa : Nat} {postO : Option Value → va_W → Prop} {postxO : String → va_W → Prop} {x0 : Cond}
    (S : CallFix p m c cc nL s args (x0 :: lw_good) own) (htr : l.stackTraces = false) (hfit : Bundle.fit cls = true) (hnames : ∀ n ∈ names, Bundle.fit n = true) (hk : Cond.classLink own ik cls ∈ lw_good) (hini : Cond.initialized cls ∈ lw_good)
    (hg1 : ∀ w ∈ (vx_atS own ic cls names).filter goodWord, w ∈ lw_good) (hg2 : ∀ w ∈ (vx_atS own ic cls names).filter (fun w => !goodWord w), w ∈ Cond.castable cls cls :: jSup.map (fun Y => Cond.declares (Bundle.initS Y))) (hgood : ∀ w ∈ Cond.classLink own ik cls :: Cond.initialized cls :: vx_atS own ic cls names, vx_ot w = true) (hex : cls ∈ jExc)
    (hstr : vk_R own is text sa s) (hx : jX A s s.heap ∧ jXS L s) (hK : jK D cy s) (hW : jW D A s.heap w H locs) (hl : ls.size = nL) (htab : ∀ x ∈ c.exceptionTable.toList, False) (hlk : meth.locks = false)
    (hR : names.length + 3 < R.frames ∧ (rest.map fun v => v.category).sum + (13 * (names.length + 1) + 43) ≤ R.locals ∧ cells + 1 ≤ R.cells ∧ slots + 6 ≤ R.slots) (hm : cells + 1 ≤ MC ∧ slots + 6 ≤ MS)
    (d0 : decode cc pc = .ok (.new ik, 3)) (d3 : decode cc (pc + 3) = .ok (.dup, 1)) (d4 : decode cc (pc + 4) = .ok (.ldc_w is, 3)) (d6 : decode cc (pc + 7) = .ok (.invokespecial ic, 3)) (d9 : decode cc (pc + 10) = .ok (.athrow, 1)) (hp : postxO cls w) :
    W p l e R s m args below meth c H locs cells slots (vx_MQ below (jQ D cy A postO) (jXC D cy A postxO) args s MC MS A) (F0 m pc ls rest) :=
  vx_throwSW S.1 S.2.1 htr S.2.2.2.1 hfit hnames (S.2.2.2.2 _ (List.mem_cons_of_mem _ hk)) (S.2.2.2.2 _ (List.mem_cons_of_mem _ hini)) hstr (jx_hat S (hx.2.2.1 cls hex) hx.2.2.2 hg1 hg2) hgood hx.1.1 hx.1.2 hW.2.2 (hl.trans S.2.2.1.symm) d0 d3 d4 d6 d9 (fun x h => (htab x h).elim) hR.1 hR.2.1 hR.2.2.1 hR.2.2.2 hlk (jx_gone hK hW hp) hW.2.2.2.2 hm.1 hm.2
/-- a private constructor of a nest mate -/
theorem j_callIN {index maxL mc ms n b : Nat} {y : MethodName} {bytes : ByteArray} {host : String} {ws' : List Cond} {rm : Room} {As : List Value} {post : Option Value → va_W → Prop} {x0 : Cond}
    (S : CallFix p m c cc nL s args (x0 :: lw_good) own) (hK : jK D cy s) (hA : ∀ q, H0.size ≤ q → A q) (hW : jW D A H0 w H locs)
    (hM : jM l y (Cond.code y bytes maxL none :: ws') rm D cy w (.ref b :: As) mc ms post) (hN : va_Nw (.methodLinkNest own index y host) s) (hG : Cond.instanceMethod y ∈ lw_good ∧ Cond.initialized y.cls ∈ lw_good ∧ (∀ w ∈ Cond.code y bytes maxL none :: ws', w ∈ lw_good)) (hy : y.name = "<init>" ∧ jk y n)
    (hR : (rm.cells = mc ∧ rm.slots = ms) ∧ rm.frames + 1 ≤ R.frames ∧ 8 + (maxL + 11) + rm.locals ≤ R.locals) (hn : As.length = n) (hl : ls.size = nL) (hst : st = As.reverse ++ .ref b :: rest) (hcat : (rest.map fun v => v.category).sum ≤ 8)
    (hdg : decode cc pc = .ok (.invokespecial index, 3)) (hf : cells + mc ≤ R.cells ∧ slots + ms ≤ R.slots)
    (kk : ∀ (v : Option Value) (u : va_W) (H1 : Heap) (locs1 : List Loc), post v u → jW D A H0 u H1 locs1 → W p l e R s m args below meth c H1 locs1 (cells + mc) (slots + ms) Q (F0 m (pc + 3) ls (v.toList ++ rest))) :
    W p l e R s m args below meth c H locs cells slots Q (F0 m pc ls st) := by
  subst hst
  have ok : ∀ w ∈ lw_good, w.before args s = true := fun w h => S.2.2.2.2 w (List.mem_cons_of_mem _ h)
  refine j_run (As := .ref b :: As) hA hW (va_runIN (As := As) (rest := rest) S (hM H.size) ⟨va_cnB n S.2.2.2.2 (jgo hG.2.2) rfl hR.1.1 hR.1.2 hN (ok _ hG.2.1) hy.2 hR.2, hy.1, ok _ hG.1⟩ ⟨jPre_blind, fun U hU hw => hW.pre hK hU hw⟩ rfl hn hl rfl (lv_room hcat) hdg hf) kk
end JTHR
